/-! <init>()V of HookOver$History: method 8 -/
theorem bk_History_init_0 : blk 8 0 = some (((cd_History_init.lookup 0).getD ([], 0, []))) := rfl
theorem History_init_0 (d : Nat) (a0 : Nat) (h : Hp) : EX d 8 0 [(0, .inr (.inr a0))] [] h = if (0 < a0 ∧ 0 ≤ 8) then EX d 8 10 [(0, .inr (.inr a0))] [.inr (.inr ((Prod.fst h).length)), .inr (.inr a0)] (nwH h 20 140) else none := (EX_at bk_History_init_0 _ _ _).trans rfl
theorem bk_History_init_10 : blk 8 10 = some (((cd_History_init.lookup 10).getD ([], 0, []))) := rfl
theorem History_init_10 (d : Nat) (a0 : Nat) (r0 : Nat) (r1 : Nat) (h : Hp) : EX d 8 10 [(0, .inr (.inr a0))] [.inr (.inr r1), .inr (.inr r0)] h = if sK h r0 = 1 then EX d 8 13 [(0, .inr (.inr a0))] [] (pR h r0 0 r1) else none := (EX_at bk_History_init_10 _ _ _).trans rfl
theorem bk_History_init_13 : blk 8 13 = some (((cd_History_init.lookup 13).getD ([], 0, []))) := rfl
theorem History_init_13 (d : Nat) (a0 : Nat) (h : Hp) : EX d 8 13 [(0, .inr (.inr a0))] [] h = if sK h a0 = 1 then EX d 8 18 [(0, .inr (.inr a0))] [] (pI h a0 1 0) else none := (EX_at bk_History_init_13 _ _ _).trans rfl
theorem bk_History_init_18 : blk 8 18 = some (((cd_History_init.lookup 18).getD ([], 0, []))) := rfl
theorem History_init_18 (d : Nat) (a0 : Nat) (h : Hp) : EX d 8 18 [(0, .inr (.inr a0))] [] h = if sK h a0 = 1 then EX d 8 23 [] [] (pI h a0 2 0) else none := (EX_at bk_History_init_18 _ _ _).trans rfl
theorem bk_History_init_23 : blk 8 23 = some (((cd_History_init.lookup 23).getD ([], 0, []))) := rfl
theorem History_init_23 (d : Nat) (h : Hp) : EX d 8 23 [] [] h = some (.inl 0, h) := (EX_at bk_History_init_23 _ _ _).trans rfl
/-! forget()V of HookOver$History: method 68 -/
theorem bk_History_forget_0 : blk 68 0 = some (((cd_History_forget.lookup 0).getD ([], 0, []))) := rfl
theorem History_forget_0 (d : Nat) (a0 : Nat) (h : Hp) : EX d 68 0 [(0, .inr (.inr a0))] [] h = if sK h a0 = 1 then EX d 68 5 [] [] (pI h a0 2 0) else none := (EX_at bk_History_forget_0 _ _ _).trans rfl
theorem bk_History_forget_5 : blk 68 5 = some (((cd_History_forget.lookup 5).getD ([], 0, []))) := rfl
theorem History_forget_5 (d : Nat) (h : Hp) : EX d 68 5 [] [] h = some (.inl 0, h) := (EX_at bk_History_forget_5 _ _ _).trans rfl
/-! push(LHookOver$Hanging;)V of HookOver$History: method 130 -/
theorem bk_History_push_0 : blk 130 0 = some (((cd_History_push.lookup 0).getD ([], 0, []))) := rfl
theorem History_push_0 (d : Nat) (a0 : Nat) (a1 : Nat) (h : Hp) : EX d 130 0 [(0, .inr (.inr a0)), (1, .inr (.inr a1))] [] h = if sK h a0 = 1 then if sK h a1 = 0 then if sK h a0 = 1 then if (0 ≤ 8 ∧ sK h (hR h a1 0) = 20 ∧ sK h (hR h a0 0) = 20 ∧ (0 : Int) ≤ 0 ∧ (0 : Int) ≤ (wr ((hI h a0 1) * 14)) ∧ (0 : Int) ≤ 12 ∧ 0 + 12 ≤ ((sN h (hR h a1 0) : Nat) : Int) ∧ (wr ((hI h a0 1) * 14)) + 12 ≤ ((sN h (hR h a0 0) : Nat) : Int)) then EX d 130 23 [(0, .inr (.inr a0)), (1, .inr (.inr a1)), (2, .inl ((hI h a0 1) * 14))] [] (cpI h (hR h a1 0) 0 (hR h a0 0) (ix ((hI h a0 1) * 14)) 12) else none else none else none else none := (EX_at bk_History_push_0 _ _ _).trans rfl
theorem bk_History_push_23 : blk 130 23 = some (((cd_History_push.lookup 23).getD ([], 0, []))) := rfl
theorem History_push_23 (d : Nat) (a0 : Nat) (a1 : Nat) (x2 : Int) (h : Hp) : EX d 130 23 [(0, .inr (.inr a0)), (1, .inr (.inr a1)), (2, .inl x2)] [] h = if sK h a0 = 1 then if sK h a1 = 0 then if okx h (hR h a0 0) 20 (x2 + 12) then EX d 130 36 [(0, .inr (.inr a0)), (1, .inr (.inr a1)), (2, .inl x2)] [] (pI h (hR h a0 0) (ix (x2 + 12)) (hI h a1 1)) else none else none else none := (EX_at bk_History_push_23 _ _ _).trans rfl
theorem bk_History_push_36 : blk 130 36 = some (((cd_History_push.lookup 36).getD ([], 0, []))) := rfl
theorem History_push_36 (d : Nat) (a0 : Nat) (a1 : Nat) (x2 : Int) (h : Hp) : EX d 130 36 [(0, .inr (.inr a0)), (1, .inr (.inr a1)), (2, .inl x2)] [] h = if sK h a0 = 1 then if sK h a1 = 0 then if okx h (hR h a0 0) 20 (x2 + 13) then EX d 130 49 [(0, .inr (.inr a0))] [] (pI h (hR h a0 0) (ix (x2 + 13)) (hI h a1 2)) else none else none else none := (EX_at bk_History_push_36 _ _ _).trans rfl
theorem bk_History_push_49 : blk 130 49 = some (((cd_History_push.lookup 49).getD ([], 0, []))) := rfl
theorem History_push_49 (d : Nat) (a0 : Nat) (h : Hp) : EX d 130 49 [(0, .inr (.inr a0))] [] h = if sK h a0 = 1 then if sK h a0 = 1 then EX d 130 62 [(0, .inr (.inr a0))] [] (pI h a0 1 (bRem ((hI h a0 1) + 1) 10)) else none else none := (EX_at bk_History_push_49 _ _ _).trans rfl
theorem bk_History_push_62 : blk 130 62 = some (((cd_History_push.lookup 62).getD ([], 0, []))) := rfl
theorem History_push_62 (d : Nat) (a0 : Nat) (h : Hp) : EX d 130 62 [(0, .inr (.inr a0))] [] h = if sK h a0 = 1 then bak (EX d 130) 74 [] [.inr (.inr a0)] false (cal d 20 [.inl ((hI h a0 2) + 1), .inl 10] h) else none := (EX_at bk_History_push_62 _ _ _).trans rfl
theorem bk_History_push_74 : blk 130 74 = some (((cd_History_push.lookup 74).getD ([], 0, []))) := rfl
theorem History_push_74 (d : Nat) (r0 : Nat) (s1 : Int) (h : Hp) : EX d 130 74 [] [.inl s1, .inr (.inr r0)] h = if sK h r0 = 1 then EX d 130 77 [] [] (pI h r0 2 s1) else none := (EX_at bk_History_push_74 _ _ _).trans rfl
theorem bk_History_push_77 : blk 130 77 = some (((cd_History_push.lookup 77).getD ([], 0, []))) := rfl
theorem History_push_77 (d : Nat) (h : Hp) : EX d 130 77 [] [] h = some (.inl 0, h) := (EX_at bk_History_push_77 _ _ _).trans rfl
/-! pop(ILHookOver$Hanging;)V of HookOver$History: method 151 -/
theorem bk_History_pop_0 : blk 151 0 = some (((cd_History_pop.lookup 0).getD ([], 0, []))) := rfl
theorem History_pop_0 (d : Nat) (a0 : Nat) (x1 : Int) (a2 : Nat) (h : Hp) : EX d 151 0 [(0, .inr (.inr a0)), (1, .inl x1), (2, .inr (.inr a2))] [] h = if sK h a0 = 1 then if sK h a0 = 1 then EX d 151 10 [(0, .inr (.inr a0)), (1, .inl x1), (2, .inr (.inr a2))] [] (pI h a0 2 ((hI h a0 2) - x1)) else none else none := (EX_at bk_History_pop_0 _ _ _).trans rfl
theorem bk_History_pop_10 : blk 151 10 = some (((cd_History_pop.lookup 10).getD ([], 0, []))) := rfl
theorem History_pop_10 (d : Nat) (a0 : Nat) (x1 : Int) (a2 : Nat) (h : Hp) : EX d 151 10 [(0, .inr (.inr a0)), (1, .inl x1), (2, .inr (.inr a2))] [] h = if sK h a0 = 1 then bak (EX d 151) 22 [(0, .inr (.inr a0)), (2, .inr (.inr a2))] [.inr (.inr a0)] false (cal d 150 [.inl ((hI h a0 1) - x1), .inl 10] h) else none := (EX_at bk_History_pop_10 _ _ _).trans rfl
theorem bk_History_pop_22 : blk 151 22 = some (((cd_History_pop.lookup 22).getD ([], 0, []))) := rfl
theorem History_pop_22 (d : Nat) (a0 : Nat) (a2 : Nat) (r0 : Nat) (s1 : Int) (h : Hp) : EX d 151 22 [(0, .inr (.inr a0)), (2, .inr (.inr a2))] [.inl s1, .inr (.inr r0)] h = if sK h r0 = 1 then EX d 151 25 [(0, .inr (.inr a0)), (2, .inr (.inr a2))] [] (pI h r0 1 s1) else none := (EX_at bk_History_pop_22 _ _ _).trans rfl
theorem bk_History_pop_25 : blk 151 25 = some (((cd_History_pop.lookup 25).getD ([], 0, []))) := rfl
theorem History_pop_25 (d : Nat) (a0 : Nat) (a2 : Nat) (h : Hp) : EX d 151 25 [(0, .inr (.inr a0)), (2, .inr (.inr a2))] [] h = if sK h a0 = 1 then if sK h a0 = 1 then if sK h a2 = 0 then if (0 ≤ 8 ∧ sK h (hR h a0 0) = 20 ∧ sK h (hR h a2 0) = 20 ∧ (0 : Int) ≤ (wr ((hI h a0 1) * 14)) ∧ (0 : Int) ≤ 0 ∧ (0 : Int) ≤ 12 ∧ (wr ((hI h a0 1) * 14)) + 12 ≤ ((sN h (hR h a0 0) : Nat) : Int) ∧ 0 + 12 ≤ ((sN h (hR h a2 0) : Nat) : Int)) then EX d 151 48 [(0, .inr (.inr a0)), (2, .inr (.inr a2)), (3, .inl ((hI h a0 1) * 14))] [] (cpI h (hR h a0 0) (ix ((hI h a0 1) * 14)) (hR h a2 0) 0 12) else none else none else none else none := (EX_at bk_History_pop_25 _ _ _).trans rfl
theorem bk_History_pop_48 : blk 151 48 = some (((cd_History_pop.lookup 48).getD ([], 0, []))) := rfl
theorem History_pop_48 (d : Nat) (a0 : Nat) (a2 : Nat) (x3 : Int) (h : Hp) : EX d 151 48 [(0, .inr (.inr a0)), (2, .inr (.inr a2)), (3, .inl x3)] [] h = if sK h a0 = 1 then if okx h (hR h a0 0) 20 (x3 + 12) then if sK h a2 = 0 then EX d 151 61 [(0, .inr (.inr a0)), (2, .inr (.inr a2)), (3, .inl x3)] [] (pI h a2 1 (hI h (hR h a0 0) (ix (x3 + 12)))) else none else none else none := (EX_at bk_History_pop_48 _ _ _).trans rfl
theorem bk_History_pop_61 : blk 151 61 = some (((cd_History_pop.lookup 61).getD ([], 0, []))) := rfl
theorem History_pop_61 (d : Nat) (a0 : Nat) (a2 : Nat) (x3 : Int) (h : Hp) : EX d 151 61 [(0, .inr (.inr a0)), (2, .inr (.inr a2)), (3, .inl x3)] [] h = if sK h a0 = 1 then if okx h (hR h a0 0) 20 (x3 + 13) then if sK h a2 = 0 then EX d 151 74 [] [] (pI h a2 2 (hI h (hR h a0 0) (ix (x3 + 13)))) else none else none else none := (EX_at bk_History_pop_61 _ _ _).trans rfl
theorem bk_History_pop_74 : blk 151 74 = some (((cd_History_pop.lookup 74).getD ([], 0, []))) := rfl
theorem History_pop_74 (d : Nat) (h : Hp) : EX d 151 74 [] [] h = some (.inl 0, h) := (EX_at bk_History_pop_74 _ _ _).trans rfl
