/-! empty()V of HookOver$Window: method 4 -/
theorem bk_Window_empty_0 : blk 4 0 = some (((cd_Window_empty.lookup 0).getD ([], 0, []))) := rfl
theorem Window_empty_0 (d : Nat) (a0 : Nat) (h : Hp) : EX d 4 0 [(0, .inr (.inr a0))] [] h = if sK h a0 = 9 then bak (EX d 4) 8 [(0, .inr (.inr a0))] [] true (cal d 3 [.inr (.inr (hR h a0 0)), .inl 0] h) else none := (EX_at bk_Window_empty_0 _ _ _).trans rfl
theorem bk_Window_empty_8 : blk 4 8 = some (((cd_Window_empty.lookup 8).getD ([], 0, []))) := rfl
theorem Window_empty_8 (d : Nat) (a0 : Nat) (h : Hp) : EX d 4 8 [(0, .inr (.inr a0))] [] h = if sK h a0 = 9 then bak (EX d 4) 16 [(0, .inr (.inr a0))] [] true (cal d 3 [.inr (.inr (hR h a0 1)), .inl 0] h) else none := (EX_at bk_Window_empty_8 _ _ _).trans rfl
theorem bk_Window_empty_16 : blk 4 16 = some (((cd_Window_empty.lookup 16).getD ([], 0, []))) := rfl
theorem Window_empty_16 (d : Nat) (a0 : Nat) (h : Hp) : EX d 4 16 [(0, .inr (.inr a0))] [] h = if sK h a0 = 9 then bak (EX d 4) 24 [(0, .inr (.inr a0))] [] true (cal d 3 [.inr (.inr (hR h a0 2)), .inl 0] h) else none := (EX_at bk_Window_empty_16 _ _ _).trans rfl
theorem bk_Window_empty_24 : blk 4 24 = some (((cd_Window_empty.lookup 24).getD ([], 0, []))) := rfl
theorem Window_empty_24 (d : Nat) (a0 : Nat) (h : Hp) : EX d 4 24 [(0, .inr (.inr a0))] [] h = if sK h a0 = 9 then bak (EX d 4) 32 [(0, .inr (.inr a0))] [] true (cal d 3 [.inr (.inr (hR h a0 3)), .inl 0] h) else none := (EX_at bk_Window_empty_24 _ _ _).trans rfl
theorem bk_Window_empty_32 : blk 4 32 = some (((cd_Window_empty.lookup 32).getD ([], 0, []))) := rfl
theorem Window_empty_32 (d : Nat) (a0 : Nat) (h : Hp) : EX d 4 32 [(0, .inr (.inr a0))] [] h = if sK h a0 = 9 then bak (EX d 4) 40 [(0, .inr (.inr a0))] [] true (cal d 3 [.inr (.inr (hR h a0 4)), .inl 0] h) else none := (EX_at bk_Window_empty_32 _ _ _).trans rfl
theorem bk_Window_empty_40 : blk 4 40 = some (((cd_Window_empty.lookup 40).getD ([], 0, []))) := rfl
theorem Window_empty_40 (d : Nat) (a0 : Nat) (h : Hp) : EX d 4 40 [(0, .inr (.inr a0))] [] h = if sK h a0 = 9 then EX d 4 45 [(0, .inr (.inr a0))] [] (pI h a0 5 0) else none := (EX_at bk_Window_empty_40 _ _ _).trans rfl
theorem bk_Window_empty_45 : blk 4 45 = some (((cd_Window_empty.lookup 45).getD ([], 0, []))) := rfl
theorem Window_empty_45 (d : Nat) (a0 : Nat) (h : Hp) : EX d 4 45 [(0, .inr (.inr a0))] [] h = if sK h a0 = 9 then EX d 4 50 [(0, .inr (.inr a0))] [] (pI h a0 6 0) else none := (EX_at bk_Window_empty_45 _ _ _).trans rfl
theorem bk_Window_empty_50 : blk 4 50 = some (((cd_Window_empty.lookup 50).getD ([], 0, []))) := rfl
theorem Window_empty_50 (d : Nat) (a0 : Nat) (h : Hp) : EX d 4 50 [(0, .inr (.inr a0))] [] h = if sK h a0 = 9 then EX d 4 55 [(0, .inr (.inr a0))] [] (pI h a0 7 0) else none := (EX_at bk_Window_empty_50 _ _ _).trans rfl
theorem bk_Window_empty_55 : blk 4 55 = some (((cd_Window_empty.lookup 55).getD ([], 0, []))) := rfl
theorem Window_empty_55 (d : Nat) (a0 : Nat) (h : Hp) : EX d 4 55 [(0, .inr (.inr a0))] [] h = if sK h a0 = 9 then EX d 4 60 [(0, .inr (.inr a0))] [] (pI h a0 8 1) else none := (EX_at bk_Window_empty_55 _ _ _).trans rfl
theorem bk_Window_empty_60 : blk 4 60 = some (((cd_Window_empty.lookup 60).getD ([], 0, []))) := rfl
theorem Window_empty_60 (d : Nat) (a0 : Nat) (h : Hp) : EX d 4 60 [(0, .inr (.inr a0))] [] h = if sK h a0 = 9 then EX d 4 65 [(0, .inr (.inr a0))] [] (pI h a0 9 5) else none := (EX_at bk_Window_empty_60 _ _ _).trans rfl
theorem bk_Window_empty_65 : blk 4 65 = some (((cd_Window_empty.lookup 65).getD ([], 0, []))) := rfl
theorem Window_empty_65 (d : Nat) (a0 : Nat) (h : Hp) : EX d 4 65 [(0, .inr (.inr a0))] [] h = if sK h a0 = 9 then EX d 4 70 [(0, .inr (.inr a0))] [] (pI h a0 10 2) else none := (EX_at bk_Window_empty_65 _ _ _).trans rfl
theorem bk_Window_empty_70 : blk 4 70 = some (((cd_Window_empty.lookup 70).getD ([], 0, []))) := rfl
theorem Window_empty_70 (d : Nat) (a0 : Nat) (h : Hp) : EX d 4 70 [(0, .inr (.inr a0))] [] h = if sK h a0 = 9 then EX d 4 75 [(0, .inr (.inr a0))] [] (pI h a0 11 0) else none := (EX_at bk_Window_empty_70 _ _ _).trans rfl
theorem bk_Window_empty_75 : blk 4 75 = some (((cd_Window_empty.lookup 75).getD ([], 0, []))) := rfl
theorem Window_empty_75 (d : Nat) (a0 : Nat) (h : Hp) : EX d 4 75 [(0, .inr (.inr a0))] [] h = if sK h a0 = 9 then EX d 4 80 [(0, .inr (.inr a0))] [] (pI h a0 12 0) else none := (EX_at bk_Window_empty_75 _ _ _).trans rfl
theorem bk_Window_empty_80 : blk 4 80 = some (((cd_Window_empty.lookup 80).getD ([], 0, []))) := rfl
theorem Window_empty_80 (d : Nat) (a0 : Nat) (h : Hp) : EX d 4 80 [(0, .inr (.inr a0))] [] h = if sK h a0 = 9 then EX d 4 86 [(0, .inr (.inr a0))] [] (pI h a0 13 10) else none := (EX_at bk_Window_empty_80 _ _ _).trans rfl
theorem bk_Window_empty_86 : blk 4 86 = some (((cd_Window_empty.lookup 86).getD ([], 0, []))) := rfl
theorem Window_empty_86 (d : Nat) (a0 : Nat) (h : Hp) : EX d 4 86 [(0, .inr (.inr a0))] [] h = if sK h a0 = 9 then EX d 4 91 [] [] (pI h a0 14 0) else none := (EX_at bk_Window_empty_86 _ _ _).trans rfl
theorem bk_Window_empty_91 : blk 4 91 = some (((cd_Window_empty.lookup 91).getD ([], 0, []))) := rfl
theorem Window_empty_91 (d : Nat) (h : Hp) : EX d 4 91 [] [] h = some (.inl 0, h) := (EX_at bk_Window_empty_91 _ _ _).trans rfl
/-! <init>()V of HookOver$Window: method 5 -/
theorem bk_Window_init_0 : blk 5 0 = some (((cd_Window_init.lookup 0).getD ([], 0, []))) := rfl
theorem Window_init_0 (d : Nat) (a0 : Nat) (h : Hp) : EX d 5 0 [(0, .inr (.inr a0))] [] h = if (0 < a0 ∧ 0 ≤ 8) then EX d 5 9 [(0, .inr (.inr a0))] [.inr (.inr ((Prod.fst h).length)), .inr (.inr a0)] (nwH h 20 12) else none := (EX_at bk_Window_init_0 _ _ _).trans rfl
theorem bk_Window_init_9 : blk 5 9 = some (((cd_Window_init.lookup 9).getD ([], 0, []))) := rfl
theorem Window_init_9 (d : Nat) (a0 : Nat) (r0 : Nat) (r1 : Nat) (h : Hp) : EX d 5 9 [(0, .inr (.inr a0))] [.inr (.inr r1), .inr (.inr r0)] h = if sK h r0 = 9 then EX d 5 12 [(0, .inr (.inr a0))] [] (pR h r0 0 r1) else none := (EX_at bk_Window_init_9 _ _ _).trans rfl
theorem bk_Window_init_12 : blk 5 12 = some (((cd_Window_init.lookup 12).getD ([], 0, []))) := rfl
theorem Window_init_12 (d : Nat) (a0 : Nat) (h : Hp) : EX d 5 12 [(0, .inr (.inr a0))] [] h = EX d 5 17 [(0, .inr (.inr a0))] [.inr (.inr ((Prod.fst h).length)), .inr (.inr a0)] (nwH h 20 12) := (EX_at bk_Window_init_12 _ _ _).trans rfl
theorem bk_Window_init_17 : blk 5 17 = some (((cd_Window_init.lookup 17).getD ([], 0, []))) := rfl
theorem Window_init_17 (d : Nat) (a0 : Nat) (r0 : Nat) (r1 : Nat) (h : Hp) : EX d 5 17 [(0, .inr (.inr a0))] [.inr (.inr r1), .inr (.inr r0)] h = if sK h r0 = 9 then EX d 5 20 [(0, .inr (.inr a0))] [] (pR h r0 1 r1) else none := (EX_at bk_Window_init_17 _ _ _).trans rfl
theorem bk_Window_init_20 : blk 5 20 = some (((cd_Window_init.lookup 20).getD ([], 0, []))) := rfl
theorem Window_init_20 (d : Nat) (a0 : Nat) (h : Hp) : EX d 5 20 [(0, .inr (.inr a0))] [] h = EX d 5 25 [(0, .inr (.inr a0))] [.inr (.inr ((Prod.fst h).length)), .inr (.inr a0)] (nwH h 20 12) := (EX_at bk_Window_init_20 _ _ _).trans rfl
theorem bk_Window_init_25 : blk 5 25 = some (((cd_Window_init.lookup 25).getD ([], 0, []))) := rfl
theorem Window_init_25 (d : Nat) (a0 : Nat) (r0 : Nat) (r1 : Nat) (h : Hp) : EX d 5 25 [(0, .inr (.inr a0))] [.inr (.inr r1), .inr (.inr r0)] h = if sK h r0 = 9 then EX d 5 28 [(0, .inr (.inr a0))] [] (pR h r0 2 r1) else none := (EX_at bk_Window_init_25 _ _ _).trans rfl
theorem bk_Window_init_28 : blk 5 28 = some (((cd_Window_init.lookup 28).getD ([], 0, []))) := rfl
theorem Window_init_28 (d : Nat) (a0 : Nat) (h : Hp) : EX d 5 28 [(0, .inr (.inr a0))] [] h = EX d 5 33 [(0, .inr (.inr a0))] [.inr (.inr ((Prod.fst h).length)), .inr (.inr a0)] (nwH h 20 12) := (EX_at bk_Window_init_28 _ _ _).trans rfl
theorem bk_Window_init_33 : blk 5 33 = some (((cd_Window_init.lookup 33).getD ([], 0, []))) := rfl
theorem Window_init_33 (d : Nat) (a0 : Nat) (r0 : Nat) (r1 : Nat) (h : Hp) : EX d 5 33 [(0, .inr (.inr a0))] [.inr (.inr r1), .inr (.inr r0)] h = if sK h r0 = 9 then EX d 5 36 [(0, .inr (.inr a0))] [] (pR h r0 3 r1) else none := (EX_at bk_Window_init_33 _ _ _).trans rfl
theorem bk_Window_init_36 : blk 5 36 = some (((cd_Window_init.lookup 36).getD ([], 0, []))) := rfl
theorem Window_init_36 (d : Nat) (a0 : Nat) (h : Hp) : EX d 5 36 [(0, .inr (.inr a0))] [] h = EX d 5 41 [(0, .inr (.inr a0))] [.inr (.inr ((Prod.fst h).length)), .inr (.inr a0)] (nwH h 20 12) := (EX_at bk_Window_init_36 _ _ _).trans rfl
theorem bk_Window_init_41 : blk 5 41 = some (((cd_Window_init.lookup 41).getD ([], 0, []))) := rfl
theorem Window_init_41 (d : Nat) (a0 : Nat) (r0 : Nat) (r1 : Nat) (h : Hp) : EX d 5 41 [(0, .inr (.inr a0))] [.inr (.inr r1), .inr (.inr r0)] h = if sK h r0 = 9 then EX d 5 44 [(0, .inr (.inr a0))] [] (pR h r0 4 r1) else none := (EX_at bk_Window_init_41 _ _ _).trans rfl
theorem bk_Window_init_44 : blk 5 44 = some (((cd_Window_init.lookup 44).getD ([], 0, []))) := rfl
theorem Window_init_44 (d : Nat) (a0 : Nat) (h : Hp) : EX d 5 44 [(0, .inr (.inr a0))] [] h = if sK h a0 = 9 then bak (EX d 5) 48 [] [] true (cal d 4 [.inr (.inr a0)] h) else none := (EX_at bk_Window_init_44 _ _ _).trans rfl
theorem bk_Window_init_48 : blk 5 48 = some (((cd_Window_init.lookup 48).getD ([], 0, []))) := rfl
theorem Window_init_48 (d : Nat) (h : Hp) : EX d 5 48 [] [] h = some (.inl 0, h) := (EX_at bk_Window_init_48 _ _ _).trans rfl
/-! isHook(I)Z of HookOver$Window: method 35 -/
theorem bk_Window_isHook_0 : blk 35 0 = some (((cd_Window_isHook.lookup 0).getD ([], 0, []))) := rfl
theorem Window_isHook_0 (d : Nat) (a0 : Nat) (x1 : Int) (h : Hp) : EX d 35 0 [(0, .inr (.inr a0)), (1, .inl x1)] [] h = if (wr x1) < 0 then EX d 35 16 [] [] h else EX d 35 4 [(0, .inr (.inr a0)), (1, .inl x1)] [] h := (EX_at bk_Window_isHook_0 _ _ _).trans rfl
theorem bk_Window_isHook_4 : blk 35 4 = some (((cd_Window_isHook.lookup 4).getD ([], 0, []))) := rfl
theorem Window_isHook_4 (d : Nat) (a0 : Nat) (x1 : Int) (h : Hp) : EX d 35 4 [(0, .inr (.inr a0)), (1, .inl x1)] [] h = if sK h a0 = 9 then if (wr x1) < (wr (hI h a0 5)) then EX d 35 12 [] [] h else EX d 35 16 [] [] h else none := (EX_at bk_Window_isHook_4 _ _ _).trans rfl
theorem bk_Window_isHook_12 : blk 35 12 = some (((cd_Window_isHook.lookup 12).getD ([], 0, []))) := rfl
theorem Window_isHook_12 (d : Nat) (h : Hp) : EX d 35 12 [] [] h = EX d 35 17 [] [.inl 1] h := (EX_at bk_Window_isHook_12 _ _ _).trans rfl
theorem bk_Window_isHook_16 : blk 35 16 = some (((cd_Window_isHook.lookup 16).getD ([], 0, []))) := rfl
theorem Window_isHook_16 (d : Nat) (h : Hp) : EX d 35 16 [] [] h = EX d 35 17 [] [.inl 0] h := (EX_at bk_Window_isHook_16 _ _ _).trans rfl
theorem bk_Window_isHook_17 : blk 35 17 = some (((cd_Window_isHook.lookup 17).getD ([], 0, []))) := rfl
theorem Window_isHook_17 (d : Nat) (s0 : Int) (h : Hp) : EX d 35 17 [] [.inl s0] h = if ((s0 : Int) = 0 ∨ (s0 : Int) = 1) then some (.inl s0, h) else none := (EX_at bk_Window_isHook_17 _ _ _).trans rfl
/-! isRing(I)Z of HookOver$Window: method 36 -/
theorem bk_Window_isRing_0 : blk 36 0 = some (((cd_Window_isRing.lookup 0).getD ([], 0, []))) := rfl
theorem Window_isRing_0 (d : Nat) (a0 : Nat) (x1 : Int) (h : Hp) : EX d 36 0 [(0, .inr (.inr a0)), (1, .inl x1)] [] h = if (wr x1) < 0 then EX d 36 16 [] [] h else EX d 36 4 [(0, .inr (.inr a0)), (1, .inl x1)] [] h := (EX_at bk_Window_isRing_0 _ _ _).trans rfl
theorem bk_Window_isRing_4 : blk 36 4 = some (((cd_Window_isRing.lookup 4).getD ([], 0, []))) := rfl
theorem Window_isRing_4 (d : Nat) (a0 : Nat) (x1 : Int) (h : Hp) : EX d 36 4 [(0, .inr (.inr a0)), (1, .inl x1)] [] h = if sK h a0 = 9 then if (wr x1) < (wr (hI h a0 6)) then EX d 36 12 [] [] h else EX d 36 16 [] [] h else none := (EX_at bk_Window_isRing_4 _ _ _).trans rfl
theorem bk_Window_isRing_12 : blk 36 12 = some (((cd_Window_isRing.lookup 12).getD ([], 0, []))) := rfl
theorem Window_isRing_12 (d : Nat) (h : Hp) : EX d 36 12 [] [] h = EX d 36 17 [] [.inl 1] h := (EX_at bk_Window_isRing_12 _ _ _).trans rfl
theorem bk_Window_isRing_16 : blk 36 16 = some (((cd_Window_isRing.lookup 16).getD ([], 0, []))) := rfl
theorem Window_isRing_16 (d : Nat) (h : Hp) : EX d 36 16 [] [] h = EX d 36 17 [] [.inl 0] h := (EX_at bk_Window_isRing_16 _ _ _).trans rfl
theorem bk_Window_isRing_17 : blk 36 17 = some (((cd_Window_isRing.lookup 17).getD ([], 0, []))) := rfl
theorem Window_isRing_17 (d : Nat) (s0 : Int) (h : Hp) : EX d 36 17 [] [.inl s0] h = if ((s0 : Int) = 0 ∨ (s0 : Int) = 1) then some (.inl s0, h) else none := (EX_at bk_Window_isRing_17 _ _ _).trans rfl
/-! isBroken(I)Z of HookOver$Window: method 38 -/
theorem bk_Window_isBroken_0 : blk 38 0 = some (((cd_Window_isBroken.lookup 0).getD ([], 0, []))) := rfl
theorem Window_isBroken_0 (d : Nat) (a0 : Nat) (x1 : Int) (h : Hp) : EX d 38 0 [(0, .inr (.inr a0)), (1, .inl x1)] [] h = if sK h a0 = 9 then if (wr (bAnd (bUshr (hI h a0 7) x1) 1)) = 0 then EX d 38 15 [] [] h else EX d 38 11 [] [] h else none := (EX_at bk_Window_isBroken_0 _ _ _).trans rfl
theorem bk_Window_isBroken_11 : blk 38 11 = some (((cd_Window_isBroken.lookup 11).getD ([], 0, []))) := rfl
theorem Window_isBroken_11 (d : Nat) (h : Hp) : EX d 38 11 [] [] h = EX d 38 16 [] [.inl 1] h := (EX_at bk_Window_isBroken_11 _ _ _).trans rfl
theorem bk_Window_isBroken_15 : blk 38 15 = some (((cd_Window_isBroken.lookup 15).getD ([], 0, []))) := rfl
theorem Window_isBroken_15 (d : Nat) (h : Hp) : EX d 38 15 [] [] h = EX d 38 16 [] [.inl 0] h := (EX_at bk_Window_isBroken_15 _ _ _).trans rfl
theorem bk_Window_isBroken_16 : blk 38 16 = some (((cd_Window_isBroken.lookup 16).getD ([], 0, []))) := rfl
theorem Window_isBroken_16 (d : Nat) (s0 : Int) (h : Hp) : EX d 38 16 [] [.inl s0] h = if ((s0 : Int) = 0 ∨ (s0 : Int) = 1) then some (.inl s0, h) else none := (EX_at bk_Window_isBroken_16 _ _ _).trans rfl
/-! sagBetween(IIII)I of HookOver$Window: method 42 -/
theorem bk_Window_sagBetween_0 : blk 42 0 = some (((cd_Window_sagBetween.lookup 0).getD ([], 0, []))) := rfl
theorem Window_sagBetween_0 (d : Nat) (a0 : Nat) (x1 : Int) (x2 : Int) (x3 : Int) (x4 : Int) (h : Hp) : EX d 42 0 [(0, .inr (.inr a0)), (1, .inl x1), (2, .inl x2), (3, .inl x3), (4, .inl x4)] [] h = if sK h a0 = 9 then if okx h (hR h a0 0) 20 x3 then if sK h a0 = 9 then if okx h (hR h a0 0) 20 x1 then if sK h a0 = 9 then if okx h (hR h a0 1) 20 x4 then if sK h a0 = 9 then if okx h (hR h a0 1) 20 x2 then some (.inl (((hI h (hR h a0 0) (ix x3)) - (hI h (hR h a0 0) (ix x1))) - ((hI h (hR h a0 1) (ix x4)) - (hI h (hR h a0 1) (ix x2)))), h) else none else none else none else none else none else none else none else none := (EX_at bk_Window_sagBetween_0 _ _ _).trans rfl
/-! isRight(II)Z of HookOver$Window: method 105 -/
theorem bk_Window_isRight_0 : blk 105 0 = some (((cd_Window_isRight.lookup 0).getD ([], 0, []))) := rfl
theorem Window_isRight_0 (d : Nat) (a0 : Nat) (x1 : Int) (x2 : Int) (h : Hp) : EX d 105 0 [(0, .inr (.inr a0)), (1, .inl x1), (2, .inl x2)] [] h = if sK h a0 = 9 then bak (EX d 105) 5 [(0, .inr (.inr a0)), (1, .inl x1), (2, .inl x2)] [] false (cal d 35 [.inr (.inr a0), .inl x1] h) else none := (EX_at bk_Window_isRight_0 _ _ _).trans rfl
theorem bk_Window_isRight_5 : blk 105 5 = some (((cd_Window_isRight.lookup 5).getD ([], 0, []))) := rfl
theorem Window_isRight_5 (d : Nat) (a0 : Nat) (x1 : Int) (x2 : Int) (s0 : Int) (h : Hp) : EX d 105 5 [(0, .inr (.inr a0)), (1, .inl x1), (2, .inl x2)] [.inl s0] h = if (wr s0) = 0 then EX d 105 33 [] [] h else EX d 105 8 [(0, .inr (.inr a0)), (1, .inl x1), (2, .inl x2)] [] h := (EX_at bk_Window_isRight_5 _ _ _).trans rfl
theorem bk_Window_isRight_8 : blk 105 8 = some (((cd_Window_isRight.lookup 8).getD ([], 0, []))) := rfl
theorem Window_isRight_8 (d : Nat) (a0 : Nat) (x1 : Int) (x2 : Int) (h : Hp) : EX d 105 8 [(0, .inr (.inr a0)), (1, .inl x1), (2, .inl x2)] [] h = if sK h a0 = 9 then bak (EX d 105) 13 [(0, .inr (.inr a0)), (1, .inl x1), (2, .inl x2)] [] false (cal d 36 [.inr (.inr a0), .inl x2] h) else none := (EX_at bk_Window_isRight_8 _ _ _).trans rfl
theorem bk_Window_isRight_13 : blk 105 13 = some (((cd_Window_isRight.lookup 13).getD ([], 0, []))) := rfl
theorem Window_isRight_13 (d : Nat) (a0 : Nat) (x1 : Int) (x2 : Int) (s0 : Int) (h : Hp) : EX d 105 13 [(0, .inr (.inr a0)), (1, .inl x1), (2, .inl x2)] [.inl s0] h = if (wr s0) = 0 then EX d 105 33 [] [] h else EX d 105 16 [(0, .inr (.inr a0)), (1, .inl x1), (2, .inl x2)] [] h := (EX_at bk_Window_isRight_13 _ _ _).trans rfl
theorem bk_Window_isRight_16 : blk 105 16 = some (((cd_Window_isRight.lookup 16).getD ([], 0, []))) := rfl
theorem Window_isRight_16 (d : Nat) (a0 : Nat) (x1 : Int) (x2 : Int) (h : Hp) : EX d 105 16 [(0, .inr (.inr a0)), (1, .inl x1), (2, .inl x2)] [] h = if sK h a0 = 9 then if okx h (hR h a0 4) 20 x1 then if (wr (bAnd (bUshr (hI h (hR h a0 4) (ix x1)) x2) 1)) = 0 then EX d 105 33 [] [] h else EX d 105 29 [] [] h else none else none := (EX_at bk_Window_isRight_16 _ _ _).trans rfl
theorem bk_Window_isRight_29 : blk 105 29 = some (((cd_Window_isRight.lookup 29).getD ([], 0, []))) := rfl
theorem Window_isRight_29 (d : Nat) (h : Hp) : EX d 105 29 [] [] h = EX d 105 34 [] [.inl 1] h := (EX_at bk_Window_isRight_29 _ _ _).trans rfl
theorem bk_Window_isRight_33 : blk 105 33 = some (((cd_Window_isRight.lookup 33).getD ([], 0, []))) := rfl
theorem Window_isRight_33 (d : Nat) (h : Hp) : EX d 105 33 [] [] h = EX d 105 34 [] [.inl 0] h := (EX_at bk_Window_isRight_33 _ _ _).trans rfl
theorem bk_Window_isRight_34 : blk 105 34 = some (((cd_Window_isRight.lookup 34).getD ([], 0, []))) := rfl
theorem Window_isRight_34 (d : Nat) (s0 : Int) (h : Hp) : EX d 105 34 [] [.inl s0] h = if ((s0 : Int) = 0 ∨ (s0 : Int) = 1) then some (.inl s0, h) else none := (EX_at bk_Window_isRight_34 _ _ _).trans rfl
/-! chairFor(II)I of HookOver$Window: method 131 -/
theorem bk_Window_chairFor_0 : blk 131 0 = some (((cd_Window_chairFor.lookup 0).getD ([], 0, []))) := rfl
theorem Window_chairFor_0 (d : Nat) (a0 : Nat) (x1 : Int) (x2 : Int) (h : Hp) : EX d 131 0 [(0, .inr (.inr a0)), (1, .inl x1), (2, .inl x2)] [] h = if sK h a0 = 9 then if (wr (x1 + (hI h a0 8))) < (wr x2) then EX d 131 10 [(0, .inr (.inr a0)), (2, .inl x2)] [] h else EX d 131 17 [(0, .inr (.inr a0)), (1, .inl x1), (2, .inl x2)] [] h else none := (EX_at bk_Window_chairFor_0 _ _ _).trans rfl
theorem bk_Window_chairFor_10 : blk 131 10 = some (((cd_Window_chairFor.lookup 10).getD ([], 0, []))) := rfl
theorem Window_chairFor_10 (d : Nat) (a0 : Nat) (x2 : Int) (h : Hp) : EX d 131 10 [(0, .inr (.inr a0)), (2, .inl x2)] [] h = if sK h a0 = 9 then some (.inl (x2 - (hI h a0 8)), h) else none := (EX_at bk_Window_chairFor_10 _ _ _).trans rfl
theorem bk_Window_chairFor_17 : blk 131 17 = some (((cd_Window_chairFor.lookup 17).getD ([], 0, []))) := rfl
theorem Window_chairFor_17 (d : Nat) (a0 : Nat) (x1 : Int) (x2 : Int) (h : Hp) : EX d 131 17 [(0, .inr (.inr a0)), (1, .inl x1), (2, .inl x2)] [] h = if sK h a0 = 9 then if (wr x2) < (wr (x1 - (hI h a0 8))) then EX d 131 27 [(0, .inr (.inr a0)), (2, .inl x2)] [] h else EX d 131 34 [(1, .inl x1)] [] h else none := (EX_at bk_Window_chairFor_17 _ _ _).trans rfl
theorem bk_Window_chairFor_27 : blk 131 27 = some (((cd_Window_chairFor.lookup 27).getD ([], 0, []))) := rfl
theorem Window_chairFor_27 (d : Nat) (a0 : Nat) (x2 : Int) (h : Hp) : EX d 131 27 [(0, .inr (.inr a0)), (2, .inl x2)] [] h = if sK h a0 = 9 then some (.inl (x2 + (hI h a0 8)), h) else none := (EX_at bk_Window_chairFor_27 _ _ _).trans rfl
theorem bk_Window_chairFor_34 : blk 131 34 = some (((cd_Window_chairFor.lookup 34).getD ([], 0, []))) := rfl
theorem Window_chairFor_34 (d : Nat) (x1 : Int) (h : Hp) : EX d 131 34 [(1, .inl x1)] [] h = some (.inl x1, h) := (EX_at bk_Window_chairFor_34 _ _ _).trans rfl
/-! secondsAt(II)I of HookOver$Window: method 133 -/
theorem bk_Window_secondsAt_0 : blk 133 0 = some (((cd_Window_secondsAt.lookup 0).getD ([], 0, []))) := rfl
theorem Window_secondsAt_0 (d : Nat) (a0 : Nat) (x1 : Int) (x2 : Int) (h : Hp) : EX d 133 0 [(0, .inr (.inr a0)), (1, .inl x1), (2, .inl x2)] [] h = if sK h a0 = 9 then bak (EX d 133) 6 [(0, .inr (.inr a0)), (1, .inl x1)] [] false (cal d 131 [.inr (.inr a0), .inl x1, .inl x2] h) else none := (EX_at bk_Window_secondsAt_0 _ _ _).trans rfl
theorem bk_Window_secondsAt_6 : blk 133 6 = some (((cd_Window_secondsAt.lookup 6).getD ([], 0, []))) := rfl
theorem Window_secondsAt_6 (d : Nat) (a0 : Nat) (x1 : Int) (s0 : Int) (h : Hp) : EX d 133 6 [(0, .inr (.inr a0)), (1, .inl x1)] [.inl s0] h = bak (EX d 133) 11 [(0, .inr (.inr a0))] [] false (cal d 132 [.inl (s0 - x1)] h) := (EX_at bk_Window_secondsAt_6 _ _ _).trans rfl
theorem bk_Window_secondsAt_11 : blk 133 11 = some (((cd_Window_secondsAt.lookup 11).getD ([], 0, []))) := rfl
theorem Window_secondsAt_11 (d : Nat) (a0 : Nat) (s0 : Int) (h : Hp) : EX d 133 11 [(0, .inr (.inr a0))] [.inl s0] h = if (wr s0) = 0 then EX d 133 16 [(0, .inr (.inr a0))] [] h else EX d 133 23 [(0, .inr (.inr a0)), (3, .inl s0)] [] h := (EX_at bk_Window_secondsAt_11 _ _ _).trans rfl
theorem bk_Window_secondsAt_16 : blk 133 16 = some (((cd_Window_secondsAt.lookup 16).getD ([], 0, []))) := rfl
theorem Window_secondsAt_16 (d : Nat) (a0 : Nat) (h : Hp) : EX d 133 16 [(0, .inr (.inr a0))] [] h = if sK h a0 = 9 then EX d 133 34 [] [.inl (hI h a0 10)] h else none := (EX_at bk_Window_secondsAt_16 _ _ _).trans rfl
theorem bk_Window_secondsAt_23 : blk 133 23 = some (((cd_Window_secondsAt.lookup 23).getD ([], 0, []))) := rfl
theorem Window_secondsAt_23 (d : Nat) (a0 : Nat) (x3 : Int) (h : Hp) : EX d 133 23 [(0, .inr (.inr a0)), (3, .inl x3)] [] h = if sK h a0 = 9 then if sK h a0 = 9 then EX d 133 34 [] [.inl (((hI h a0 9) + x3) + (hI h a0 10))] h else none else none := (EX_at bk_Window_secondsAt_23 _ _ _).trans rfl
theorem bk_Window_secondsAt_34 : blk 133 34 = some (((cd_Window_secondsAt.lookup 34).getD ([], 0, []))) := rfl
theorem Window_secondsAt_34 (d : Nat) (s0 : Int) (h : Hp) : EX d 133 34 [] [.inl s0] h = some (.inl s0, h) := (EX_at bk_Window_secondsAt_34 _ _ _).trans rfl
/-! canFollow(IIII)Z of HookOver$Window: method 194 -/
theorem bk_Window_canFollow_0 : blk 194 0 = some (((cd_Window_canFollow.lookup 0).getD ([], 0, []))) := rfl
theorem Window_canFollow_0 (d : Nat) (a0 : Nat) (x1 : Int) (x2 : Int) (x3 : Int) (x4 : Int) (h : Hp) : EX d 194 0 [(0, .inr (.inr a0)), (1, .inl x1), (2, .inl x2), (3, .inl x3), (4, .inl x4)] [] h = if (wr x1) = (-1) then EX d 194 23 [] [] h else EX d 194 5 [(0, .inr (.inr a0)), (1, .inl x1), (2, .inl x2), (3, .inl x3), (4, .inl x4)] [] h := (EX_at bk_Window_canFollow_0 _ _ _).trans rfl
theorem bk_Window_canFollow_5 : blk 194 5 = some (((cd_Window_canFollow.lookup 5).getD ([], 0, []))) := rfl
theorem Window_canFollow_5 (d : Nat) (a0 : Nat) (x1 : Int) (x2 : Int) (x3 : Int) (x4 : Int) (h : Hp) : EX d 194 5 [(0, .inr (.inr a0)), (1, .inl x1), (2, .inl x2), (3, .inl x3), (4, .inl x4)] [] h = if (wr x2) < (wr x4) then EX d 194 11 [(0, .inr (.inr a0)), (1, .inl x1), (2, .inl x2), (3, .inl x3), (4, .inl x4)] [] h else EX d 194 27 [] [] h := (EX_at bk_Window_canFollow_5 _ _ _).trans rfl
theorem bk_Window_canFollow_11 : blk 194 11 = some (((cd_Window_canFollow.lookup 11).getD ([], 0, []))) := rfl
theorem Window_canFollow_11 (d : Nat) (a0 : Nat) (x1 : Int) (x2 : Int) (x3 : Int) (x4 : Int) (h : Hp) : EX d 194 11 [(0, .inr (.inr a0)), (1, .inl x1), (2, .inl x2), (3, .inl x3), (4, .inl x4)] [] h = if sK h a0 = 9 then bak (EX d 194) 20 [] [] false (cal d 42 [.inr (.inr a0), .inl x1, .inl x2, .inl x3, .inl x4] h) else none := (EX_at bk_Window_canFollow_11 _ _ _).trans rfl
theorem bk_Window_canFollow_20 : blk 194 20 = some (((cd_Window_canFollow.lookup 20).getD ([], 0, []))) := rfl
theorem Window_canFollow_20 (d : Nat) (s0 : Int) (h : Hp) : EX d 194 20 [] [.inl s0] h = if (wr s0) < 0 then EX d 194 27 [] [] h else EX d 194 23 [] [] h := (EX_at bk_Window_canFollow_20 _ _ _).trans rfl
theorem bk_Window_canFollow_23 : blk 194 23 = some (((cd_Window_canFollow.lookup 23).getD ([], 0, []))) := rfl
theorem Window_canFollow_23 (d : Nat) (h : Hp) : EX d 194 23 [] [] h = EX d 194 28 [] [.inl 1] h := (EX_at bk_Window_canFollow_23 _ _ _).trans rfl
theorem bk_Window_canFollow_27 : blk 194 27 = some (((cd_Window_canFollow.lookup 27).getD ([], 0, []))) := rfl
theorem Window_canFollow_27 (d : Nat) (h : Hp) : EX d 194 27 [] [] h = EX d 194 28 [] [.inl 0] h := (EX_at bk_Window_canFollow_27 _ _ _).trans rfl
theorem bk_Window_canFollow_28 : blk 194 28 = some (((cd_Window_canFollow.lookup 28).getD ([], 0, []))) := rfl
theorem Window_canFollow_28 (d : Nat) (s0 : Int) (h : Hp) : EX d 194 28 [] [.inl s0] h = if ((s0 : Int) = 0 ∨ (s0 : Int) = 1) then some (.inl s0, h) else none := (EX_at bk_Window_canFollow_28 _ _ _).trans rfl
/-! rightOneOut(II)I of HookOver$Window: method 257 -/
theorem bk_Window_rightOneOut_0 : blk 257 0 = some (((cd_Window_rightOneOut.lookup 0).getD ([], 0, []))) := rfl
theorem Window_rightOneOut_0 (d : Nat) (a0 : Nat) (x1 : Int) (x2 : Int) (h : Hp) : EX d 257 0 [(0, .inr (.inr a0)), (1, .inl x1), (2, .inl x2)] [] h = EX d 257 5 [(0, .inr (.inr a0)), (1, .inl x1), (2, .inl x2), (3, .inl 0), (4, .inl 0)] [] h := (EX_at bk_Window_rightOneOut_0 _ _ _).trans rfl
theorem bk_Window_rightOneOut_5 : blk 257 5 = some (((cd_Window_rightOneOut.lookup 5).getD ([], 0, []))) := rfl
theorem Window_rightOneOut_5 (d : Nat) (a0 : Nat) (x1 : Int) (x2 : Int) (x3 : Int) (x4 : Int) (h : Hp) : EX d 257 5 [(0, .inr (.inr a0)), (1, .inl x1), (2, .inl x2), (3, .inl x3), (4, .inl x4)] [] h = if sK h a0 = 9 then if (wr x4) < (wr (hI h a0 5)) then EX d 257 14 [(0, .inr (.inr a0)), (1, .inl x1), (2, .inl x2), (3, .inl x3), (4, .inl x4)] [] h else EX d 257 47 [(3, .inl x3)] [] h else none := (EX_at bk_Window_rightOneOut_5 _ _ _).trans rfl
theorem bk_Window_rightOneOut_14 : blk 257 14 = some (((cd_Window_rightOneOut.lookup 14).getD ([], 0, []))) := rfl
theorem Window_rightOneOut_14 (d : Nat) (a0 : Nat) (x1 : Int) (x2 : Int) (x3 : Int) (x4 : Int) (h : Hp) : EX d 257 14 [(0, .inr (.inr a0)), (1, .inl x1), (2, .inl x2), (3, .inl x3), (4, .inl x4)] [] h = if (wr x4) < (wr x1) then EX d 257 23 [(0, .inr (.inr a0)), (1, .inl x1), (2, .inl x2), (3, .inl x3), (4, .inl x4)] [.inl x4, .inr (.inr a0)] h else EX d 257 28 [(0, .inr (.inr a0)), (1, .inl x1), (2, .inl x2), (3, .inl x3), (4, .inl x4)] [.inl x4, .inr (.inr a0)] h := (EX_at bk_Window_rightOneOut_14 _ _ _).trans rfl
theorem bk_Window_rightOneOut_23 : blk 257 23 = some (((cd_Window_rightOneOut.lookup 23).getD ([], 0, []))) := rfl
theorem Window_rightOneOut_23 (d : Nat) (a0 : Nat) (x1 : Int) (x2 : Int) (x3 : Int) (x4 : Int) (r0 : Nat) (s1 : Int) (h : Hp) : EX d 257 23 [(0, .inr (.inr a0)), (1, .inl x1), (2, .inl x2), (3, .inl x3), (4, .inl x4)] [.inl s1, .inr (.inr r0)] h = EX d 257 32 [(0, .inr (.inr a0)), (1, .inl x1), (2, .inl x2), (3, .inl x3), (4, .inl x4)] [.inl x4, .inl s1, .inr (.inr r0)] h := (EX_at bk_Window_rightOneOut_23 _ _ _).trans rfl
theorem bk_Window_rightOneOut_28 : blk 257 28 = some (((cd_Window_rightOneOut.lookup 28).getD ([], 0, []))) := rfl
theorem Window_rightOneOut_28 (d : Nat) (a0 : Nat) (x1 : Int) (x2 : Int) (x3 : Int) (x4 : Int) (r0 : Nat) (s1 : Int) (h : Hp) : EX d 257 28 [(0, .inr (.inr a0)), (1, .inl x1), (2, .inl x2), (3, .inl x3), (4, .inl x4)] [.inl s1, .inr (.inr r0)] h = EX d 257 32 [(0, .inr (.inr a0)), (1, .inl x1), (2, .inl x2), (3, .inl x3), (4, .inl x4)] [.inl (x4 + x2), .inl s1, .inr (.inr r0)] h := (EX_at bk_Window_rightOneOut_28 _ _ _).trans rfl
theorem bk_Window_rightOneOut_32 : blk 257 32 = some (((cd_Window_rightOneOut.lookup 32).getD ([], 0, []))) := rfl
theorem Window_rightOneOut_32 (d : Nat) (a0 : Nat) (x1 : Int) (x2 : Int) (x3 : Int) (x4 : Int) (r0 : Nat) (s1 : Int) (s2 : Int) (h : Hp) : EX d 257 32 [(0, .inr (.inr a0)), (1, .inl x1), (2, .inl x2), (3, .inl x3), (4, .inl x4)] [.inl s2, .inl s1, .inr (.inr r0)] h = if sK h r0 = 9 then bak (EX d 257) 35 [(0, .inr (.inr a0)), (1, .inl x1), (2, .inl x2), (3, .inl x3), (4, .inl x4)] [] false (cal d 105 [.inr (.inr r0), .inl s1, .inl s2] h) else none := (EX_at bk_Window_rightOneOut_32 _ _ _).trans rfl
theorem bk_Window_rightOneOut_35 : blk 257 35 = some (((cd_Window_rightOneOut.lookup 35).getD ([], 0, []))) := rfl
theorem Window_rightOneOut_35 (d : Nat) (a0 : Nat) (x1 : Int) (x2 : Int) (x3 : Int) (x4 : Int) (s0 : Int) (h : Hp) : EX d 257 35 [(0, .inr (.inr a0)), (1, .inl x1), (2, .inl x2), (3, .inl x3), (4, .inl x4)] [.inl s0] h = if (wr s0) = 0 then EX d 257 41 [(0, .inr (.inr a0)), (1, .inl x1), (2, .inl x2), (3, .inl x3), (4, .inl x4)] [] h else EX d 257 38 [(0, .inr (.inr a0)), (1, .inl x1), (2, .inl x2), (3, .inl x3), (4, .inl x4)] [] h := (EX_at bk_Window_rightOneOut_35 _ _ _).trans rfl
theorem bk_Window_rightOneOut_38 : blk 257 38 = some (((cd_Window_rightOneOut.lookup 38).getD ([], 0, []))) := rfl
theorem Window_rightOneOut_38 (d : Nat) (a0 : Nat) (x1 : Int) (x2 : Int) (x3 : Int) (x4 : Int) (h : Hp) : EX d 257 38 [(0, .inr (.inr a0)), (1, .inl x1), (2, .inl x2), (3, .inl x3), (4, .inl x4)] [] h = EX d 257 41 [(0, .inr (.inr a0)), (1, .inl x1), (2, .inl x2), (3, .inl (x3 + 1)), (4, .inl x4)] [] h := (EX_at bk_Window_rightOneOut_38 _ _ _).trans rfl
theorem bk_Window_rightOneOut_41 : blk 257 41 = some (((cd_Window_rightOneOut.lookup 41).getD ([], 0, []))) := rfl
theorem Window_rightOneOut_41 (d : Nat) (a0 : Nat) (x1 : Int) (x2 : Int) (x3 : Int) (x4 : Int) (h : Hp) : EX d 257 41 [(0, .inr (.inr a0)), (1, .inl x1), (2, .inl x2), (3, .inl x3), (4, .inl x4)] [] h = EX d 257 5 [(0, .inr (.inr a0)), (1, .inl x1), (2, .inl x2), (3, .inl x3), (4, .inl (x4 + 1))] [] h := (EX_at bk_Window_rightOneOut_41 _ _ _).trans rfl
theorem bk_Window_rightOneOut_47 : blk 257 47 = some (((cd_Window_rightOneOut.lookup 47).getD ([], 0, []))) := rfl
theorem Window_rightOneOut_47 (d : Nat) (x3 : Int) (h : Hp) : EX d 257 47 [(3, .inl x3)] [] h = some (.inl x3, h) := (EX_at bk_Window_rightOneOut_47 _ _ _).trans rfl
/-! gaps()I of HookOver$Window: method 263 -/
theorem bk_Window_gaps_0 : blk 263 0 = some (((cd_Window_gaps.lookup 0).getD ([], 0, []))) := rfl
theorem Window_gaps_0 (d : Nat) (a0 : Nat) (h : Hp) : EX d 263 0 [(0, .inr (.inr a0))] [] h = if sK h a0 = 9 then if 0 < (wr (hI h a0 6)) then EX d 263 7 [(0, .inr (.inr a0))] [] h else EX d 263 16 [] [] h else none := (EX_at bk_Window_gaps_0 _ _ _).trans rfl
theorem bk_Window_gaps_7 : blk 263 7 = some (((cd_Window_gaps.lookup 7).getD ([], 0, []))) := rfl
theorem Window_gaps_7 (d : Nat) (a0 : Nat) (h : Hp) : EX d 263 7 [(0, .inr (.inr a0))] [] h = if sK h a0 = 9 then EX d 263 17 [] [.inl ((hI h a0 6) - 1)] h else none := (EX_at bk_Window_gaps_7 _ _ _).trans rfl
theorem bk_Window_gaps_16 : blk 263 16 = some (((cd_Window_gaps.lookup 16).getD ([], 0, []))) := rfl
theorem Window_gaps_16 (d : Nat) (h : Hp) : EX d 263 16 [] [] h = EX d 263 17 [] [.inl 0] h := (EX_at bk_Window_gaps_16 _ _ _).trans rfl
theorem bk_Window_gaps_17 : blk 263 17 = some (((cd_Window_gaps.lookup 17).getD ([], 0, []))) := rfl
theorem Window_gaps_17 (d : Nat) (s0 : Int) (h : Hp) : EX d 263 17 [] [.inl s0] h = some (.inl s0, h) := (EX_at bk_Window_gaps_17 _ _ _).trans rfl
/-! takeFrom(LHookOver$Window;)V of HookOver$Window: method 296 -/
theorem bk_Window_takeFrom_0 : blk 296 0 = some (((cd_Window_takeFrom.lookup 0).getD ([], 0, []))) := rfl
theorem Window_takeFrom_0 (d : Nat) (a0 : Nat) (a1 : Nat) (h : Hp) : EX d 296 0 [(0, .inr (.inr a0)), (1, .inr (.inr a1))] [] h = if sK h a1 = 9 then if sK h a0 = 9 then if (0 ≤ 8 ∧ sK h (hR h a1 0) = 20 ∧ sK h (hR h a0 0) = 20 ∧ (0 : Int) ≤ 0 ∧ (0 : Int) ≤ 0 ∧ (0 : Int) ≤ 12 ∧ 0 + 12 ≤ ((sN h (hR h a1 0) : Nat) : Int) ∧ 0 + 12 ≤ ((sN h (hR h a0 0) : Nat) : Int)) then EX d 296 15 [(0, .inr (.inr a0)), (1, .inr (.inr a1))] [] (cpI h (hR h a1 0) 0 (hR h a0 0) 0 12) else none else none else none := (EX_at bk_Window_takeFrom_0 _ _ _).trans rfl
theorem bk_Window_takeFrom_15 : blk 296 15 = some (((cd_Window_takeFrom.lookup 15).getD ([], 0, []))) := rfl
theorem Window_takeFrom_15 (d : Nat) (a0 : Nat) (a1 : Nat) (h : Hp) : EX d 296 15 [(0, .inr (.inr a0)), (1, .inr (.inr a1))] [] h = if sK h a1 = 9 then if sK h a0 = 9 then if (0 ≤ 8 ∧ sK h (hR h a1 1) = 20 ∧ sK h (hR h a0 1) = 20 ∧ (0 : Int) ≤ 0 ∧ (0 : Int) ≤ 0 ∧ (0 : Int) ≤ 12 ∧ 0 + 12 ≤ ((sN h (hR h a1 1) : Nat) : Int) ∧ 0 + 12 ≤ ((sN h (hR h a0 1) : Nat) : Int)) then EX d 296 30 [(0, .inr (.inr a0)), (1, .inr (.inr a1))] [] (cpI h (hR h a1 1) 0 (hR h a0 1) 0 12) else none else none else none := (EX_at bk_Window_takeFrom_15 _ _ _).trans rfl
theorem bk_Window_takeFrom_30 : blk 296 30 = some (((cd_Window_takeFrom.lookup 30).getD ([], 0, []))) := rfl
theorem Window_takeFrom_30 (d : Nat) (a0 : Nat) (a1 : Nat) (h : Hp) : EX d 296 30 [(0, .inr (.inr a0)), (1, .inr (.inr a1))] [] h = if sK h a1 = 9 then if sK h a0 = 9 then if (0 ≤ 8 ∧ sK h (hR h a1 2) = 20 ∧ sK h (hR h a0 2) = 20 ∧ (0 : Int) ≤ 0 ∧ (0 : Int) ≤ 0 ∧ (0 : Int) ≤ 12 ∧ 0 + 12 ≤ ((sN h (hR h a1 2) : Nat) : Int) ∧ 0 + 12 ≤ ((sN h (hR h a0 2) : Nat) : Int)) then EX d 296 45 [(0, .inr (.inr a0)), (1, .inr (.inr a1))] [] (cpI h (hR h a1 2) 0 (hR h a0 2) 0 12) else none else none else none := (EX_at bk_Window_takeFrom_30 _ _ _).trans rfl
theorem bk_Window_takeFrom_45 : blk 296 45 = some (((cd_Window_takeFrom.lookup 45).getD ([], 0, []))) := rfl
theorem Window_takeFrom_45 (d : Nat) (a0 : Nat) (a1 : Nat) (h : Hp) : EX d 296 45 [(0, .inr (.inr a0)), (1, .inr (.inr a1))] [] h = if sK h a1 = 9 then if sK h a0 = 9 then if (0 ≤ 8 ∧ sK h (hR h a1 3) = 20 ∧ sK h (hR h a0 3) = 20 ∧ (0 : Int) ≤ 0 ∧ (0 : Int) ≤ 0 ∧ (0 : Int) ≤ 12 ∧ 0 + 12 ≤ ((sN h (hR h a1 3) : Nat) : Int) ∧ 0 + 12 ≤ ((sN h (hR h a0 3) : Nat) : Int)) then EX d 296 60 [(0, .inr (.inr a0)), (1, .inr (.inr a1))] [] (cpI h (hR h a1 3) 0 (hR h a0 3) 0 12) else none else none else none := (EX_at bk_Window_takeFrom_45 _ _ _).trans rfl
theorem bk_Window_takeFrom_60 : blk 296 60 = some (((cd_Window_takeFrom.lookup 60).getD ([], 0, []))) := rfl
theorem Window_takeFrom_60 (d : Nat) (a0 : Nat) (a1 : Nat) (h : Hp) : EX d 296 60 [(0, .inr (.inr a0)), (1, .inr (.inr a1))] [] h = if sK h a1 = 9 then if sK h a0 = 9 then if (0 ≤ 8 ∧ sK h (hR h a1 4) = 20 ∧ sK h (hR h a0 4) = 20 ∧ (0 : Int) ≤ 0 ∧ (0 : Int) ≤ 0 ∧ (0 : Int) ≤ 12 ∧ 0 + 12 ≤ ((sN h (hR h a1 4) : Nat) : Int) ∧ 0 + 12 ≤ ((sN h (hR h a0 4) : Nat) : Int)) then EX d 296 75 [(0, .inr (.inr a0)), (1, .inr (.inr a1))] [] (cpI h (hR h a1 4) 0 (hR h a0 4) 0 12) else none else none else none := (EX_at bk_Window_takeFrom_60 _ _ _).trans rfl
theorem bk_Window_takeFrom_75 : blk 296 75 = some (((cd_Window_takeFrom.lookup 75).getD ([], 0, []))) := rfl
theorem Window_takeFrom_75 (d : Nat) (a0 : Nat) (a1 : Nat) (h : Hp) : EX d 296 75 [(0, .inr (.inr a0)), (1, .inr (.inr a1))] [] h = if sK h a1 = 9 then if sK h a0 = 9 then EX d 296 83 [(0, .inr (.inr a0)), (1, .inr (.inr a1))] [] (pI h a0 5 (hI h a1 5)) else none else none := (EX_at bk_Window_takeFrom_75 _ _ _).trans rfl
theorem bk_Window_takeFrom_83 : blk 296 83 = some (((cd_Window_takeFrom.lookup 83).getD ([], 0, []))) := rfl
theorem Window_takeFrom_83 (d : Nat) (a0 : Nat) (a1 : Nat) (h : Hp) : EX d 296 83 [(0, .inr (.inr a0)), (1, .inr (.inr a1))] [] h = if sK h a1 = 9 then if sK h a0 = 9 then EX d 296 91 [(0, .inr (.inr a0)), (1, .inr (.inr a1))] [] (pI h a0 6 (hI h a1 6)) else none else none := (EX_at bk_Window_takeFrom_83 _ _ _).trans rfl
theorem bk_Window_takeFrom_91 : blk 296 91 = some (((cd_Window_takeFrom.lookup 91).getD ([], 0, []))) := rfl
theorem Window_takeFrom_91 (d : Nat) (a0 : Nat) (a1 : Nat) (h : Hp) : EX d 296 91 [(0, .inr (.inr a0)), (1, .inr (.inr a1))] [] h = if sK h a1 = 9 then if sK h a0 = 9 then EX d 296 99 [(0, .inr (.inr a0)), (1, .inr (.inr a1))] [] (pI h a0 7 (hI h a1 7)) else none else none := (EX_at bk_Window_takeFrom_91 _ _ _).trans rfl
theorem bk_Window_takeFrom_99 : blk 296 99 = some (((cd_Window_takeFrom.lookup 99).getD ([], 0, []))) := rfl
theorem Window_takeFrom_99 (d : Nat) (a0 : Nat) (a1 : Nat) (h : Hp) : EX d 296 99 [(0, .inr (.inr a0)), (1, .inr (.inr a1))] [] h = if sK h a1 = 9 then if sK h a0 = 9 then EX d 296 107 [(0, .inr (.inr a0)), (1, .inr (.inr a1))] [] (pI h a0 8 (hI h a1 8)) else none else none := (EX_at bk_Window_takeFrom_99 _ _ _).trans rfl
theorem bk_Window_takeFrom_107 : blk 296 107 = some (((cd_Window_takeFrom.lookup 107).getD ([], 0, []))) := rfl
theorem Window_takeFrom_107 (d : Nat) (a0 : Nat) (a1 : Nat) (h : Hp) : EX d 296 107 [(0, .inr (.inr a0)), (1, .inr (.inr a1))] [] h = if sK h a1 = 9 then if sK h a0 = 9 then EX d 296 115 [(0, .inr (.inr a0)), (1, .inr (.inr a1))] [] (pI h a0 9 (hI h a1 9)) else none else none := (EX_at bk_Window_takeFrom_107 _ _ _).trans rfl
theorem bk_Window_takeFrom_115 : blk 296 115 = some (((cd_Window_takeFrom.lookup 115).getD ([], 0, []))) := rfl
theorem Window_takeFrom_115 (d : Nat) (a0 : Nat) (a1 : Nat) (h : Hp) : EX d 296 115 [(0, .inr (.inr a0)), (1, .inr (.inr a1))] [] h = if sK h a1 = 9 then if sK h a0 = 9 then EX d 296 123 [(0, .inr (.inr a0)), (1, .inr (.inr a1))] [] (pI h a0 10 (hI h a1 10)) else none else none := (EX_at bk_Window_takeFrom_115 _ _ _).trans rfl
theorem bk_Window_takeFrom_123 : blk 296 123 = some (((cd_Window_takeFrom.lookup 123).getD ([], 0, []))) := rfl
theorem Window_takeFrom_123 (d : Nat) (a0 : Nat) (a1 : Nat) (h : Hp) : EX d 296 123 [(0, .inr (.inr a0)), (1, .inr (.inr a1))] [] h = if sK h a1 = 9 then if sK h a0 = 9 then EX d 296 131 [(0, .inr (.inr a0)), (1, .inr (.inr a1))] [] (pI h a0 11 (hI h a1 11)) else none else none := (EX_at bk_Window_takeFrom_123 _ _ _).trans rfl
theorem bk_Window_takeFrom_131 : blk 296 131 = some (((cd_Window_takeFrom.lookup 131).getD ([], 0, []))) := rfl
theorem Window_takeFrom_131 (d : Nat) (a0 : Nat) (a1 : Nat) (h : Hp) : EX d 296 131 [(0, .inr (.inr a0)), (1, .inr (.inr a1))] [] h = if sK h a1 = 9 then if sK h a0 = 9 then EX d 296 139 [(0, .inr (.inr a0)), (1, .inr (.inr a1))] [] (pI h a0 12 (hI h a1 12)) else none else none := (EX_at bk_Window_takeFrom_131 _ _ _).trans rfl
theorem bk_Window_takeFrom_139 : blk 296 139 = some (((cd_Window_takeFrom.lookup 139).getD ([], 0, []))) := rfl
theorem Window_takeFrom_139 (d : Nat) (a0 : Nat) (a1 : Nat) (h : Hp) : EX d 296 139 [(0, .inr (.inr a0)), (1, .inr (.inr a1))] [] h = if sK h a1 = 9 then if sK h a0 = 9 then EX d 296 147 [(0, .inr (.inr a0)), (1, .inr (.inr a1))] [] (pI h a0 13 (hI h a1 13)) else none else none := (EX_at bk_Window_takeFrom_139 _ _ _).trans rfl
theorem bk_Window_takeFrom_147 : blk 296 147 = some (((cd_Window_takeFrom.lookup 147).getD ([], 0, []))) := rfl
theorem Window_takeFrom_147 (d : Nat) (a0 : Nat) (a1 : Nat) (h : Hp) : EX d 296 147 [(0, .inr (.inr a0)), (1, .inr (.inr a1))] [] h = if sK h a1 = 9 then if sK h a0 = 9 then EX d 296 155 [] [] (pI h a0 14 (hI h a1 14)) else none else none := (EX_at bk_Window_takeFrom_147 _ _ _).trans rfl
theorem bk_Window_takeFrom_155 : blk 296 155 = some (((cd_Window_takeFrom.lookup 155).getD ([], 0, []))) := rfl
theorem Window_takeFrom_155 (d : Nat) (h : Hp) : EX d 296 155 [] [] h = some (.inl 0, h) := (EX_at bk_Window_takeFrom_155 _ _ _).trans rfl
