/-! <init>()V of HookOver$Law: method 1 -/
theorem bk_Law_init_0 : blk 1 0 = some (((cd_Law_init.lookup 0).getD ([], 0, []))) := rfl
theorem Law_init_0 (d : Nat) (a0 : Nat) (h : Hp) : EX d 1 0 [(0, .inr (.inr a0))] [] h = if (0 < a0 ∧ 0 ≤ 8) then EX d 1 10 [(0, .inr (.inr a0))] [.inr (.inr ((Prod.fst h).length)), .inr (.inr a0)] (nwH h 20 900) else none := (EX_at bk_Law_init_0 _ _ _).trans rfl
theorem bk_Law_init_10 : blk 1 10 = some (((cd_Law_init.lookup 10).getD ([], 0, []))) := rfl
theorem Law_init_10 (d : Nat) (a0 : Nat) (r0 : Nat) (r1 : Nat) (h : Hp) : EX d 1 10 [(0, .inr (.inr a0))] [.inr (.inr r1), .inr (.inr r0)] h = if sK h r0 = 3 then EX d 1 13 [(0, .inr (.inr a0))] [] (pR h r0 0 r1) else none := (EX_at bk_Law_init_10 _ _ _).trans rfl
theorem bk_Law_init_13 : blk 1 13 = some (((cd_Law_init.lookup 13).getD ([], 0, []))) := rfl
theorem Law_init_13 (d : Nat) (a0 : Nat) (h : Hp) : EX d 1 13 [(0, .inr (.inr a0))] [] h = EX d 1 18 [(0, .inr (.inr a0))] [.inr (.inr ((Prod.fst h).length)), .inr (.inr a0)] (nwH h 20 64) := (EX_at bk_Law_init_13 _ _ _).trans rfl
theorem bk_Law_init_18 : blk 1 18 = some (((cd_Law_init.lookup 18).getD ([], 0, []))) := rfl
theorem Law_init_18 (d : Nat) (a0 : Nat) (r0 : Nat) (r1 : Nat) (h : Hp) : EX d 1 18 [(0, .inr (.inr a0))] [.inr (.inr r1), .inr (.inr r0)] h = if sK h r0 = 3 then EX d 1 21 [(0, .inr (.inr a0))] [] (pR h r0 1 r1) else none := (EX_at bk_Law_init_18 _ _ _).trans rfl
theorem bk_Law_init_21 : blk 1 21 = some (((cd_Law_init.lookup 21).getD ([], 0, []))) := rfl
theorem Law_init_21 (d : Nat) (a0 : Nat) (h : Hp) : EX d 1 21 [(0, .inr (.inr a0))] [] h = if sK h a0 = 3 then EX d 1 26 [(0, .inr (.inr a0))] [] (pI h a0 2 0) else none := (EX_at bk_Law_init_21 _ _ _).trans rfl
theorem bk_Law_init_26 : blk 1 26 = some (((cd_Law_init.lookup 26).getD ([], 0, []))) := rfl
theorem Law_init_26 (d : Nat) (a0 : Nat) (h : Hp) : EX d 1 26 [(0, .inr (.inr a0))] [] h = if sK h a0 = 3 then EX d 1 31 [] [] (pI h a0 3 0) else none := (EX_at bk_Law_init_26 _ _ _).trans rfl
theorem bk_Law_init_31 : blk 1 31 = some (((cd_Law_init.lookup 31).getD ([], 0, []))) := rfl
theorem Law_init_31 (d : Nat) (h : Hp) : EX d 1 31 [] [] h = some (.inl 0, h) := (EX_at bk_Law_init_31 _ _ _).trans rfl
/-! strike()V of HookOver$Law: method 19 -/
theorem bk_Law_strike_0 : blk 19 0 = some (((cd_Law_strike.lookup 0).getD ([], 0, []))) := rfl
theorem Law_strike_0 (d : Nat) (a0 : Nat) (h : Hp) : EX d 19 0 [(0, .inr (.inr a0))] [] h = if sK h a0 = 3 then EX d 19 5 [] [] (pI h a0 2 0) else none := (EX_at bk_Law_strike_0 _ _ _).trans rfl
theorem bk_Law_strike_5 : blk 19 5 = some (((cd_Law_strike.lookup 5).getD ([], 0, []))) := rfl
theorem Law_strike_5 (d : Nat) (h : Hp) : EX d 19 5 [] [] h = some (.inl 0, h) := (EX_at bk_Law_strike_5 _ _ _).trans rfl
/-! mayEnter(LHookOver$Tokens;I)Z of HookOver$Law: method 45 -/
theorem bk_Law_mayEnter_0 : blk 45 0 = some (((cd_Law_mayEnter.lookup 0).getD ([], 0, []))) := rfl
theorem Law_mayEnter_0 (d : Nat) (a0 : Nat) (x1 : Int) (h : Hp) : EX d 45 0 [(0, .inr (.inr a0)), (1, .inl x1)] [] h = if (wr x1) < 6 then EX d 45 17 [] [] h else EX d 45 6 [(0, .inr (.inr a0))] [] h := (EX_at bk_Law_mayEnter_0 _ _ _).trans rfl
theorem bk_Law_mayEnter_6 : blk 45 6 = some (((cd_Law_mayEnter.lookup 6).getD ([], 0, []))) := rfl
theorem Law_mayEnter_6 (d : Nat) (a0 : Nat) (h : Hp) : EX d 45 6 [(0, .inr (.inr a0))] [] h = if sK h a0 = 6 then if sK h a0 = 6 then bak (EX d 45) 15 [] [] true (cal d 29 [.inr (.inr a0), .inl (hI h a0 5), .inl 4] h) else none else none := (EX_at bk_Law_mayEnter_6 _ _ _).trans rfl
theorem bk_Law_mayEnter_15 : blk 45 15 = some (((cd_Law_mayEnter.lookup 15).getD ([], 0, []))) := rfl
theorem Law_mayEnter_15 (d : Nat) (h : Hp) : EX d 45 15 [] [] h = some (.inl 0, h) := (EX_at bk_Law_mayEnter_15 _ _ _).trans rfl
theorem bk_Law_mayEnter_17 : blk 45 17 = some (((cd_Law_mayEnter.lookup 17).getD ([], 0, []))) := rfl
theorem Law_mayEnter_17 (d : Nat) (h : Hp) : EX d 45 17 [] [] h = some (.inl 1, h) := (EX_at bk_Law_mayEnter_17 _ _ _).trans rfl
/-! emit(I)V of HookOver$Law: method 46 -/
theorem bk_Law_emit_0 : blk 46 0 = some (((cd_Law_emit.lookup 0).getD ([], 0, []))) := rfl
theorem Law_emit_0 (d : Nat) (a0 : Nat) (x1 : Int) (h : Hp) : EX d 46 0 [(0, .inr (.inr a0)), (1, .inl x1)] [] h = if sK h a0 = 3 then if sK h a0 = 3 then if sK h (hR h a0 0) = 20 then if (wr (hI h a0 2)) < (wr (sL h (hR h a0 0))) then EX d 46 12 [(0, .inr (.inr a0)), (1, .inl x1)] [] h else EX d 46 32 [] [] h else none else none else none := (EX_at bk_Law_emit_0 _ _ _).trans rfl
theorem bk_Law_emit_12 : blk 46 12 = some (((cd_Law_emit.lookup 12).getD ([], 0, []))) := rfl
theorem Law_emit_12 (d : Nat) (a0 : Nat) (x1 : Int) (h : Hp) : EX d 46 12 [(0, .inr (.inr a0)), (1, .inl x1)] [] h = if sK h a0 = 3 then if sK h a0 = 3 then if okx h (hR h a0 0) 20 (hI h a0 2) then EX d 46 22 [(0, .inr (.inr a0))] [] (pI h (hR h a0 0) (ix (hI h a0 2)) x1) else none else none else none := (EX_at bk_Law_emit_12 _ _ _).trans rfl
theorem bk_Law_emit_22 : blk 46 22 = some (((cd_Law_emit.lookup 22).getD ([], 0, []))) := rfl
theorem Law_emit_22 (d : Nat) (a0 : Nat) (h : Hp) : EX d 46 22 [(0, .inr (.inr a0))] [] h = if sK h a0 = 3 then if sK h a0 = 3 then EX d 46 32 [] [] (pI h a0 2 ((hI h a0 2) + 1)) else none else none := (EX_at bk_Law_emit_22 _ _ _).trans rfl
theorem bk_Law_emit_32 : blk 46 32 = some (((cd_Law_emit.lookup 32).getD ([], 0, []))) := rfl
theorem Law_emit_32 (d : Nat) (h : Hp) : EX d 46 32 [] [] h = some (.inl 0, h) := (EX_at bk_Law_emit_32 _ _ _).trans rfl
/-! readUnit(LHookOver$Tokens;I)V of HookOver$Law: method 47 -/
theorem bk_Law_readUnit_0 : blk 47 0 = some (((cd_Law_readUnit.lookup 0).getD ([], 0, []))) := rfl
theorem Law_readUnit_0 (d : Nat) (a0 : Nat) (a1 : Nat) (x2 : Int) (h : Hp) : EX d 47 0 [(0, .inr (.inr a0)), (1, .inr (.inr a1)), (2, .inl x2)] [] h = if sK h a1 = 6 then if (wr (hI h a1 3)) = 141 then EX d 47 10 [(0, .inr (.inr a0)), (1, .inr (.inr a1)), (2, .inl x2)] [] h else EX d 47 39 [(0, .inr (.inr a0)), (1, .inr (.inr a1)), (2, .inl x2)] [] h else none := (EX_at bk_Law_readUnit_0 _ _ _).trans rfl
theorem bk_Law_readUnit_10 : blk 47 10 = some (((cd_Law_readUnit.lookup 10).getD ([], 0, []))) := rfl
theorem Law_readUnit_10 (d : Nat) (a0 : Nat) (a1 : Nat) (x2 : Int) (h : Hp) : EX d 47 10 [(0, .inr (.inr a0)), (1, .inr (.inr a1)), (2, .inl x2)] [] h = bak (EX d 47) 15 [(0, .inr (.inr a0)), (1, .inr (.inr a1)), (2, .inl x2)] [] false (cal d 45 [.inr (.inr a1), .inl x2] h) := (EX_at bk_Law_readUnit_10 _ _ _).trans rfl
theorem bk_Law_readUnit_15 : blk 47 15 = some (((cd_Law_readUnit.lookup 15).getD ([], 0, []))) := rfl
theorem Law_readUnit_15 (d : Nat) (a0 : Nat) (a1 : Nat) (x2 : Int) (s0 : Int) (h : Hp) : EX d 47 15 [(0, .inr (.inr a0)), (1, .inr (.inr a1)), (2, .inl x2)] [.inl s0] h = if (wr s0) = 0 then EX d 47 38 [] [] h else EX d 47 18 [(0, .inr (.inr a0)), (1, .inr (.inr a1)), (2, .inl x2)] [] h := (EX_at bk_Law_readUnit_15 _ _ _).trans rfl
theorem bk_Law_readUnit_18 : blk 47 18 = some (((cd_Law_readUnit.lookup 18).getD ([], 0, []))) := rfl
theorem Law_readUnit_18 (d : Nat) (a0 : Nat) (a1 : Nat) (x2 : Int) (h : Hp) : EX d 47 18 [(0, .inr (.inr a0)), (1, .inr (.inr a1)), (2, .inl x2)] [] h = if sK h a1 = 6 then bak (EX d 47) 22 [(0, .inr (.inr a0)), (1, .inr (.inr a1)), (2, .inl x2)] [] true (cal d 25 [.inr (.inr a1)] h) else none := (EX_at bk_Law_readUnit_18 _ _ _).trans rfl
theorem bk_Law_readUnit_22 : blk 47 22 = some (((cd_Law_readUnit.lookup 22).getD ([], 0, []))) := rfl
theorem Law_readUnit_22 (d : Nat) (a0 : Nat) (a1 : Nat) (x2 : Int) (h : Hp) : EX d 47 22 [(0, .inr (.inr a0)), (1, .inr (.inr a1)), (2, .inl x2)] [] h = if sK h a0 = 3 then bak (EX d 47) 31 [(0, .inr (.inr a0))] [] true (cal d 51 [.inr (.inr a0), .inr (.inr a1), .inl 2, .inl (x2 + 1)] h) else none := (EX_at bk_Law_readUnit_22 _ _ _).trans rfl
theorem bk_Law_readUnit_31 : blk 47 31 = some (((cd_Law_readUnit.lookup 31).getD ([], 0, []))) := rfl
theorem Law_readUnit_31 (d : Nat) (a0 : Nat) (h : Hp) : EX d 47 31 [(0, .inr (.inr a0))] [] h = if sK h a0 = 3 then bak (EX d 47) 38 [] [] true (cal d 46 [.inr (.inr a0), .inl 141] h) else none := (EX_at bk_Law_readUnit_31 _ _ _).trans rfl
theorem bk_Law_readUnit_38 : blk 47 38 = some (((cd_Law_readUnit.lookup 38).getD ([], 0, []))) := rfl
theorem Law_readUnit_38 (d : Nat) (h : Hp) : EX d 47 38 [] [] h = some (.inl 0, h) := (EX_at bk_Law_readUnit_38 _ _ _).trans rfl
theorem bk_Law_readUnit_39 : blk 47 39 = some (((cd_Law_readUnit.lookup 39).getD ([], 0, []))) := rfl
theorem Law_readUnit_39 (d : Nat) (a0 : Nat) (a1 : Nat) (x2 : Int) (h : Hp) : EX d 47 39 [(0, .inr (.inr a0)), (1, .inr (.inr a1)), (2, .inl x2)] [] h = if sK h a1 = 6 then if (wr (hI h a1 3)) = 91 then EX d 47 48 [(0, .inr (.inr a0)), (1, .inr (.inr a1)), (2, .inl x2)] [] h else EX d 47 90 [(0, .inr (.inr a0)), (1, .inr (.inr a1)), (2, .inl x2)] [] h else none := (EX_at bk_Law_readUnit_39 _ _ _).trans rfl
theorem bk_Law_readUnit_48 : blk 47 48 = some (((cd_Law_readUnit.lookup 48).getD ([], 0, []))) := rfl
theorem Law_readUnit_48 (d : Nat) (a0 : Nat) (a1 : Nat) (x2 : Int) (h : Hp) : EX d 47 48 [(0, .inr (.inr a0)), (1, .inr (.inr a1)), (2, .inl x2)] [] h = bak (EX d 47) 53 [(0, .inr (.inr a0)), (1, .inr (.inr a1)), (2, .inl x2)] [] false (cal d 45 [.inr (.inr a1), .inl x2] h) := (EX_at bk_Law_readUnit_48 _ _ _).trans rfl
theorem bk_Law_readUnit_53 : blk 47 53 = some (((cd_Law_readUnit.lookup 53).getD ([], 0, []))) := rfl
theorem Law_readUnit_53 (d : Nat) (a0 : Nat) (a1 : Nat) (x2 : Int) (s0 : Int) (h : Hp) : EX d 47 53 [(0, .inr (.inr a0)), (1, .inr (.inr a1)), (2, .inl x2)] [.inl s0] h = if (wr s0) = 0 then EX d 47 89 [] [] h else EX d 47 56 [(0, .inr (.inr a0)), (1, .inr (.inr a1)), (2, .inl x2)] [] h := (EX_at bk_Law_readUnit_53 _ _ _).trans rfl
theorem bk_Law_readUnit_56 : blk 47 56 = some (((cd_Law_readUnit.lookup 56).getD ([], 0, []))) := rfl
theorem Law_readUnit_56 (d : Nat) (a0 : Nat) (a1 : Nat) (x2 : Int) (h : Hp) : EX d 47 56 [(0, .inr (.inr a0)), (1, .inr (.inr a1)), (2, .inl x2)] [] h = if sK h a1 = 6 then bak (EX d 47) 60 [(0, .inr (.inr a0)), (1, .inr (.inr a1)), (2, .inl x2)] [] true (cal d 25 [.inr (.inr a1)] h) else none := (EX_at bk_Law_readUnit_56 _ _ _).trans rfl
theorem bk_Law_readUnit_60 : blk 47 60 = some (((cd_Law_readUnit.lookup 60).getD ([], 0, []))) := rfl
theorem Law_readUnit_60 (d : Nat) (a0 : Nat) (a1 : Nat) (x2 : Int) (h : Hp) : EX d 47 60 [(0, .inr (.inr a0)), (1, .inr (.inr a1)), (2, .inl x2)] [] h = if sK h a0 = 3 then bak (EX d 47) 69 [(1, .inr (.inr a1))] [] true (cal d 51 [.inr (.inr a0), .inr (.inr a1), .inl 0, .inl (x2 + 1)] h) else none := (EX_at bk_Law_readUnit_60 _ _ _).trans rfl
theorem bk_Law_readUnit_69 : blk 47 69 = some (((cd_Law_readUnit.lookup 69).getD ([], 0, []))) := rfl
theorem Law_readUnit_69 (d : Nat) (a1 : Nat) (h : Hp) : EX d 47 69 [(1, .inr (.inr a1))] [] h = if sK h a1 = 6 then if (wr (hI h a1 3)) = 93 then EX d 47 78 [(1, .inr (.inr a1))] [] h else EX d 47 85 [(1, .inr (.inr a1))] [] h else none := (EX_at bk_Law_readUnit_69 _ _ _).trans rfl
theorem bk_Law_readUnit_78 : blk 47 78 = some (((cd_Law_readUnit.lookup 78).getD ([], 0, []))) := rfl
theorem Law_readUnit_78 (d : Nat) (a1 : Nat) (h : Hp) : EX d 47 78 [(1, .inr (.inr a1))] [] h = if sK h a1 = 6 then bak (EX d 47) 82 [] [] true (cal d 25 [.inr (.inr a1)] h) else none := (EX_at bk_Law_readUnit_78 _ _ _).trans rfl
theorem bk_Law_readUnit_82 : blk 47 82 = some (((cd_Law_readUnit.lookup 82).getD ([], 0, []))) := rfl
theorem Law_readUnit_82 (d : Nat) (h : Hp) : EX d 47 82 [] [] h = EX d 47 89 [] [] h := (EX_at bk_Law_readUnit_82 _ _ _).trans rfl
theorem bk_Law_readUnit_85 : blk 47 85 = some (((cd_Law_readUnit.lookup 85).getD ([], 0, []))) := rfl
theorem Law_readUnit_85 (d : Nat) (a1 : Nat) (h : Hp) : EX d 47 85 [(1, .inr (.inr a1))] [] h = if sK h a1 = 6 then bak (EX d 47) 89 [] [] true (cal d 30 [.inr (.inr a1)] h) else none := (EX_at bk_Law_readUnit_85 _ _ _).trans rfl
theorem bk_Law_readUnit_89 : blk 47 89 = some (((cd_Law_readUnit.lookup 89).getD ([], 0, []))) := rfl
theorem Law_readUnit_89 (d : Nat) (h : Hp) : EX d 47 89 [] [] h = some (.inl 0, h) := (EX_at bk_Law_readUnit_89 _ _ _).trans rfl
theorem bk_Law_readUnit_90 : blk 47 90 = some (((cd_Law_readUnit.lookup 90).getD ([], 0, []))) := rfl
theorem Law_readUnit_90 (d : Nat) (a0 : Nat) (a1 : Nat) (x2 : Int) (h : Hp) : EX d 47 90 [(0, .inr (.inr a0)), (1, .inr (.inr a1)), (2, .inl x2)] [] h = if sK h a0 = 3 then bak (EX d 47) 97 [(0, .inr (.inr a0)), (1, .inr (.inr a1)), (2, .inl x2)] [] true (cal d 51 [.inr (.inr a0), .inr (.inr a1), .inl 3, .inl x2] h) else none := (EX_at bk_Law_readUnit_90 _ _ _).trans rfl
theorem bk_Law_readUnit_97 : blk 47 97 = some (((cd_Law_readUnit.lookup 97).getD ([], 0, []))) := rfl
theorem Law_readUnit_97 (d : Nat) (a0 : Nat) (a1 : Nat) (x2 : Int) (h : Hp) : EX d 47 97 [(0, .inr (.inr a0)), (1, .inr (.inr a1)), (2, .inl x2)] [] h = if sK h a1 = 6 then if (wr (hI h a1 3)) = 61 then EX d 47 120 [(0, .inr (.inr a0)), (1, .inr (.inr a1)), (2, .inl x2), (3, .inl (hI h a1 3))] [] h else EX d 47 108 [(0, .inr (.inr a0)), (1, .inr (.inr a1)), (2, .inl x2), (3, .inl (hI h a1 3))] [] h else none := (EX_at bk_Law_readUnit_97 _ _ _).trans rfl
theorem bk_Law_readUnit_108 : blk 47 108 = some (((cd_Law_readUnit.lookup 108).getD ([], 0, []))) := rfl
theorem Law_readUnit_108 (d : Nat) (a0 : Nat) (a1 : Nat) (x2 : Int) (x3 : Int) (h : Hp) : EX d 47 108 [(0, .inr (.inr a0)), (1, .inr (.inr a1)), (2, .inl x2), (3, .inl x3)] [] h = if (wr x3) = 60 then EX d 47 120 [(0, .inr (.inr a0)), (1, .inr (.inr a1)), (2, .inl x2), (3, .inl x3)] [] h else EX d 47 114 [(0, .inr (.inr a0)), (1, .inr (.inr a1)), (2, .inl x2), (3, .inl x3)] [] h := (EX_at bk_Law_readUnit_108 _ _ _).trans rfl
theorem bk_Law_readUnit_114 : blk 47 114 = some (((cd_Law_readUnit.lookup 114).getD ([], 0, []))) := rfl
theorem Law_readUnit_114 (d : Nat) (a0 : Nat) (a1 : Nat) (x2 : Int) (x3 : Int) (h : Hp) : EX d 47 114 [(0, .inr (.inr a0)), (1, .inr (.inr a1)), (2, .inl x2), (3, .inl x3)] [] h = if (wr x3) = 62 then EX d 47 120 [(0, .inr (.inr a0)), (1, .inr (.inr a1)), (2, .inl x2), (3, .inl x3)] [] h else EX d 47 139 [(1, .inr (.inr a1))] [] h := (EX_at bk_Law_readUnit_114 _ _ _).trans rfl
theorem bk_Law_readUnit_120 : blk 47 120 = some (((cd_Law_readUnit.lookup 120).getD ([], 0, []))) := rfl
theorem Law_readUnit_120 (d : Nat) (a0 : Nat) (a1 : Nat) (x2 : Int) (x3 : Int) (h : Hp) : EX d 47 120 [(0, .inr (.inr a0)), (1, .inr (.inr a1)), (2, .inl x2), (3, .inl x3)] [] h = if sK h a1 = 6 then bak (EX d 47) 124 [(0, .inr (.inr a0)), (1, .inr (.inr a1)), (2, .inl x2), (3, .inl x3)] [] true (cal d 25 [.inr (.inr a1)] h) else none := (EX_at bk_Law_readUnit_120 _ _ _).trans rfl
theorem bk_Law_readUnit_124 : blk 47 124 = some (((cd_Law_readUnit.lookup 124).getD ([], 0, []))) := rfl
theorem Law_readUnit_124 (d : Nat) (a0 : Nat) (a1 : Nat) (x2 : Int) (x3 : Int) (h : Hp) : EX d 47 124 [(0, .inr (.inr a0)), (1, .inr (.inr a1)), (2, .inl x2), (3, .inl x3)] [] h = if sK h a0 = 3 then bak (EX d 47) 131 [(0, .inr (.inr a0)), (3, .inl x3)] [] true (cal d 51 [.inr (.inr a0), .inr (.inr a1), .inl 3, .inl x2] h) else none := (EX_at bk_Law_readUnit_124 _ _ _).trans rfl
theorem bk_Law_readUnit_131 : blk 47 131 = some (((cd_Law_readUnit.lookup 131).getD ([], 0, []))) := rfl
theorem Law_readUnit_131 (d : Nat) (a0 : Nat) (x3 : Int) (h : Hp) : EX d 47 131 [(0, .inr (.inr a0)), (3, .inl x3)] [] h = if sK h a0 = 3 then bak (EX d 47) 136 [] [] true (cal d 46 [.inr (.inr a0), .inl x3] h) else none := (EX_at bk_Law_readUnit_131 _ _ _).trans rfl
theorem bk_Law_readUnit_136 : blk 47 136 = some (((cd_Law_readUnit.lookup 136).getD ([], 0, []))) := rfl
theorem Law_readUnit_136 (d : Nat) (h : Hp) : EX d 47 136 [] [] h = EX d 47 143 [] [] h := (EX_at bk_Law_readUnit_136 _ _ _).trans rfl
theorem bk_Law_readUnit_139 : blk 47 139 = some (((cd_Law_readUnit.lookup 139).getD ([], 0, []))) := rfl
theorem Law_readUnit_139 (d : Nat) (a1 : Nat) (h : Hp) : EX d 47 139 [(1, .inr (.inr a1))] [] h = if sK h a1 = 6 then bak (EX d 47) 143 [] [] true (cal d 30 [.inr (.inr a1)] h) else none := (EX_at bk_Law_readUnit_139 _ _ _).trans rfl
theorem bk_Law_readUnit_143 : blk 47 143 = some (((cd_Law_readUnit.lookup 143).getD ([], 0, []))) := rfl
theorem Law_readUnit_143 (d : Nat) (h : Hp) : EX d 47 143 [] [] h = some (.inl 0, h) := (EX_at bk_Law_readUnit_143 _ _ _).trans rfl
/-! isName(I)Z of HookOver$Law: method 48 -/
theorem bk_Law_isName_0 : blk 48 0 = some (((cd_Law_isName.lookup 0).getD ([], 0, []))) := rfl
theorem Law_isName_0 (d : Nat) (x0 : Int) (h : Hp) : EX d 48 0 [(0, .inl x0)] [] h = if (wr x0) = 130 then EX d 48 28 [] [] h else EX d 48 7 [(0, .inl x0)] [] h := (EX_at bk_Law_isName_0 _ _ _).trans rfl
theorem bk_Law_isName_7 : blk 48 7 = some (((cd_Law_isName.lookup 7).getD ([], 0, []))) := rfl
theorem Law_isName_7 (d : Nat) (x0 : Int) (h : Hp) : EX d 48 7 [(0, .inl x0)] [] h = if (wr x0) = 131 then EX d 48 28 [] [] h else EX d 48 14 [(0, .inl x0)] [] h := (EX_at bk_Law_isName_7 _ _ _).trans rfl
theorem bk_Law_isName_14 : blk 48 14 = some (((cd_Law_isName.lookup 14).getD ([], 0, []))) := rfl
theorem Law_isName_14 (d : Nat) (x0 : Int) (h : Hp) : EX d 48 14 [(0, .inl x0)] [] h = if (wr x0) < 142 then EX d 48 32 [] [] h else EX d 48 21 [(0, .inl x0)] [] h := (EX_at bk_Law_isName_14 _ _ _).trans rfl
theorem bk_Law_isName_21 : blk 48 21 = some (((cd_Law_isName.lookup 21).getD ([], 0, []))) := rfl
theorem Law_isName_21 (d : Nat) (x0 : Int) (h : Hp) : EX d 48 21 [(0, .inl x0)] [] h = if 145 < (wr x0) then EX d 48 32 [] [] h else EX d 48 28 [] [] h := (EX_at bk_Law_isName_21 _ _ _).trans rfl
theorem bk_Law_isName_28 : blk 48 28 = some (((cd_Law_isName.lookup 28).getD ([], 0, []))) := rfl
theorem Law_isName_28 (d : Nat) (h : Hp) : EX d 48 28 [] [] h = EX d 48 33 [] [.inl 1] h := (EX_at bk_Law_isName_28 _ _ _).trans rfl
theorem bk_Law_isName_32 : blk 48 32 = some (((cd_Law_isName.lookup 32).getD ([], 0, []))) := rfl
theorem Law_isName_32 (d : Nat) (h : Hp) : EX d 48 32 [] [] h = EX d 48 33 [] [.inl 0] h := (EX_at bk_Law_isName_32 _ _ _).trans rfl
theorem bk_Law_isName_33 : blk 48 33 = some (((cd_Law_isName.lookup 33).getD ([], 0, []))) := rfl
theorem Law_isName_33 (d : Nat) (s0 : Int) (h : Hp) : EX d 48 33 [] [.inl s0] h = if ((s0 : Int) = 0 ∨ (s0 : Int) = 1) then some (.inl s0, h) else none := (EX_at bk_Law_isName_33 _ _ _).trans rfl
/-! readAtom(LHookOver$Tokens;I)V of HookOver$Law: method 49 -/
theorem bk_Law_readAtom_0 : blk 49 0 = some (((cd_Law_readAtom.lookup 0).getD ([], 0, []))) := rfl
theorem Law_readAtom_0 (d : Nat) (a0 : Nat) (a1 : Nat) (x2 : Int) (h : Hp) : EX d 49 0 [(0, .inr (.inr a0)), (1, .inr (.inr a1)), (2, .inl x2)] [] h = if sK h a1 = 6 then if (wr (hI h a1 3)) = 40 then EX d 49 9 [(0, .inr (.inr a0)), (1, .inr (.inr a1)), (2, .inl x2)] [] h else EX d 49 53 [(0, .inr (.inr a0)), (1, .inr (.inr a1))] [] h else none := (EX_at bk_Law_readAtom_0 _ _ _).trans rfl
theorem bk_Law_readAtom_9 : blk 49 9 = some (((cd_Law_readAtom.lookup 9).getD ([], 0, []))) := rfl
theorem Law_readAtom_9 (d : Nat) (a0 : Nat) (a1 : Nat) (x2 : Int) (h : Hp) : EX d 49 9 [(0, .inr (.inr a0)), (1, .inr (.inr a1)), (2, .inl x2)] [] h = bak (EX d 49) 14 [(0, .inr (.inr a0)), (1, .inr (.inr a1)), (2, .inl x2)] [] false (cal d 45 [.inr (.inr a1), .inl x2] h) := (EX_at bk_Law_readAtom_9 _ _ _).trans rfl
theorem bk_Law_readAtom_14 : blk 49 14 = some (((cd_Law_readAtom.lookup 14).getD ([], 0, []))) := rfl
theorem Law_readAtom_14 (d : Nat) (a0 : Nat) (a1 : Nat) (x2 : Int) (s0 : Int) (h : Hp) : EX d 49 14 [(0, .inr (.inr a0)), (1, .inr (.inr a1)), (2, .inl x2)] [.inl s0] h = if (wr s0) = 0 then EX d 49 109 [] [] h else EX d 49 17 [(0, .inr (.inr a0)), (1, .inr (.inr a1)), (2, .inl x2)] [] h := (EX_at bk_Law_readAtom_14 _ _ _).trans rfl
theorem bk_Law_readAtom_17 : blk 49 17 = some (((cd_Law_readAtom.lookup 17).getD ([], 0, []))) := rfl
theorem Law_readAtom_17 (d : Nat) (a0 : Nat) (a1 : Nat) (x2 : Int) (h : Hp) : EX d 49 17 [(0, .inr (.inr a0)), (1, .inr (.inr a1)), (2, .inl x2)] [] h = if sK h a1 = 6 then bak (EX d 49) 21 [(0, .inr (.inr a0)), (1, .inr (.inr a1)), (2, .inl x2)] [] true (cal d 25 [.inr (.inr a1)] h) else none := (EX_at bk_Law_readAtom_17 _ _ _).trans rfl
theorem bk_Law_readAtom_21 : blk 49 21 = some (((cd_Law_readAtom.lookup 21).getD ([], 0, []))) := rfl
theorem Law_readAtom_21 (d : Nat) (a0 : Nat) (a1 : Nat) (x2 : Int) (h : Hp) : EX d 49 21 [(0, .inr (.inr a0)), (1, .inr (.inr a1)), (2, .inl x2)] [] h = if sK h a0 = 3 then bak (EX d 49) 30 [(1, .inr (.inr a1))] [] true (cal d 51 [.inr (.inr a0), .inr (.inr a1), .inl 3, .inl (x2 + 1)] h) else none := (EX_at bk_Law_readAtom_21 _ _ _).trans rfl
theorem bk_Law_readAtom_30 : blk 49 30 = some (((cd_Law_readAtom.lookup 30).getD ([], 0, []))) := rfl
theorem Law_readAtom_30 (d : Nat) (a1 : Nat) (h : Hp) : EX d 49 30 [(1, .inr (.inr a1))] [] h = if sK h a1 = 6 then if (wr (hI h a1 3)) = 41 then EX d 49 39 [(1, .inr (.inr a1))] [] h else EX d 49 46 [(1, .inr (.inr a1))] [] h else none := (EX_at bk_Law_readAtom_30 _ _ _).trans rfl
theorem bk_Law_readAtom_39 : blk 49 39 = some (((cd_Law_readAtom.lookup 39).getD ([], 0, []))) := rfl
theorem Law_readAtom_39 (d : Nat) (a1 : Nat) (h : Hp) : EX d 49 39 [(1, .inr (.inr a1))] [] h = if sK h a1 = 6 then bak (EX d 49) 43 [] [] true (cal d 25 [.inr (.inr a1)] h) else none := (EX_at bk_Law_readAtom_39 _ _ _).trans rfl
theorem bk_Law_readAtom_43 : blk 49 43 = some (((cd_Law_readAtom.lookup 43).getD ([], 0, []))) := rfl
theorem Law_readAtom_43 (d : Nat) (h : Hp) : EX d 49 43 [] [] h = EX d 49 109 [] [] h := (EX_at bk_Law_readAtom_43 _ _ _).trans rfl
theorem bk_Law_readAtom_46 : blk 49 46 = some (((cd_Law_readAtom.lookup 46).getD ([], 0, []))) := rfl
theorem Law_readAtom_46 (d : Nat) (a1 : Nat) (h : Hp) : EX d 49 46 [(1, .inr (.inr a1))] [] h = if sK h a1 = 6 then bak (EX d 49) 50 [] [] true (cal d 30 [.inr (.inr a1)] h) else none := (EX_at bk_Law_readAtom_46 _ _ _).trans rfl
theorem bk_Law_readAtom_50 : blk 49 50 = some (((cd_Law_readAtom.lookup 50).getD ([], 0, []))) := rfl
theorem Law_readAtom_50 (d : Nat) (h : Hp) : EX d 49 50 [] [] h = EX d 49 109 [] [] h := (EX_at bk_Law_readAtom_50 _ _ _).trans rfl
theorem bk_Law_readAtom_53 : blk 49 53 = some (((cd_Law_readAtom.lookup 53).getD ([], 0, []))) := rfl
theorem Law_readAtom_53 (d : Nat) (a0 : Nat) (a1 : Nat) (h : Hp) : EX d 49 53 [(0, .inr (.inr a0)), (1, .inr (.inr a1))] [] h = if sK h a1 = 6 then if (wr (hI h a1 3)) = 2 then EX d 49 61 [(0, .inr (.inr a0)), (1, .inr (.inr a1))] [] h else EX d 49 80 [(0, .inr (.inr a0)), (1, .inr (.inr a1))] [] h else none := (EX_at bk_Law_readAtom_53 _ _ _).trans rfl
theorem bk_Law_readAtom_61 : blk 49 61 = some (((cd_Law_readAtom.lookup 61).getD ([], 0, []))) := rfl
theorem Law_readAtom_61 (d : Nat) (a0 : Nat) (a1 : Nat) (h : Hp) : EX d 49 61 [(0, .inr (.inr a0)), (1, .inr (.inr a1))] [] h = if sK h a1 = 6 then if sK h a0 = 3 then bak (EX d 49) 73 [(1, .inr (.inr a1))] [] true (cal d 46 [.inr (.inr a0), .inl (1000 + (hI h a1 4))] h) else none else none := (EX_at bk_Law_readAtom_61 _ _ _).trans rfl
theorem bk_Law_readAtom_73 : blk 49 73 = some (((cd_Law_readAtom.lookup 73).getD ([], 0, []))) := rfl
theorem Law_readAtom_73 (d : Nat) (a1 : Nat) (h : Hp) : EX d 49 73 [(1, .inr (.inr a1))] [] h = if sK h a1 = 6 then bak (EX d 49) 77 [] [] true (cal d 25 [.inr (.inr a1)] h) else none := (EX_at bk_Law_readAtom_73 _ _ _).trans rfl
theorem bk_Law_readAtom_77 : blk 49 77 = some (((cd_Law_readAtom.lookup 77).getD ([], 0, []))) := rfl
theorem Law_readAtom_77 (d : Nat) (h : Hp) : EX d 49 77 [] [] h = EX d 49 109 [] [] h := (EX_at bk_Law_readAtom_77 _ _ _).trans rfl
theorem bk_Law_readAtom_80 : blk 49 80 = some (((cd_Law_readAtom.lookup 80).getD ([], 0, []))) := rfl
theorem Law_readAtom_80 (d : Nat) (a0 : Nat) (a1 : Nat) (h : Hp) : EX d 49 80 [(0, .inr (.inr a0)), (1, .inr (.inr a1))] [] h = if sK h a1 = 6 then bak (EX d 49) 87 [(0, .inr (.inr a0)), (1, .inr (.inr a1))] [] false (cal d 48 [.inl (hI h a1 3)] h) else none := (EX_at bk_Law_readAtom_80 _ _ _).trans rfl
theorem bk_Law_readAtom_87 : blk 49 87 = some (((cd_Law_readAtom.lookup 87).getD ([], 0, []))) := rfl
theorem Law_readAtom_87 (d : Nat) (a0 : Nat) (a1 : Nat) (s0 : Int) (h : Hp) : EX d 49 87 [(0, .inr (.inr a0)), (1, .inr (.inr a1))] [.inl s0] h = if (wr s0) = 0 then EX d 49 105 [(1, .inr (.inr a1))] [] h else EX d 49 90 [(0, .inr (.inr a0)), (1, .inr (.inr a1))] [] h := (EX_at bk_Law_readAtom_87 _ _ _).trans rfl
theorem bk_Law_readAtom_90 : blk 49 90 = some (((cd_Law_readAtom.lookup 90).getD ([], 0, []))) := rfl
theorem Law_readAtom_90 (d : Nat) (a0 : Nat) (a1 : Nat) (h : Hp) : EX d 49 90 [(0, .inr (.inr a0)), (1, .inr (.inr a1))] [] h = if sK h a1 = 6 then if sK h a0 = 3 then bak (EX d 49) 98 [(1, .inr (.inr a1))] [] true (cal d 46 [.inr (.inr a0), .inl (hI h a1 3)] h) else none else none := (EX_at bk_Law_readAtom_90 _ _ _).trans rfl
theorem bk_Law_readAtom_98 : blk 49 98 = some (((cd_Law_readAtom.lookup 98).getD ([], 0, []))) := rfl
theorem Law_readAtom_98 (d : Nat) (a1 : Nat) (h : Hp) : EX d 49 98 [(1, .inr (.inr a1))] [] h = if sK h a1 = 6 then bak (EX d 49) 102 [] [] true (cal d 25 [.inr (.inr a1)] h) else none := (EX_at bk_Law_readAtom_98 _ _ _).trans rfl
theorem bk_Law_readAtom_102 : blk 49 102 = some (((cd_Law_readAtom.lookup 102).getD ([], 0, []))) := rfl
theorem Law_readAtom_102 (d : Nat) (h : Hp) : EX d 49 102 [] [] h = EX d 49 109 [] [] h := (EX_at bk_Law_readAtom_102 _ _ _).trans rfl
theorem bk_Law_readAtom_105 : blk 49 105 = some (((cd_Law_readAtom.lookup 105).getD ([], 0, []))) := rfl
theorem Law_readAtom_105 (d : Nat) (a1 : Nat) (h : Hp) : EX d 49 105 [(1, .inr (.inr a1))] [] h = if sK h a1 = 6 then bak (EX d 49) 109 [] [] true (cal d 30 [.inr (.inr a1)] h) else none := (EX_at bk_Law_readAtom_105 _ _ _).trans rfl
theorem bk_Law_readAtom_109 : blk 49 109 = some (((cd_Law_readAtom.lookup 109).getD ([], 0, []))) := rfl
theorem Law_readAtom_109 (d : Nat) (h : Hp) : EX d 49 109 [] [] h = some (.inl 0, h) := (EX_at bk_Law_readAtom_109 _ _ _).trans rfl
/-! isBetween(II)Z of HookOver$Law: method 50 -/
theorem bk_Law_isBetween_0 : blk 50 0 = some (((cd_Law_isBetween.lookup 0).getD ([], 0, []))) := rfl
theorem Law_isBetween_0 (d : Nat) (x0 : Int) (x1 : Int) (h : Hp) : EX d 50 0 [(0, .inl x0), (1, .inl x1)] [] h = if (wr x0) = 0 then EX d 50 36 [(1, .inl x1)] [] h else if (wr x0) = 1 then EX d 50 49 [(1, .inl x1)] [] h else if (wr x0) = 2 then EX d 50 92 [(1, .inl x1)] [] h else if (wr x0) = 3 then EX d 50 62 [(1, .inl x1)] [] h else if (wr x0) = 4 then EX d 50 80 [(1, .inl x1)] [] h else EX d 50 92 [(1, .inl x1)] [] h := (EX_at bk_Law_isBetween_0 _ _ _).trans rfl
theorem bk_Law_isBetween_36 : blk 50 36 = some (((cd_Law_isBetween.lookup 36).getD ([], 0, []))) := rfl
theorem Law_isBetween_36 (d : Nat) (x1 : Int) (h : Hp) : EX d 50 36 [(1, .inl x1)] [] h = if (wr x1) = 139 then EX d 50 43 [] [] h else EX d 50 47 [] [] h := (EX_at bk_Law_isBetween_36 _ _ _).trans rfl
theorem bk_Law_isBetween_43 : blk 50 43 = some (((cd_Law_isBetween.lookup 43).getD ([], 0, []))) := rfl
theorem Law_isBetween_43 (d : Nat) (h : Hp) : EX d 50 43 [] [] h = EX d 50 48 [] [.inl 1] h := (EX_at bk_Law_isBetween_43 _ _ _).trans rfl
theorem bk_Law_isBetween_47 : blk 50 47 = some (((cd_Law_isBetween.lookup 47).getD ([], 0, []))) := rfl
theorem Law_isBetween_47 (d : Nat) (h : Hp) : EX d 50 47 [] [] h = EX d 50 48 [] [.inl 0] h := (EX_at bk_Law_isBetween_47 _ _ _).trans rfl
theorem bk_Law_isBetween_48 : blk 50 48 = some (((cd_Law_isBetween.lookup 48).getD ([], 0, []))) := rfl
theorem Law_isBetween_48 (d : Nat) (s0 : Int) (h : Hp) : EX d 50 48 [] [.inl s0] h = if ((s0 : Int) = 0 ∨ (s0 : Int) = 1) then some (.inl s0, h) else none := (EX_at bk_Law_isBetween_48 _ _ _).trans rfl
theorem bk_Law_isBetween_49 : blk 50 49 = some (((cd_Law_isBetween.lookup 49).getD ([], 0, []))) := rfl
theorem Law_isBetween_49 (d : Nat) (x1 : Int) (h : Hp) : EX d 50 49 [(1, .inl x1)] [] h = if (wr x1) = 140 then EX d 50 56 [] [] h else EX d 50 60 [] [] h := (EX_at bk_Law_isBetween_49 _ _ _).trans rfl
theorem bk_Law_isBetween_56 : blk 50 56 = some (((cd_Law_isBetween.lookup 56).getD ([], 0, []))) := rfl
theorem Law_isBetween_56 (d : Nat) (h : Hp) : EX d 50 56 [] [] h = EX d 50 61 [] [.inl 1] h := (EX_at bk_Law_isBetween_56 _ _ _).trans rfl
theorem bk_Law_isBetween_60 : blk 50 60 = some (((cd_Law_isBetween.lookup 60).getD ([], 0, []))) := rfl
theorem Law_isBetween_60 (d : Nat) (h : Hp) : EX d 50 60 [] [] h = EX d 50 61 [] [.inl 0] h := (EX_at bk_Law_isBetween_60 _ _ _).trans rfl
theorem bk_Law_isBetween_61 : blk 50 61 = some (((cd_Law_isBetween.lookup 61).getD ([], 0, []))) := rfl
theorem Law_isBetween_61 (d : Nat) (s0 : Int) (h : Hp) : EX d 50 61 [] [.inl s0] h = if ((s0 : Int) = 0 ∨ (s0 : Int) = 1) then some (.inl s0, h) else none := (EX_at bk_Law_isBetween_61 _ _ _).trans rfl
theorem bk_Law_isBetween_62 : blk 50 62 = some (((cd_Law_isBetween.lookup 62).getD ([], 0, []))) := rfl
theorem Law_isBetween_62 (d : Nat) (x1 : Int) (h : Hp) : EX d 50 62 [(1, .inl x1)] [] h = if (wr x1) = 43 then EX d 50 74 [] [] h else EX d 50 68 [(1, .inl x1)] [] h := (EX_at bk_Law_isBetween_62 _ _ _).trans rfl
theorem bk_Law_isBetween_68 : blk 50 68 = some (((cd_Law_isBetween.lookup 68).getD ([], 0, []))) := rfl
theorem Law_isBetween_68 (d : Nat) (x1 : Int) (h : Hp) : EX d 50 68 [(1, .inl x1)] [] h = if (wr x1) = 45 then EX d 50 74 [] [] h else EX d 50 78 [] [] h := (EX_at bk_Law_isBetween_68 _ _ _).trans rfl
theorem bk_Law_isBetween_74 : blk 50 74 = some (((cd_Law_isBetween.lookup 74).getD ([], 0, []))) := rfl
theorem Law_isBetween_74 (d : Nat) (h : Hp) : EX d 50 74 [] [] h = EX d 50 79 [] [.inl 1] h := (EX_at bk_Law_isBetween_74 _ _ _).trans rfl
theorem bk_Law_isBetween_78 : blk 50 78 = some (((cd_Law_isBetween.lookup 78).getD ([], 0, []))) := rfl
theorem Law_isBetween_78 (d : Nat) (h : Hp) : EX d 50 78 [] [] h = EX d 50 79 [] [.inl 0] h := (EX_at bk_Law_isBetween_78 _ _ _).trans rfl
theorem bk_Law_isBetween_79 : blk 50 79 = some (((cd_Law_isBetween.lookup 79).getD ([], 0, []))) := rfl
theorem Law_isBetween_79 (d : Nat) (s0 : Int) (h : Hp) : EX d 50 79 [] [.inl s0] h = if ((s0 : Int) = 0 ∨ (s0 : Int) = 1) then some (.inl s0, h) else none := (EX_at bk_Law_isBetween_79 _ _ _).trans rfl
theorem bk_Law_isBetween_80 : blk 50 80 = some (((cd_Law_isBetween.lookup 80).getD ([], 0, []))) := rfl
theorem Law_isBetween_80 (d : Nat) (x1 : Int) (h : Hp) : EX d 50 80 [(1, .inl x1)] [] h = if (wr x1) = 42 then EX d 50 86 [] [] h else EX d 50 90 [] [] h := (EX_at bk_Law_isBetween_80 _ _ _).trans rfl
theorem bk_Law_isBetween_86 : blk 50 86 = some (((cd_Law_isBetween.lookup 86).getD ([], 0, []))) := rfl
theorem Law_isBetween_86 (d : Nat) (h : Hp) : EX d 50 86 [] [] h = EX d 50 91 [] [.inl 1] h := (EX_at bk_Law_isBetween_86 _ _ _).trans rfl
theorem bk_Law_isBetween_90 : blk 50 90 = some (((cd_Law_isBetween.lookup 90).getD ([], 0, []))) := rfl
theorem Law_isBetween_90 (d : Nat) (h : Hp) : EX d 50 90 [] [] h = EX d 50 91 [] [.inl 0] h := (EX_at bk_Law_isBetween_90 _ _ _).trans rfl
theorem bk_Law_isBetween_91 : blk 50 91 = some (((cd_Law_isBetween.lookup 91).getD ([], 0, []))) := rfl
theorem Law_isBetween_91 (d : Nat) (s0 : Int) (h : Hp) : EX d 50 91 [] [.inl s0] h = if ((s0 : Int) = 0 ∨ (s0 : Int) = 1) then some (.inl s0, h) else none := (EX_at bk_Law_isBetween_91 _ _ _).trans rfl
theorem bk_Law_isBetween_92 : blk 50 92 = some (((cd_Law_isBetween.lookup 92).getD ([], 0, []))) := rfl
theorem Law_isBetween_92 (d : Nat) (x1 : Int) (h : Hp) : EX d 50 92 [(1, .inl x1)] [] h = some (.inl 0, h) := (EX_at bk_Law_isBetween_92 _ _ _).trans rfl
/-! readPart(LHookOver$Tokens;II)V of HookOver$Law: method 51 -/
theorem bk_Law_readPart_0 : blk 51 0 = some (((cd_Law_readPart.lookup 0).getD ([], 0, []))) := rfl
theorem Law_readPart_0 (d : Nat) (a0 : Nat) (a1 : Nat) (x2 : Int) (x3 : Int) (h : Hp) : EX d 51 0 [(0, .inr (.inr a0)), (1, .inr (.inr a1)), (2, .inl x2), (3, .inl x3)] [] h = if 6 < (wr x3) then EX d 51 13 [] [] h else EX d 51 6 [(0, .inr (.inr a0)), (1, .inr (.inr a1)), (2, .inl x2), (3, .inl x3)] [] h := (EX_at bk_Law_readPart_0 _ _ _).trans rfl
theorem bk_Law_readPart_6 : blk 51 6 = some (((cd_Law_readPart.lookup 6).getD ([], 0, []))) := rfl
theorem Law_readPart_6 (d : Nat) (a0 : Nat) (a1 : Nat) (x2 : Int) (x3 : Int) (h : Hp) : EX d 51 6 [(0, .inr (.inr a0)), (1, .inr (.inr a1)), (2, .inl x2), (3, .inl x3)] [] h = if sK h a1 = 6 then bak (EX d 51) 10 [(0, .inr (.inr a0)), (1, .inr (.inr a1)), (2, .inl x2), (3, .inl x3)] [] false (cal d 27 [.inr (.inr a1)] h) else none := (EX_at bk_Law_readPart_6 _ _ _).trans rfl
theorem bk_Law_readPart_10 : blk 51 10 = some (((cd_Law_readPart.lookup 10).getD ([], 0, []))) := rfl
theorem Law_readPart_10 (d : Nat) (a0 : Nat) (a1 : Nat) (x2 : Int) (x3 : Int) (s0 : Int) (h : Hp) : EX d 51 10 [(0, .inr (.inr a0)), (1, .inr (.inr a1)), (2, .inl x2), (3, .inl x3)] [.inl s0] h = if (wr s0) = 0 then EX d 51 13 [] [] h else EX d 51 14 [(0, .inr (.inr a0)), (1, .inr (.inr a1)), (2, .inl x2), (3, .inl x3)] [] h := (EX_at bk_Law_readPart_10 _ _ _).trans rfl
theorem bk_Law_readPart_13 : blk 51 13 = some (((cd_Law_readPart.lookup 13).getD ([], 0, []))) := rfl
theorem Law_readPart_13 (d : Nat) (h : Hp) : EX d 51 13 [] [] h = some (.inl 0, h) := (EX_at bk_Law_readPart_13 _ _ _).trans rfl
theorem bk_Law_readPart_14 : blk 51 14 = some (((cd_Law_readPart.lookup 14).getD ([], 0, []))) := rfl
theorem Law_readPart_14 (d : Nat) (a0 : Nat) (a1 : Nat) (x2 : Int) (x3 : Int) (h : Hp) : EX d 51 14 [(0, .inr (.inr a0)), (1, .inr (.inr a1)), (2, .inl x2), (3, .inl x3)] [] h = if (wr x2) = 2 then EX d 51 19 [(0, .inr (.inr a0)), (1, .inr (.inr a1)), (3, .inl x3)] [] h else EX d 51 26 [(0, .inr (.inr a0)), (1, .inr (.inr a1)), (2, .inl x2), (3, .inl x3)] [] h := (EX_at bk_Law_readPart_14 _ _ _).trans rfl
theorem bk_Law_readPart_19 : blk 51 19 = some (((cd_Law_readPart.lookup 19).getD ([], 0, []))) := rfl
theorem Law_readPart_19 (d : Nat) (a0 : Nat) (a1 : Nat) (x3 : Int) (h : Hp) : EX d 51 19 [(0, .inr (.inr a0)), (1, .inr (.inr a1)), (3, .inl x3)] [] h = if sK h a0 = 3 then bak (EX d 51) 25 [] [] true (cal d 47 [.inr (.inr a0), .inr (.inr a1), .inl x3] h) else none := (EX_at bk_Law_readPart_19 _ _ _).trans rfl
theorem bk_Law_readPart_25 : blk 51 25 = some (((cd_Law_readPart.lookup 25).getD ([], 0, []))) := rfl
theorem Law_readPart_25 (d : Nat) (h : Hp) : EX d 51 25 [] [] h = some (.inl 0, h) := (EX_at bk_Law_readPart_25 _ _ _).trans rfl
theorem bk_Law_readPart_26 : blk 51 26 = some (((cd_Law_readPart.lookup 26).getD ([], 0, []))) := rfl
theorem Law_readPart_26 (d : Nat) (a0 : Nat) (a1 : Nat) (x2 : Int) (x3 : Int) (h : Hp) : EX d 51 26 [(0, .inr (.inr a0)), (1, .inr (.inr a1)), (2, .inl x2), (3, .inl x3)] [] h = if (wr x2) < 5 then EX d 51 38 [(0, .inr (.inr a0)), (1, .inr (.inr a1)), (2, .inl x2), (3, .inl x3)] [] h else EX d 51 31 [(0, .inr (.inr a0)), (1, .inr (.inr a1)), (3, .inl x3)] [] h := (EX_at bk_Law_readPart_26 _ _ _).trans rfl
theorem bk_Law_readPart_31 : blk 51 31 = some (((cd_Law_readPart.lookup 31).getD ([], 0, []))) := rfl
theorem Law_readPart_31 (d : Nat) (a0 : Nat) (a1 : Nat) (x3 : Int) (h : Hp) : EX d 51 31 [(0, .inr (.inr a0)), (1, .inr (.inr a1)), (3, .inl x3)] [] h = if sK h a0 = 3 then bak (EX d 51) 37 [] [] true (cal d 49 [.inr (.inr a0), .inr (.inr a1), .inl x3] h) else none := (EX_at bk_Law_readPart_31 _ _ _).trans rfl
theorem bk_Law_readPart_37 : blk 51 37 = some (((cd_Law_readPart.lookup 37).getD ([], 0, []))) := rfl
theorem Law_readPart_37 (d : Nat) (h : Hp) : EX d 51 37 [] [] h = some (.inl 0, h) := (EX_at bk_Law_readPart_37 _ _ _).trans rfl
theorem bk_Law_readPart_38 : blk 51 38 = some (((cd_Law_readPart.lookup 38).getD ([], 0, []))) := rfl
theorem Law_readPart_38 (d : Nat) (a0 : Nat) (a1 : Nat) (x2 : Int) (x3 : Int) (h : Hp) : EX d 51 38 [(0, .inr (.inr a0)), (1, .inr (.inr a1)), (2, .inl x2), (3, .inl x3)] [] h = if sK h a0 = 3 then bak (EX d 51) 47 [(0, .inr (.inr a0)), (1, .inr (.inr a1)), (2, .inl x2), (3, .inl x3)] [] true (cal d 51 [.inr (.inr a0), .inr (.inr a1), .inl (x2 + 1), .inl x3] h) else none := (EX_at bk_Law_readPart_38 _ _ _).trans rfl
theorem bk_Law_readPart_47 : blk 51 47 = some (((cd_Law_readPart.lookup 47).getD ([], 0, []))) := rfl
theorem Law_readPart_47 (d : Nat) (a0 : Nat) (a1 : Nat) (x2 : Int) (x3 : Int) (h : Hp) : EX d 51 47 [(0, .inr (.inr a0)), (1, .inr (.inr a1)), (2, .inl x2), (3, .inl x3)] [] h = EX d 51 50 [(0, .inr (.inr a0)), (1, .inr (.inr a1)), (2, .inl x2), (3, .inl x3), (4, .inl 0)] [] h := (EX_at bk_Law_readPart_47 _ _ _).trans rfl
theorem bk_Law_readPart_50 : blk 51 50 = some (((cd_Law_readPart.lookup 50).getD ([], 0, []))) := rfl
theorem Law_readPart_50 (d : Nat) (a0 : Nat) (a1 : Nat) (x2 : Int) (x3 : Int) (x4 : Int) (h : Hp) : EX d 51 50 [(0, .inr (.inr a0)), (1, .inr (.inr a1)), (2, .inl x2), (3, .inl x3), (4, .inl x4)] [] h = if (wr x4) < 900 then EX d 51 58 [(0, .inr (.inr a0)), (1, .inr (.inr a1)), (2, .inl x2), (3, .inl x3), (4, .inl x4)] [] h else EX d 51 107 [] [] h := (EX_at bk_Law_readPart_50 _ _ _).trans rfl
theorem bk_Law_readPart_58 : blk 51 58 = some (((cd_Law_readPart.lookup 58).getD ([], 0, []))) := rfl
theorem Law_readPart_58 (d : Nat) (a0 : Nat) (a1 : Nat) (x2 : Int) (x3 : Int) (x4 : Int) (h : Hp) : EX d 51 58 [(0, .inr (.inr a0)), (1, .inr (.inr a1)), (2, .inl x2), (3, .inl x3), (4, .inl x4)] [] h = if sK h a1 = 6 then bak (EX d 51) 62 [(0, .inr (.inr a0)), (1, .inr (.inr a1)), (2, .inl x2), (3, .inl x3), (4, .inl x4)] [] false (cal d 27 [.inr (.inr a1)] h) else none := (EX_at bk_Law_readPart_58 _ _ _).trans rfl
theorem bk_Law_readPart_62 : blk 51 62 = some (((cd_Law_readPart.lookup 62).getD ([], 0, []))) := rfl
theorem Law_readPart_62 (d : Nat) (a0 : Nat) (a1 : Nat) (x2 : Int) (x3 : Int) (x4 : Int) (s0 : Int) (h : Hp) : EX d 51 62 [(0, .inr (.inr a0)), (1, .inr (.inr a1)), (2, .inl x2), (3, .inl x3), (4, .inl x4)] [.inl s0] h = if (wr s0) = 0 then EX d 51 107 [] [] h else EX d 51 65 [(0, .inr (.inr a0)), (1, .inr (.inr a1)), (2, .inl x2), (3, .inl x3), (4, .inl x4)] [] h := (EX_at bk_Law_readPart_62 _ _ _).trans rfl
theorem bk_Law_readPart_65 : blk 51 65 = some (((cd_Law_readPart.lookup 65).getD ([], 0, []))) := rfl
theorem Law_readPart_65 (d : Nat) (a0 : Nat) (a1 : Nat) (x2 : Int) (x3 : Int) (x4 : Int) (h : Hp) : EX d 51 65 [(0, .inr (.inr a0)), (1, .inr (.inr a1)), (2, .inl x2), (3, .inl x3), (4, .inl x4)] [] h = if sK h a1 = 6 then bak (EX d 51) 73 [(0, .inr (.inr a0)), (1, .inr (.inr a1)), (2, .inl x2), (3, .inl x3), (4, .inl x4)] [] false (cal d 50 [.inl x2, .inl (hI h a1 3)] h) else none := (EX_at bk_Law_readPart_65 _ _ _).trans rfl
theorem bk_Law_readPart_73 : blk 51 73 = some (((cd_Law_readPart.lookup 73).getD ([], 0, []))) := rfl
theorem Law_readPart_73 (d : Nat) (a0 : Nat) (a1 : Nat) (x2 : Int) (x3 : Int) (x4 : Int) (s0 : Int) (h : Hp) : EX d 51 73 [(0, .inr (.inr a0)), (1, .inr (.inr a1)), (2, .inl x2), (3, .inl x3), (4, .inl x4)] [.inl s0] h = if (wr s0) = 0 then EX d 51 107 [] [] h else EX d 51 76 [(0, .inr (.inr a0)), (1, .inr (.inr a1)), (2, .inl x2), (3, .inl x3), (4, .inl x4)] [] h := (EX_at bk_Law_readPart_73 _ _ _).trans rfl
theorem bk_Law_readPart_76 : blk 51 76 = some (((cd_Law_readPart.lookup 76).getD ([], 0, []))) := rfl
theorem Law_readPart_76 (d : Nat) (a0 : Nat) (a1 : Nat) (x2 : Int) (x3 : Int) (x4 : Int) (h : Hp) : EX d 51 76 [(0, .inr (.inr a0)), (1, .inr (.inr a1)), (2, .inl x2), (3, .inl x3), (4, .inl x4)] [] h = if sK h a1 = 6 then if sK h a1 = 6 then bak (EX d 51) 86 [(0, .inr (.inr a0)), (1, .inr (.inr a1)), (2, .inl x2), (3, .inl x3), (4, .inl x4), (5, .inl (hI h a1 3))] [] true (cal d 25 [.inr (.inr a1)] h) else none else none := (EX_at bk_Law_readPart_76 _ _ _).trans rfl
theorem bk_Law_readPart_86 : blk 51 86 = some (((cd_Law_readPart.lookup 86).getD ([], 0, []))) := rfl
theorem Law_readPart_86 (d : Nat) (a0 : Nat) (a1 : Nat) (x2 : Int) (x3 : Int) (x4 : Int) (x5 : Int) (h : Hp) : EX d 51 86 [(0, .inr (.inr a0)), (1, .inr (.inr a1)), (2, .inl x2), (3, .inl x3), (4, .inl x4), (5, .inl x5)] [] h = if sK h a0 = 3 then bak (EX d 51) 95 [(0, .inr (.inr a0)), (1, .inr (.inr a1)), (2, .inl x2), (3, .inl x3), (4, .inl x4), (5, .inl x5)] [] true (cal d 51 [.inr (.inr a0), .inr (.inr a1), .inl (x2 + 1), .inl x3] h) else none := (EX_at bk_Law_readPart_86 _ _ _).trans rfl
theorem bk_Law_readPart_95 : blk 51 95 = some (((cd_Law_readPart.lookup 95).getD ([], 0, []))) := rfl
theorem Law_readPart_95 (d : Nat) (a0 : Nat) (a1 : Nat) (x2 : Int) (x3 : Int) (x4 : Int) (x5 : Int) (h : Hp) : EX d 51 95 [(0, .inr (.inr a0)), (1, .inr (.inr a1)), (2, .inl x2), (3, .inl x3), (4, .inl x4), (5, .inl x5)] [] h = if sK h a0 = 3 then bak (EX d 51) 101 [(0, .inr (.inr a0)), (1, .inr (.inr a1)), (2, .inl x2), (3, .inl x3), (4, .inl x4)] [] true (cal d 46 [.inr (.inr a0), .inl x5] h) else none := (EX_at bk_Law_readPart_95 _ _ _).trans rfl
theorem bk_Law_readPart_101 : blk 51 101 = some (((cd_Law_readPart.lookup 101).getD ([], 0, []))) := rfl
theorem Law_readPart_101 (d : Nat) (a0 : Nat) (a1 : Nat) (x2 : Int) (x3 : Int) (x4 : Int) (h : Hp) : EX d 51 101 [(0, .inr (.inr a0)), (1, .inr (.inr a1)), (2, .inl x2), (3, .inl x3), (4, .inl x4)] [] h = EX d 51 50 [(0, .inr (.inr a0)), (1, .inr (.inr a1)), (2, .inl x2), (3, .inl x3), (4, .inl (x4 + 1))] [] h := (EX_at bk_Law_readPart_101 _ _ _).trans rfl
theorem bk_Law_readPart_107 : blk 51 107 = some (((cd_Law_readPart.lookup 107).getD ([], 0, []))) := rfl
theorem Law_readPart_107 (d : Nat) (h : Hp) : EX d 51 107 [] [] h = some (.inl 0, h) := (EX_at bk_Law_readPart_107 _ _ _).trans rfl
/-! readTruth(LHookOver$Tokens;)V of HookOver$Law: method 52 -/
theorem bk_Law_readTruth_0 : blk 52 0 = some (((cd_Law_readTruth.lookup 0).getD ([], 0, []))) := rfl
theorem Law_readTruth_0 (d : Nat) (a0 : Nat) (a1 : Nat) (h : Hp) : EX d 52 0 [(0, .inr (.inr a0)), (1, .inr (.inr a1))] [] h = if sK h a0 = 3 then bak (EX d 52) 4 [(0, .inr (.inr a0)), (1, .inr (.inr a1))] [] true (cal d 19 [.inr (.inr a0)] h) else none := (EX_at bk_Law_readTruth_0 _ _ _).trans rfl
theorem bk_Law_readTruth_4 : blk 52 4 = some (((cd_Law_readTruth.lookup 4).getD ([], 0, []))) := rfl
theorem Law_readTruth_4 (d : Nat) (a0 : Nat) (a1 : Nat) (h : Hp) : EX d 52 4 [(0, .inr (.inr a0)), (1, .inr (.inr a1))] [] h = if sK h a0 = 3 then bak (EX d 52) 11 [] [] true (cal d 51 [.inr (.inr a0), .inr (.inr a1), .inl 0, .inl 0] h) else none := (EX_at bk_Law_readTruth_4 _ _ _).trans rfl
theorem bk_Law_readTruth_11 : blk 52 11 = some (((cd_Law_readTruth.lookup 11).getD ([], 0, []))) := rfl
theorem Law_readTruth_11 (d : Nat) (h : Hp) : EX d 52 11 [] [] h = some (.inl 0, h) := (EX_at bk_Law_readTruth_11 _ _ _).trans rfl
/-! push(I)V of HookOver$Law: method 55 -/
theorem bk_Law_push_0 : blk 55 0 = some (((cd_Law_push.lookup 0).getD ([], 0, []))) := rfl
theorem Law_push_0 (d : Nat) (a0 : Nat) (x1 : Int) (h : Hp) : EX d 55 0 [(0, .inr (.inr a0)), (1, .inl x1)] [] h = if sK h a0 = 3 then if (wr (hI h a0 3)) < 64 then EX d 55 9 [(0, .inr (.inr a0)), (1, .inl x1)] [] h else EX d 55 29 [] [] h else none := (EX_at bk_Law_push_0 _ _ _).trans rfl
theorem bk_Law_push_9 : blk 55 9 = some (((cd_Law_push.lookup 9).getD ([], 0, []))) := rfl
theorem Law_push_9 (d : Nat) (a0 : Nat) (x1 : Int) (h : Hp) : EX d 55 9 [(0, .inr (.inr a0)), (1, .inl x1)] [] h = if sK h a0 = 3 then if sK h a0 = 3 then if okx h (hR h a0 1) 20 (hI h a0 3) then EX d 55 19 [(0, .inr (.inr a0))] [] (pI h (hR h a0 1) (ix (hI h a0 3)) x1) else none else none else none := (EX_at bk_Law_push_9 _ _ _).trans rfl
theorem bk_Law_push_19 : blk 55 19 = some (((cd_Law_push.lookup 19).getD ([], 0, []))) := rfl
theorem Law_push_19 (d : Nat) (a0 : Nat) (h : Hp) : EX d 55 19 [(0, .inr (.inr a0))] [] h = if sK h a0 = 3 then if sK h a0 = 3 then EX d 55 29 [] [] (pI h a0 3 ((hI h a0 3) + 1)) else none else none := (EX_at bk_Law_push_19 _ _ _).trans rfl
theorem bk_Law_push_29 : blk 55 29 = some (((cd_Law_push.lookup 29).getD ([], 0, []))) := rfl
theorem Law_push_29 (d : Nat) (h : Hp) : EX d 55 29 [] [] h = some (.inl 0, h) := (EX_at bk_Law_push_29 _ _ _).trans rfl
/-! valueOf(ILHookOver$Window;II)I of HookOver$Law: method 56 -/
theorem bk_Law_valueOf_0 : blk 56 0 = some (((cd_Law_valueOf.lookup 0).getD ([], 0, []))) := rfl
theorem Law_valueOf_0 (d : Nat) (x0 : Int) (a1 : Nat) (x2 : Int) (x3 : Int) (h : Hp) : EX d 56 0 [(0, .inl x0), (1, .inr (.inr a1)), (2, .inl x2), (3, .inl x3)] [] h = if (wr x0) = 130 then EX d 56 76 [(1, .inr (.inr a1)), (2, .inl x2), (3, .inl x3)] [] h else if (wr x0) = 131 then EX d 56 78 [(1, .inr (.inr a1)), (2, .inl x2), (3, .inl x3)] [] h else if (wr x0) = 132 then EX d 56 99 [(1, .inr (.inr a1)), (2, .inl x2), (3, .inl x3)] [] h else if (wr x0) = 133 then EX d 56 99 [(1, .inr (.inr a1)), (2, .inl x2), (3, .inl x3)] [] h else if (wr x0) = 134 then EX d 56 99 [(1, .inr (.inr a1)), (2, .inl x2), (3, .inl x3)] [] h else if (wr x0) = 135 then EX d 56 99 [(1, .inr (.inr a1)), (2, .inl x2), (3, .inl x3)] [] h else if (wr x0) = 136 then EX d 56 99 [(1, .inr (.inr a1)), (2, .inl x2), (3, .inl x3)] [] h else if (wr x0) = 137 then EX d 56 99 [(1, .inr (.inr a1)), (2, .inl x2), (3, .inl x3)] [] h else if (wr x0) = 138 then EX d 56 99 [(1, .inr (.inr a1)), (2, .inl x2), (3, .inl x3)] [] h else if (wr x0) = 139 then EX d 56 99 [(1, .inr (.inr a1)), (2, .inl x2), (3, .inl x3)] [] h else if (wr x0) = 140 then EX d 56 99 [(1, .inr (.inr a1)), (2, .inl x2), (3, .inl x3)] [] h else if (wr x0) = 141 then EX d 56 99 [(1, .inr (.inr a1)), (2, .inl x2), (3, .inl x3)] [] h else if (wr x0) = 142 then EX d 56 80 [(1, .inr (.inr a1)), (2, .inl x2), (3, .inl x3)] [] h else if (wr x0) = 143 then EX d 56 87 [(1, .inr (.inr a1)), (2, .inl x2), (3, .inl x3)] [] h else if (wr x0) = 144 then EX d 56 94 [(1, .inr (.inr a1)), (2, .inl x2), (3, .inl x3)] [] h else EX d 56 99 [(1, .inr (.inr a1)), (2, .inl x2), (3, .inl x3)] [] h := (EX_at bk_Law_valueOf_0 _ _ _).trans rfl
theorem bk_Law_valueOf_76 : blk 56 76 = some (((cd_Law_valueOf.lookup 76).getD ([], 0, []))) := rfl
theorem Law_valueOf_76 (d : Nat) (a1 : Nat) (x2 : Int) (x3 : Int) (h : Hp) : EX d 56 76 [(1, .inr (.inr a1)), (2, .inl x2), (3, .inl x3)] [] h = some (.inl x2, h) := (EX_at bk_Law_valueOf_76 _ _ _).trans rfl
theorem bk_Law_valueOf_78 : blk 56 78 = some (((cd_Law_valueOf.lookup 78).getD ([], 0, []))) := rfl
theorem Law_valueOf_78 (d : Nat) (a1 : Nat) (x2 : Int) (x3 : Int) (h : Hp) : EX d 56 78 [(1, .inr (.inr a1)), (2, .inl x2), (3, .inl x3)] [] h = some (.inl x3, h) := (EX_at bk_Law_valueOf_78 _ _ _).trans rfl
theorem bk_Law_valueOf_80 : blk 56 80 = some (((cd_Law_valueOf.lookup 80).getD ([], 0, []))) := rfl
theorem Law_valueOf_80 (d : Nat) (a1 : Nat) (x2 : Int) (x3 : Int) (h : Hp) : EX d 56 80 [(1, .inr (.inr a1)), (2, .inl x2), (3, .inl x3)] [] h = if sK h a1 = 9 then if okx h (hR h a1 2) 20 x2 then some (.inl (hI h (hR h a1 2) (ix x2)), h) else none else none := (EX_at bk_Law_valueOf_80 _ _ _).trans rfl
theorem bk_Law_valueOf_87 : blk 56 87 = some (((cd_Law_valueOf.lookup 87).getD ([], 0, []))) := rfl
theorem Law_valueOf_87 (d : Nat) (a1 : Nat) (x2 : Int) (x3 : Int) (h : Hp) : EX d 56 87 [(1, .inr (.inr a1)), (2, .inl x2), (3, .inl x3)] [] h = if sK h a1 = 9 then if okx h (hR h a1 3) 20 x3 then some (.inl (hI h (hR h a1 3) (ix x3)), h) else none else none := (EX_at bk_Law_valueOf_87 _ _ _).trans rfl
theorem bk_Law_valueOf_94 : blk 56 94 = some (((cd_Law_valueOf.lookup 94).getD ([], 0, []))) := rfl
theorem Law_valueOf_94 (d : Nat) (a1 : Nat) (x2 : Int) (x3 : Int) (h : Hp) : EX d 56 94 [(1, .inr (.inr a1)), (2, .inl x2), (3, .inl x3)] [] h = if sK h a1 = 9 then some (.inl (hI h a1 5), h) else none := (EX_at bk_Law_valueOf_94 _ _ _).trans rfl
theorem bk_Law_valueOf_99 : blk 56 99 = some (((cd_Law_valueOf.lookup 99).getD ([], 0, []))) := rfl
theorem Law_valueOf_99 (d : Nat) (a1 : Nat) (x2 : Int) (x3 : Int) (h : Hp) : EX d 56 99 [(1, .inr (.inr a1)), (2, .inl x2), (3, .inl x3)] [] h = if sK h a1 = 9 then some (.inl (hI h a1 6), h) else none := (EX_at bk_Law_valueOf_99 _ _ _).trans rfl
/-! pull()I of HookOver$Law: method 57 -/
theorem bk_Law_pull_0 : blk 57 0 = some (((cd_Law_pull.lookup 0).getD ([], 0, []))) := rfl
theorem Law_pull_0 (d : Nat) (a0 : Nat) (h : Hp) : EX d 57 0 [(0, .inr (.inr a0))] [] h = if sK h a0 = 3 then if (wr (hI h a0 3)) = 0 then EX d 57 7 [] [] h else EX d 57 9 [(0, .inr (.inr a0))] [] h else none := (EX_at bk_Law_pull_0 _ _ _).trans rfl
theorem bk_Law_pull_7 : blk 57 7 = some (((cd_Law_pull.lookup 7).getD ([], 0, []))) := rfl
theorem Law_pull_7 (d : Nat) (h : Hp) : EX d 57 7 [] [] h = some (.inl 0, h) := (EX_at bk_Law_pull_7 _ _ _).trans rfl
theorem bk_Law_pull_9 : blk 57 9 = some (((cd_Law_pull.lookup 9).getD ([], 0, []))) := rfl
theorem Law_pull_9 (d : Nat) (a0 : Nat) (h : Hp) : EX d 57 9 [(0, .inr (.inr a0))] [] h = if sK h a0 = 3 then if sK h a0 = 3 then EX d 57 19 [(0, .inr (.inr a0))] [] (pI h a0 3 ((hI h a0 3) - 1)) else none else none := (EX_at bk_Law_pull_9 _ _ _).trans rfl
theorem bk_Law_pull_19 : blk 57 19 = some (((cd_Law_pull.lookup 19).getD ([], 0, []))) := rfl
theorem Law_pull_19 (d : Nat) (a0 : Nat) (h : Hp) : EX d 57 19 [(0, .inr (.inr a0))] [] h = if sK h a0 = 3 then if sK h a0 = 3 then if okx h (hR h a0 1) 20 (hI h a0 3) then some (.inl (hI h (hR h a0 1) (ix (hI h a0 3))), h) else none else none else none := (EX_at bk_Law_pull_19 _ _ _).trans rfl
/-! kept(J)I of HookOver$Law: method 60 -/
theorem bk_Law_kept_0 : blk 60 0 = some (((cd_Law_kept.lookup 0).getD ([], 0, []))) := rfl
theorem Law_kept_0 (d : Nat) (y0 : Int) (h : Hp) : EX d 60 0 [(0, .inr (.inl y0))] [] h = bak (EX d 60) 10 [] [.inr (.inl (-1000000))] false (cal d 58 [.inr (.inl 1000000), .inr (.inl y0)] h) := (EX_at bk_Law_kept_0 _ _ _).trans rfl
theorem bk_Law_kept_10 : blk 60 10 = some (((cd_Law_kept.lookup 10).getD ([], 0, []))) := rfl
theorem Law_kept_10 (d : Nat) (t0 : Int) (t1 : Int) (h : Hp) : EX d 60 10 [] [.inr (.inl t1), .inr (.inl t0)] h = bak (EX d 60) 13 [] [] false (cal d 59 [.inr (.inl t0), .inr (.inl t1)] h) := (EX_at bk_Law_kept_10 _ _ _).trans rfl
theorem bk_Law_kept_13 : blk 60 13 = some (((cd_Law_kept.lookup 13).getD ([], 0, []))) := rfl
theorem Law_kept_13 (d : Nat) (t0 : Int) (h : Hp) : EX d 60 13 [] [.inr (.inl t0)] h = some (.inl t0, h) := (EX_at bk_Law_kept_13 _ _ _).trans rfl
/-! combine(III)I of HookOver$Law: method 61 -/
theorem bk_Law_combine_0 : blk 61 0 = some (((cd_Law_combine.lookup 0).getD ([], 0, []))) := rfl
theorem Law_combine_0 (d : Nat) (x0 : Int) (x1 : Int) (x2 : Int) (h : Hp) : EX d 61 0 [(0, .inl x0), (1, .inl x1), (2, .inl x2)] [] h = if (wr x0) = 42 then EX d 61 86 [(1, .inl x1), (2, .inl x2)] [] h else if (wr x0) = 43 then EX d 61 68 [(1, .inl x1), (2, .inl x2)] [] h else if (wr x0) = 45 then EX d 61 77 [(1, .inl x1), (2, .inl x2)] [] h else if (wr x0) = 60 then EX d 61 106 [(1, .inl x1), (2, .inl x2)] [] h else if (wr x0) = 61 then EX d 61 95 [(1, .inl x1), (2, .inl x2)] [] h else if (wr x0) = 62 then EX d 61 117 [(1, .inl x1), (2, .inl x2)] [] h else if (wr x0) = 140 then EX d 61 128 [(1, .inl x1), (2, .inl x2)] [] h else EX d 61 132 [(1, .inl x1), (2, .inl x2)] [] h := (EX_at bk_Law_combine_0 _ _ _).trans rfl
theorem bk_Law_combine_68 : blk 61 68 = some (((cd_Law_combine.lookup 68).getD ([], 0, []))) := rfl
theorem Law_combine_68 (d : Nat) (x1 : Int) (x2 : Int) (h : Hp) : EX d 61 68 [(1, .inl x1), (2, .inl x2)] [] h = bak (EX d 61) 76 [] [] false (cal d 60 [.inr (.inl ((wr x1) + (wr x2)))] h) := (EX_at bk_Law_combine_68 _ _ _).trans rfl
theorem bk_Law_combine_76 : blk 61 76 = some (((cd_Law_combine.lookup 76).getD ([], 0, []))) := rfl
theorem Law_combine_76 (d : Nat) (s0 : Int) (h : Hp) : EX d 61 76 [] [.inl s0] h = some (.inl s0, h) := (EX_at bk_Law_combine_76 _ _ _).trans rfl
theorem bk_Law_combine_77 : blk 61 77 = some (((cd_Law_combine.lookup 77).getD ([], 0, []))) := rfl
theorem Law_combine_77 (d : Nat) (x1 : Int) (x2 : Int) (h : Hp) : EX d 61 77 [(1, .inl x1), (2, .inl x2)] [] h = bak (EX d 61) 85 [] [] false (cal d 60 [.inr (.inl ((wr x1) - (wr x2)))] h) := (EX_at bk_Law_combine_77 _ _ _).trans rfl
theorem bk_Law_combine_85 : blk 61 85 = some (((cd_Law_combine.lookup 85).getD ([], 0, []))) := rfl
theorem Law_combine_85 (d : Nat) (s0 : Int) (h : Hp) : EX d 61 85 [] [.inl s0] h = some (.inl s0, h) := (EX_at bk_Law_combine_85 _ _ _).trans rfl
theorem bk_Law_combine_86 : blk 61 86 = some (((cd_Law_combine.lookup 86).getD ([], 0, []))) := rfl
theorem Law_combine_86 (d : Nat) (x1 : Int) (x2 : Int) (h : Hp) : EX d 61 86 [(1, .inl x1), (2, .inl x2)] [] h = bak (EX d 61) 94 [] [] false (cal d 60 [.inr (.inl ((wr x1) * (wr x2)))] h) := (EX_at bk_Law_combine_86 _ _ _).trans rfl
theorem bk_Law_combine_94 : blk 61 94 = some (((cd_Law_combine.lookup 94).getD ([], 0, []))) := rfl
theorem Law_combine_94 (d : Nat) (s0 : Int) (h : Hp) : EX d 61 94 [] [.inl s0] h = some (.inl s0, h) := (EX_at bk_Law_combine_94 _ _ _).trans rfl
theorem bk_Law_combine_95 : blk 61 95 = some (((cd_Law_combine.lookup 95).getD ([], 0, []))) := rfl
theorem Law_combine_95 (d : Nat) (x1 : Int) (x2 : Int) (h : Hp) : EX d 61 95 [(1, .inl x1), (2, .inl x2)] [] h = if (wr x1) = (wr x2) then EX d 61 100 [] [] h else EX d 61 104 [] [] h := (EX_at bk_Law_combine_95 _ _ _).trans rfl
theorem bk_Law_combine_100 : blk 61 100 = some (((cd_Law_combine.lookup 100).getD ([], 0, []))) := rfl
theorem Law_combine_100 (d : Nat) (h : Hp) : EX d 61 100 [] [] h = EX d 61 105 [] [.inl 1] h := (EX_at bk_Law_combine_100 _ _ _).trans rfl
theorem bk_Law_combine_104 : blk 61 104 = some (((cd_Law_combine.lookup 104).getD ([], 0, []))) := rfl
theorem Law_combine_104 (d : Nat) (h : Hp) : EX d 61 104 [] [] h = EX d 61 105 [] [.inl 0] h := (EX_at bk_Law_combine_104 _ _ _).trans rfl
theorem bk_Law_combine_105 : blk 61 105 = some (((cd_Law_combine.lookup 105).getD ([], 0, []))) := rfl
theorem Law_combine_105 (d : Nat) (s0 : Int) (h : Hp) : EX d 61 105 [] [.inl s0] h = some (.inl s0, h) := (EX_at bk_Law_combine_105 _ _ _).trans rfl
theorem bk_Law_combine_106 : blk 61 106 = some (((cd_Law_combine.lookup 106).getD ([], 0, []))) := rfl
theorem Law_combine_106 (d : Nat) (x1 : Int) (x2 : Int) (h : Hp) : EX d 61 106 [(1, .inl x1), (2, .inl x2)] [] h = if (wr x1) < (wr x2) then EX d 61 111 [] [] h else EX d 61 115 [] [] h := (EX_at bk_Law_combine_106 _ _ _).trans rfl
theorem bk_Law_combine_111 : blk 61 111 = some (((cd_Law_combine.lookup 111).getD ([], 0, []))) := rfl
theorem Law_combine_111 (d : Nat) (h : Hp) : EX d 61 111 [] [] h = EX d 61 116 [] [.inl 1] h := (EX_at bk_Law_combine_111 _ _ _).trans rfl
theorem bk_Law_combine_115 : blk 61 115 = some (((cd_Law_combine.lookup 115).getD ([], 0, []))) := rfl
theorem Law_combine_115 (d : Nat) (h : Hp) : EX d 61 115 [] [] h = EX d 61 116 [] [.inl 0] h := (EX_at bk_Law_combine_115 _ _ _).trans rfl
theorem bk_Law_combine_116 : blk 61 116 = some (((cd_Law_combine.lookup 116).getD ([], 0, []))) := rfl
theorem Law_combine_116 (d : Nat) (s0 : Int) (h : Hp) : EX d 61 116 [] [.inl s0] h = some (.inl s0, h) := (EX_at bk_Law_combine_116 _ _ _).trans rfl
theorem bk_Law_combine_117 : blk 61 117 = some (((cd_Law_combine.lookup 117).getD ([], 0, []))) := rfl
theorem Law_combine_117 (d : Nat) (x1 : Int) (x2 : Int) (h : Hp) : EX d 61 117 [(1, .inl x1), (2, .inl x2)] [] h = if (wr x2) < (wr x1) then EX d 61 122 [] [] h else EX d 61 126 [] [] h := (EX_at bk_Law_combine_117 _ _ _).trans rfl
theorem bk_Law_combine_122 : blk 61 122 = some (((cd_Law_combine.lookup 122).getD ([], 0, []))) := rfl
theorem Law_combine_122 (d : Nat) (h : Hp) : EX d 61 122 [] [] h = EX d 61 127 [] [.inl 1] h := (EX_at bk_Law_combine_122 _ _ _).trans rfl
theorem bk_Law_combine_126 : blk 61 126 = some (((cd_Law_combine.lookup 126).getD ([], 0, []))) := rfl
theorem Law_combine_126 (d : Nat) (h : Hp) : EX d 61 126 [] [] h = EX d 61 127 [] [.inl 0] h := (EX_at bk_Law_combine_126 _ _ _).trans rfl
theorem bk_Law_combine_127 : blk 61 127 = some (((cd_Law_combine.lookup 127).getD ([], 0, []))) := rfl
theorem Law_combine_127 (d : Nat) (s0 : Int) (h : Hp) : EX d 61 127 [] [.inl s0] h = some (.inl s0, h) := (EX_at bk_Law_combine_127 _ _ _).trans rfl
theorem bk_Law_combine_128 : blk 61 128 = some (((cd_Law_combine.lookup 128).getD ([], 0, []))) := rfl
theorem Law_combine_128 (d : Nat) (x1 : Int) (x2 : Int) (h : Hp) : EX d 61 128 [(1, .inl x1), (2, .inl x2)] [] h = some (.inl (bAnd x1 x2), h) := (EX_at bk_Law_combine_128 _ _ _).trans rfl
theorem bk_Law_combine_132 : blk 61 132 = some (((cd_Law_combine.lookup 132).getD ([], 0, []))) := rfl
theorem Law_combine_132 (d : Nat) (x1 : Int) (x2 : Int) (h : Hp) : EX d 61 132 [(1, .inl x1), (2, .inl x2)] [] h = some (.inl (bOr x1 x2), h) := (EX_at bk_Law_combine_132 _ _ _).trans rfl
/-! holds(LHookOver$Window;II)Z of HookOver$Law: method 62 -/
theorem bk_Law_holds_0 : blk 62 0 = some (((cd_Law_holds.lookup 0).getD ([], 0, []))) := rfl
theorem Law_holds_0 (d : Nat) (a0 : Nat) (a1 : Nat) (x2 : Int) (x3 : Int) (h : Hp) : EX d 62 0 [(0, .inr (.inr a0)), (1, .inr (.inr a1)), (2, .inl x2), (3, .inl x3)] [] h = if sK h a0 = 3 then EX d 62 5 [(0, .inr (.inr a0)), (1, .inr (.inr a1)), (2, .inl x2), (3, .inl x3)] [] (pI h a0 3 0) else none := (EX_at bk_Law_holds_0 _ _ _).trans rfl
theorem bk_Law_holds_5 : blk 62 5 = some (((cd_Law_holds.lookup 5).getD ([], 0, []))) := rfl
theorem Law_holds_5 (d : Nat) (a0 : Nat) (a1 : Nat) (x2 : Int) (x3 : Int) (h : Hp) : EX d 62 5 [(0, .inr (.inr a0)), (1, .inr (.inr a1)), (2, .inl x2), (3, .inl x3)] [] h = EX d 62 8 [(0, .inr (.inr a0)), (1, .inr (.inr a1)), (2, .inl x2), (3, .inl x3), (4, .inl 0)] [] h := (EX_at bk_Law_holds_5 _ _ _).trans rfl
theorem bk_Law_holds_8 : blk 62 8 = some (((cd_Law_holds.lookup 8).getD ([], 0, []))) := rfl
theorem Law_holds_8 (d : Nat) (a0 : Nat) (a1 : Nat) (x2 : Int) (x3 : Int) (x4 : Int) (h : Hp) : EX d 62 8 [(0, .inr (.inr a0)), (1, .inr (.inr a1)), (2, .inl x2), (3, .inl x3), (4, .inl x4)] [] h = if sK h a0 = 3 then if (wr x4) < (wr (hI h a0 2)) then EX d 62 17 [(0, .inr (.inr a0)), (1, .inr (.inr a1)), (2, .inl x2), (3, .inl x3), (4, .inl x4)] [] h else EX d 62 118 [(0, .inr (.inr a0))] [] h else none := (EX_at bk_Law_holds_8 _ _ _).trans rfl
theorem bk_Law_holds_17 : blk 62 17 = some (((cd_Law_holds.lookup 17).getD ([], 0, []))) := rfl
theorem Law_holds_17 (d : Nat) (a0 : Nat) (a1 : Nat) (x2 : Int) (x3 : Int) (x4 : Int) (h : Hp) : EX d 62 17 [(0, .inr (.inr a0)), (1, .inr (.inr a1)), (2, .inl x2), (3, .inl x3), (4, .inl x4)] [] h = if sK h a0 = 3 then if okx h (hR h a0 0) 20 x4 then if (wr (hI h (hR h a0 0) (ix x4))) < 1000 then EX d 62 47 [(0, .inr (.inr a0)), (1, .inr (.inr a1)), (2, .inl x2), (3, .inl x3), (4, .inl x4), (5, .inl (hI h (hR h a0 0) (ix x4)))] [] h else EX d 62 34 [(0, .inr (.inr a0)), (1, .inr (.inr a1)), (2, .inl x2), (3, .inl x3), (4, .inl x4), (5, .inl (hI h (hR h a0 0) (ix x4)))] [] h else none else none := (EX_at bk_Law_holds_17 _ _ _).trans rfl
theorem bk_Law_holds_34 : blk 62 34 = some (((cd_Law_holds.lookup 34).getD ([], 0, []))) := rfl
theorem Law_holds_34 (d : Nat) (a0 : Nat) (a1 : Nat) (x2 : Int) (x3 : Int) (x4 : Int) (x5 : Int) (h : Hp) : EX d 62 34 [(0, .inr (.inr a0)), (1, .inr (.inr a1)), (2, .inl x2), (3, .inl x3), (4, .inl x4), (5, .inl x5)] [] h = if sK h a0 = 3 then bak (EX d 62) 44 [(0, .inr (.inr a0)), (1, .inr (.inr a1)), (2, .inl x2), (3, .inl x3), (4, .inl x4)] [] true (cal d 55 [.inr (.inr a0), .inl (x5 - 1000)] h) else none := (EX_at bk_Law_holds_34 _ _ _).trans rfl
theorem bk_Law_holds_44 : blk 62 44 = some (((cd_Law_holds.lookup 44).getD ([], 0, []))) := rfl
theorem Law_holds_44 (d : Nat) (a0 : Nat) (a1 : Nat) (x2 : Int) (x3 : Int) (x4 : Int) (h : Hp) : EX d 62 44 [(0, .inr (.inr a0)), (1, .inr (.inr a1)), (2, .inl x2), (3, .inl x3), (4, .inl x4)] [] h = EX d 62 112 [(0, .inr (.inr a0)), (1, .inr (.inr a1)), (2, .inl x2), (3, .inl x3), (4, .inl x4)] [] h := (EX_at bk_Law_holds_44 _ _ _).trans rfl
theorem bk_Law_holds_47 : blk 62 47 = some (((cd_Law_holds.lookup 47).getD ([], 0, []))) := rfl
theorem Law_holds_47 (d : Nat) (a0 : Nat) (a1 : Nat) (x2 : Int) (x3 : Int) (x4 : Int) (x5 : Int) (h : Hp) : EX d 62 47 [(0, .inr (.inr a0)), (1, .inr (.inr a1)), (2, .inl x2), (3, .inl x3), (4, .inl x4), (5, .inl x5)] [] h = bak (EX d 62) 52 [(0, .inr (.inr a0)), (1, .inr (.inr a1)), (2, .inl x2), (3, .inl x3), (4, .inl x4), (5, .inl x5)] [] false (cal d 48 [.inl x5] h) := (EX_at bk_Law_holds_47 _ _ _).trans rfl
theorem bk_Law_holds_52 : blk 62 52 = some (((cd_Law_holds.lookup 52).getD ([], 0, []))) := rfl
theorem Law_holds_52 (d : Nat) (a0 : Nat) (a1 : Nat) (x2 : Int) (x3 : Int) (x4 : Int) (x5 : Int) (s0 : Int) (h : Hp) : EX d 62 52 [(0, .inr (.inr a0)), (1, .inr (.inr a1)), (2, .inl x2), (3, .inl x3), (4, .inl x4), (5, .inl x5)] [.inl s0] h = if (wr s0) = 0 then EX d 62 70 [(0, .inr (.inr a0)), (1, .inr (.inr a1)), (2, .inl x2), (3, .inl x3), (4, .inl x4), (5, .inl x5)] [] h else EX d 62 55 [(0, .inr (.inr a0)), (1, .inr (.inr a1)), (2, .inl x2), (3, .inl x3), (4, .inl x4), (5, .inl x5)] [] h := (EX_at bk_Law_holds_52 _ _ _).trans rfl
theorem bk_Law_holds_55 : blk 62 55 = some (((cd_Law_holds.lookup 55).getD ([], 0, []))) := rfl
theorem Law_holds_55 (d : Nat) (a0 : Nat) (a1 : Nat) (x2 : Int) (x3 : Int) (x4 : Int) (x5 : Int) (h : Hp) : EX d 62 55 [(0, .inr (.inr a0)), (1, .inr (.inr a1)), (2, .inl x2), (3, .inl x3), (4, .inl x4), (5, .inl x5)] [] h = bak (EX d 62) 64 [(0, .inr (.inr a0)), (1, .inr (.inr a1)), (2, .inl x2), (3, .inl x3), (4, .inl x4)] [.inr (.inr a0)] false (cal d 56 [.inl x5, .inr (.inr a1), .inl x2, .inl x3] h) := (EX_at bk_Law_holds_55 _ _ _).trans rfl
theorem bk_Law_holds_64 : blk 62 64 = some (((cd_Law_holds.lookup 64).getD ([], 0, []))) := rfl
theorem Law_holds_64 (d : Nat) (a0 : Nat) (a1 : Nat) (x2 : Int) (x3 : Int) (x4 : Int) (r0 : Nat) (s1 : Int) (h : Hp) : EX d 62 64 [(0, .inr (.inr a0)), (1, .inr (.inr a1)), (2, .inl x2), (3, .inl x3), (4, .inl x4)] [.inl s1, .inr (.inr r0)] h = if sK h r0 = 3 then bak (EX d 62) 67 [(0, .inr (.inr a0)), (1, .inr (.inr a1)), (2, .inl x2), (3, .inl x3), (4, .inl x4)] [] true (cal d 55 [.inr (.inr r0), .inl s1] h) else none := (EX_at bk_Law_holds_64 _ _ _).trans rfl
theorem bk_Law_holds_67 : blk 62 67 = some (((cd_Law_holds.lookup 67).getD ([], 0, []))) := rfl
theorem Law_holds_67 (d : Nat) (a0 : Nat) (a1 : Nat) (x2 : Int) (x3 : Int) (x4 : Int) (h : Hp) : EX d 62 67 [(0, .inr (.inr a0)), (1, .inr (.inr a1)), (2, .inl x2), (3, .inl x3), (4, .inl x4)] [] h = EX d 62 112 [(0, .inr (.inr a0)), (1, .inr (.inr a1)), (2, .inl x2), (3, .inl x3), (4, .inl x4)] [] h := (EX_at bk_Law_holds_67 _ _ _).trans rfl
theorem bk_Law_holds_70 : blk 62 70 = some (((cd_Law_holds.lookup 70).getD ([], 0, []))) := rfl
theorem Law_holds_70 (d : Nat) (a0 : Nat) (a1 : Nat) (x2 : Int) (x3 : Int) (x4 : Int) (x5 : Int) (h : Hp) : EX d 62 70 [(0, .inr (.inr a0)), (1, .inr (.inr a1)), (2, .inl x2), (3, .inl x3), (4, .inl x4), (5, .inl x5)] [] h = if (wr x5) = 141 then EX d 62 78 [(0, .inr (.inr a0)), (1, .inr (.inr a1)), (2, .inl x2), (3, .inl x3), (4, .inl x4)] [] h else EX d 62 91 [(0, .inr (.inr a0)), (1, .inr (.inr a1)), (2, .inl x2), (3, .inl x3), (4, .inl x4), (5, .inl x5)] [] h := (EX_at bk_Law_holds_70 _ _ _).trans rfl
theorem bk_Law_holds_78 : blk 62 78 = some (((cd_Law_holds.lookup 78).getD ([], 0, []))) := rfl
theorem Law_holds_78 (d : Nat) (a0 : Nat) (a1 : Nat) (x2 : Int) (x3 : Int) (x4 : Int) (h : Hp) : EX d 62 78 [(0, .inr (.inr a0)), (1, .inr (.inr a1)), (2, .inl x2), (3, .inl x3), (4, .inl x4)] [] h = if sK h a0 = 3 then bak (EX d 62) 84 [(0, .inr (.inr a0)), (1, .inr (.inr a1)), (2, .inl x2), (3, .inl x3), (4, .inl x4)] [.inl 1, .inr (.inr a0)] false (cal d 57 [.inr (.inr a0)] h) else none := (EX_at bk_Law_holds_78 _ _ _).trans rfl
theorem bk_Law_holds_84 : blk 62 84 = some (((cd_Law_holds.lookup 84).getD ([], 0, []))) := rfl
theorem Law_holds_84 (d : Nat) (a0 : Nat) (a1 : Nat) (x2 : Int) (x3 : Int) (x4 : Int) (r0 : Nat) (s1 : Int) (s2 : Int) (h : Hp) : EX d 62 84 [(0, .inr (.inr a0)), (1, .inr (.inr a1)), (2, .inl x2), (3, .inl x3), (4, .inl x4)] [.inl s2, .inl s1, .inr (.inr r0)] h = if sK h r0 = 3 then bak (EX d 62) 88 [(0, .inr (.inr a0)), (1, .inr (.inr a1)), (2, .inl x2), (3, .inl x3), (4, .inl x4)] [] true (cal d 55 [.inr (.inr r0), .inl (s1 - s2)] h) else none := (EX_at bk_Law_holds_84 _ _ _).trans rfl
theorem bk_Law_holds_88 : blk 62 88 = some (((cd_Law_holds.lookup 88).getD ([], 0, []))) := rfl
theorem Law_holds_88 (d : Nat) (a0 : Nat) (a1 : Nat) (x2 : Int) (x3 : Int) (x4 : Int) (h : Hp) : EX d 62 88 [(0, .inr (.inr a0)), (1, .inr (.inr a1)), (2, .inl x2), (3, .inl x3), (4, .inl x4)] [] h = EX d 62 112 [(0, .inr (.inr a0)), (1, .inr (.inr a1)), (2, .inl x2), (3, .inl x3), (4, .inl x4)] [] h := (EX_at bk_Law_holds_88 _ _ _).trans rfl
theorem bk_Law_holds_91 : blk 62 91 = some (((cd_Law_holds.lookup 91).getD ([], 0, []))) := rfl
theorem Law_holds_91 (d : Nat) (a0 : Nat) (a1 : Nat) (x2 : Int) (x3 : Int) (x4 : Int) (x5 : Int) (h : Hp) : EX d 62 91 [(0, .inr (.inr a0)), (1, .inr (.inr a1)), (2, .inl x2), (3, .inl x3), (4, .inl x4), (5, .inl x5)] [] h = if sK h a0 = 3 then bak (EX d 62) 95 [(0, .inr (.inr a0)), (1, .inr (.inr a1)), (2, .inl x2), (3, .inl x3), (4, .inl x4), (5, .inl x5)] [] false (cal d 57 [.inr (.inr a0)] h) else none := (EX_at bk_Law_holds_91 _ _ _).trans rfl
theorem bk_Law_holds_95 : blk 62 95 = some (((cd_Law_holds.lookup 95).getD ([], 0, []))) := rfl
theorem Law_holds_95 (d : Nat) (a0 : Nat) (a1 : Nat) (x2 : Int) (x3 : Int) (x4 : Int) (x5 : Int) (s0 : Int) (h : Hp) : EX d 62 95 [(0, .inr (.inr a0)), (1, .inr (.inr a1)), (2, .inl x2), (3, .inl x3), (4, .inl x4), (5, .inl x5)] [.inl s0] h = if sK h a0 = 3 then bak (EX d 62) 104 [(0, .inr (.inr a0)), (1, .inr (.inr a1)), (2, .inl x2), (3, .inl x3), (4, .inl x4), (6, .inl s0)] [.inl x5, .inr (.inr a0)] false (cal d 57 [.inr (.inr a0)] h) else none := (EX_at bk_Law_holds_95 _ _ _).trans rfl
theorem bk_Law_holds_104 : blk 62 104 = some (((cd_Law_holds.lookup 104).getD ([], 0, []))) := rfl
theorem Law_holds_104 (d : Nat) (a0 : Nat) (a1 : Nat) (x2 : Int) (x3 : Int) (x4 : Int) (x6 : Int) (r0 : Nat) (s1 : Int) (s2 : Int) (h : Hp) : EX d 62 104 [(0, .inr (.inr a0)), (1, .inr (.inr a1)), (2, .inl x2), (3, .inl x3), (4, .inl x4), (6, .inl x6)] [.inl s2, .inl s1, .inr (.inr r0)] h = bak (EX d 62) 109 [(0, .inr (.inr a0)), (1, .inr (.inr a1)), (2, .inl x2), (3, .inl x3), (4, .inl x4)] [.inr (.inr r0)] false (cal d 61 [.inl s1, .inl s2, .inl x6] h) := (EX_at bk_Law_holds_104 _ _ _).trans rfl
theorem bk_Law_holds_109 : blk 62 109 = some (((cd_Law_holds.lookup 109).getD ([], 0, []))) := rfl
theorem Law_holds_109 (d : Nat) (a0 : Nat) (a1 : Nat) (x2 : Int) (x3 : Int) (x4 : Int) (r0 : Nat) (s1 : Int) (h : Hp) : EX d 62 109 [(0, .inr (.inr a0)), (1, .inr (.inr a1)), (2, .inl x2), (3, .inl x3), (4, .inl x4)] [.inl s1, .inr (.inr r0)] h = if sK h r0 = 3 then bak (EX d 62) 112 [(0, .inr (.inr a0)), (1, .inr (.inr a1)), (2, .inl x2), (3, .inl x3), (4, .inl x4)] [] true (cal d 55 [.inr (.inr r0), .inl s1] h) else none := (EX_at bk_Law_holds_109 _ _ _).trans rfl
theorem bk_Law_holds_112 : blk 62 112 = some (((cd_Law_holds.lookup 112).getD ([], 0, []))) := rfl
theorem Law_holds_112 (d : Nat) (a0 : Nat) (a1 : Nat) (x2 : Int) (x3 : Int) (x4 : Int) (h : Hp) : EX d 62 112 [(0, .inr (.inr a0)), (1, .inr (.inr a1)), (2, .inl x2), (3, .inl x3), (4, .inl x4)] [] h = EX d 62 8 [(0, .inr (.inr a0)), (1, .inr (.inr a1)), (2, .inl x2), (3, .inl x3), (4, .inl (x4 + 1))] [] h := (EX_at bk_Law_holds_112 _ _ _).trans rfl
theorem bk_Law_holds_118 : blk 62 118 = some (((cd_Law_holds.lookup 118).getD ([], 0, []))) := rfl
theorem Law_holds_118 (d : Nat) (a0 : Nat) (h : Hp) : EX d 62 118 [(0, .inr (.inr a0))] [] h = if sK h a0 = 3 then bak (EX d 62) 122 [] [] false (cal d 57 [.inr (.inr a0)] h) else none := (EX_at bk_Law_holds_118 _ _ _).trans rfl
theorem bk_Law_holds_122 : blk 62 122 = some (((cd_Law_holds.lookup 122).getD ([], 0, []))) := rfl
theorem Law_holds_122 (d : Nat) (s0 : Int) (h : Hp) : EX d 62 122 [] [.inl s0] h = if (wr s0) = 0 then EX d 62 129 [] [] h else EX d 62 125 [] [] h := (EX_at bk_Law_holds_122 _ _ _).trans rfl
theorem bk_Law_holds_125 : blk 62 125 = some (((cd_Law_holds.lookup 125).getD ([], 0, []))) := rfl
theorem Law_holds_125 (d : Nat) (h : Hp) : EX d 62 125 [] [] h = EX d 62 130 [] [.inl 1] h := (EX_at bk_Law_holds_125 _ _ _).trans rfl
theorem bk_Law_holds_129 : blk 62 129 = some (((cd_Law_holds.lookup 129).getD ([], 0, []))) := rfl
theorem Law_holds_129 (d : Nat) (h : Hp) : EX d 62 129 [] [] h = EX d 62 130 [] [.inl 0] h := (EX_at bk_Law_holds_129 _ _ _).trans rfl
theorem bk_Law_holds_130 : blk 62 130 = some (((cd_Law_holds.lookup 130).getD ([], 0, []))) := rfl
theorem Law_holds_130 (d : Nat) (s0 : Int) (h : Hp) : EX d 62 130 [] [.inl s0] h = if ((s0 : Int) = 0 ∨ (s0 : Int) = 1) then some (.inl s0, h) else none := (EX_at bk_Law_holds_130 _ _ _).trans rfl
/-! settle(LHookOver$Window;)V of HookOver$Law: method 63 -/
theorem bk_Law_settle_0 : blk 63 0 = some (((cd_Law_settle.lookup 0).getD ([], 0, []))) := rfl
theorem Law_settle_0 (d : Nat) (a0 : Nat) (a1 : Nat) (h : Hp) : EX d 63 0 [(0, .inr (.inr a0)), (1, .inr (.inr a1))] [] h = EX d 63 2 [(0, .inr (.inr a0)), (1, .inr (.inr a1)), (2, .inl 0)] [] h := (EX_at bk_Law_settle_0 _ _ _).trans rfl
theorem bk_Law_settle_2 : blk 63 2 = some (((cd_Law_settle.lookup 2).getD ([], 0, []))) := rfl
theorem Law_settle_2 (d : Nat) (a0 : Nat) (a1 : Nat) (x2 : Int) (h : Hp) : EX d 63 2 [(0, .inr (.inr a0)), (1, .inr (.inr a1)), (2, .inl x2)] [] h = if sK h a1 = 9 then if (wr x2) < (wr (hI h a1 5)) then EX d 63 10 [(0, .inr (.inr a0)), (1, .inr (.inr a1)), (2, .inl x2)] [] h else EX d 63 77 [] [] h else none := (EX_at bk_Law_settle_2 _ _ _).trans rfl
theorem bk_Law_settle_10 : blk 63 10 = some (((cd_Law_settle.lookup 10).getD ([], 0, []))) := rfl
theorem Law_settle_10 (d : Nat) (a0 : Nat) (a1 : Nat) (x2 : Int) (h : Hp) : EX d 63 10 [(0, .inr (.inr a0)), (1, .inr (.inr a1)), (2, .inl x2)] [] h = EX d 63 15 [(0, .inr (.inr a0)), (1, .inr (.inr a1)), (2, .inl x2), (3, .inl 0), (4, .inl 0)] [] h := (EX_at bk_Law_settle_10 _ _ _).trans rfl
theorem bk_Law_settle_15 : blk 63 15 = some (((cd_Law_settle.lookup 15).getD ([], 0, []))) := rfl
theorem Law_settle_15 (d : Nat) (a0 : Nat) (a1 : Nat) (x2 : Int) (x3 : Int) (x4 : Int) (h : Hp) : EX d 63 15 [(0, .inr (.inr a0)), (1, .inr (.inr a1)), (2, .inl x2), (3, .inl x3), (4, .inl x4)] [] h = if sK h a1 = 9 then if (wr x4) < (wr (hI h a1 6)) then EX d 63 24 [(0, .inr (.inr a0)), (1, .inr (.inr a1)), (2, .inl x2), (3, .inl x3), (4, .inl x4)] [] h else EX d 63 64 [(0, .inr (.inr a0)), (1, .inr (.inr a1)), (2, .inl x2), (3, .inl x3)] [] h else none := (EX_at bk_Law_settle_15 _ _ _).trans rfl
theorem bk_Law_settle_24 : blk 63 24 = some (((cd_Law_settle.lookup 24).getD ([], 0, []))) := rfl
theorem Law_settle_24 (d : Nat) (a0 : Nat) (a1 : Nat) (x2 : Int) (x3 : Int) (x4 : Int) (h : Hp) : EX d 63 24 [(0, .inr (.inr a0)), (1, .inr (.inr a1)), (2, .inl x2), (3, .inl x3), (4, .inl x4)] [] h = if sK h a0 = 3 then if (wr (hI h a0 2)) = 0 then EX d 63 31 [(0, .inr (.inr a0)), (1, .inr (.inr a1)), (2, .inl x2), (3, .inl x3), (4, .inl x4)] [] h else EX d 63 40 [(0, .inr (.inr a0)), (1, .inr (.inr a1)), (2, .inl x2), (3, .inl x3), (4, .inl x4)] [] h else none := (EX_at bk_Law_settle_24 _ _ _).trans rfl
theorem bk_Law_settle_31 : blk 63 31 = some (((cd_Law_settle.lookup 31).getD ([], 0, []))) := rfl
theorem Law_settle_31 (d : Nat) (a0 : Nat) (a1 : Nat) (x2 : Int) (x3 : Int) (x4 : Int) (h : Hp) : EX d 63 31 [(0, .inr (.inr a0)), (1, .inr (.inr a1)), (2, .inl x2), (3, .inl x3), (4, .inl x4)] [] h = if (wr x2) = (wr x4) then EX d 63 37 [(0, .inr (.inr a0)), (1, .inr (.inr a1)), (2, .inl x2), (3, .inl x3), (4, .inl x4)] [] h else EX d 63 58 [(0, .inr (.inr a0)), (1, .inr (.inr a1)), (2, .inl x2), (3, .inl x3), (4, .inl x4)] [] h := (EX_at bk_Law_settle_31 _ _ _).trans rfl
theorem bk_Law_settle_37 : blk 63 37 = some (((cd_Law_settle.lookup 37).getD ([], 0, []))) := rfl
theorem Law_settle_37 (d : Nat) (a0 : Nat) (a1 : Nat) (x2 : Int) (x3 : Int) (x4 : Int) (h : Hp) : EX d 63 37 [(0, .inr (.inr a0)), (1, .inr (.inr a1)), (2, .inl x2), (3, .inl x3), (4, .inl x4)] [] h = EX d 63 51 [(0, .inr (.inr a0)), (1, .inr (.inr a1)), (2, .inl x2), (3, .inl x3), (4, .inl x4)] [] h := (EX_at bk_Law_settle_37 _ _ _).trans rfl
theorem bk_Law_settle_40 : blk 63 40 = some (((cd_Law_settle.lookup 40).getD ([], 0, []))) := rfl
theorem Law_settle_40 (d : Nat) (a0 : Nat) (a1 : Nat) (x2 : Int) (x3 : Int) (x4 : Int) (h : Hp) : EX d 63 40 [(0, .inr (.inr a0)), (1, .inr (.inr a1)), (2, .inl x2), (3, .inl x3), (4, .inl x4)] [] h = if sK h a0 = 3 then bak (EX d 63) 48 [(0, .inr (.inr a0)), (1, .inr (.inr a1)), (2, .inl x2), (3, .inl x3), (4, .inl x4)] [] false (cal d 62 [.inr (.inr a0), .inr (.inr a1), .inl x2, .inl x4] h) else none := (EX_at bk_Law_settle_40 _ _ _).trans rfl
theorem bk_Law_settle_48 : blk 63 48 = some (((cd_Law_settle.lookup 48).getD ([], 0, []))) := rfl
theorem Law_settle_48 (d : Nat) (a0 : Nat) (a1 : Nat) (x2 : Int) (x3 : Int) (x4 : Int) (s0 : Int) (h : Hp) : EX d 63 48 [(0, .inr (.inr a0)), (1, .inr (.inr a1)), (2, .inl x2), (3, .inl x3), (4, .inl x4)] [.inl s0] h = if (wr s0) = 0 then EX d 63 58 [(0, .inr (.inr a0)), (1, .inr (.inr a1)), (2, .inl x2), (3, .inl x3), (4, .inl x4)] [] h else EX d 63 51 [(0, .inr (.inr a0)), (1, .inr (.inr a1)), (2, .inl x2), (3, .inl x3), (4, .inl x4)] [] h := (EX_at bk_Law_settle_48 _ _ _).trans rfl
theorem bk_Law_settle_51 : blk 63 51 = some (((cd_Law_settle.lookup 51).getD ([], 0, []))) := rfl
theorem Law_settle_51 (d : Nat) (a0 : Nat) (a1 : Nat) (x2 : Int) (x3 : Int) (x4 : Int) (h : Hp) : EX d 63 51 [(0, .inr (.inr a0)), (1, .inr (.inr a1)), (2, .inl x2), (3, .inl x3), (4, .inl x4)] [] h = EX d 63 58 [(0, .inr (.inr a0)), (1, .inr (.inr a1)), (2, .inl x2), (3, .inl (bOr x3 (bShl 1 x4))), (4, .inl x4)] [] h := (EX_at bk_Law_settle_51 _ _ _).trans rfl
theorem bk_Law_settle_58 : blk 63 58 = some (((cd_Law_settle.lookup 58).getD ([], 0, []))) := rfl
theorem Law_settle_58 (d : Nat) (a0 : Nat) (a1 : Nat) (x2 : Int) (x3 : Int) (x4 : Int) (h : Hp) : EX d 63 58 [(0, .inr (.inr a0)), (1, .inr (.inr a1)), (2, .inl x2), (3, .inl x3), (4, .inl x4)] [] h = EX d 63 15 [(0, .inr (.inr a0)), (1, .inr (.inr a1)), (2, .inl x2), (3, .inl x3), (4, .inl (x4 + 1))] [] h := (EX_at bk_Law_settle_58 _ _ _).trans rfl
theorem bk_Law_settle_64 : blk 63 64 = some (((cd_Law_settle.lookup 64).getD ([], 0, []))) := rfl
theorem Law_settle_64 (d : Nat) (a0 : Nat) (a1 : Nat) (x2 : Int) (x3 : Int) (h : Hp) : EX d 63 64 [(0, .inr (.inr a0)), (1, .inr (.inr a1)), (2, .inl x2), (3, .inl x3)] [] h = if sK h a1 = 9 then if okx h (hR h a1 4) 20 x2 then EX d 63 71 [(0, .inr (.inr a0)), (1, .inr (.inr a1)), (2, .inl x2)] [] (pI h (hR h a1 4) (ix x2) x3) else none else none := (EX_at bk_Law_settle_64 _ _ _).trans rfl
theorem bk_Law_settle_71 : blk 63 71 = some (((cd_Law_settle.lookup 71).getD ([], 0, []))) := rfl
theorem Law_settle_71 (d : Nat) (a0 : Nat) (a1 : Nat) (x2 : Int) (h : Hp) : EX d 63 71 [(0, .inr (.inr a0)), (1, .inr (.inr a1)), (2, .inl x2)] [] h = EX d 63 2 [(0, .inr (.inr a0)), (1, .inr (.inr a1)), (2, .inl (x2 + 1))] [] h := (EX_at bk_Law_settle_71 _ _ _).trans rfl
theorem bk_Law_settle_77 : blk 63 77 = some (((cd_Law_settle.lookup 77).getD ([], 0, []))) := rfl
theorem Law_settle_77 (d : Nat) (h : Hp) : EX d 63 77 [] [] h = some (.inl 0, h) := (EX_at bk_Law_settle_77 _ _ _).trans rfl
