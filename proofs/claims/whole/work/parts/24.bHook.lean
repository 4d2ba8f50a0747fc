/-! <init>()V of HookOver: method 13 -/
theorem bk_Hook_init_0 : blk 13 0 = some (((cd_Hook_init.lookup 0).getD ([], 0, []))) := rfl
theorem Hook_init_0 (d : Nat) (a0 : Nat) (h : Hp) : EX d 13 0 [(0, .inr (.inr a0))] [] h = if (0 < a0 ∧ 0 ≤ 8) then EX d 13 10 [(0, .inr (.inr a0))] [.inr (.inr ((Prod.fst h).length)), .inr (.inr a0)] (nwH h 22 900) else none := (EX_at bk_Hook_init_0 _ _ _).trans rfl
theorem bk_Hook_init_10 : blk 13 10 = some (((cd_Hook_init.lookup 10).getD ([], 0, []))) := rfl
theorem Hook_init_10 (d : Nat) (a0 : Nat) (r0 : Nat) (r1 : Nat) (h : Hp) : EX d 13 10 [(0, .inr (.inr a0))] [.inr (.inr r1), .inr (.inr r0)] h = if sK h r0 = 10 then EX d 13 13 [(0, .inr (.inr a0))] [] (pR h r0 0 r1) else none := (EX_at bk_Hook_init_10 _ _ _).trans rfl
theorem bk_Hook_init_13 : blk 13 13 = some (((cd_Hook_init.lookup 13).getD ([], 0, []))) := rfl
theorem Hook_init_13 (d : Nat) (a0 : Nat) (h : Hp) : EX d 13 13 [(0, .inr (.inr a0))] [] h = if sK h a0 = 10 then EX d 13 18 [(0, .inr (.inr a0))] [] (pI h a0 1 0) else none := (EX_at bk_Hook_init_13 _ _ _).trans rfl
theorem bk_Hook_init_18 : blk 13 18 = some (((cd_Hook_init.lookup 18).getD ([], 0, []))) := rfl
theorem Hook_init_18 (d : Nat) (a0 : Nat) (h : Hp) : EX d 13 18 [(0, .inr (.inr a0))] [] h = EX d 13 22 [(0, .inr (.inr a0))] [.inr (.inr ((Prod.fst h).length)), .inr (.inr a0)] (nwH h 5 2) := (EX_at bk_Hook_init_18 _ _ _).trans rfl
theorem bk_Hook_init_22 : blk 13 22 = some (((cd_Hook_init.lookup 22).getD ([], 0, []))) := rfl
theorem Hook_init_22 (d : Nat) (a0 : Nat) (r0 : Nat) (r1 : Nat) (h : Hp) : EX d 13 22 [(0, .inr (.inr a0))] [.inr (.inr r1), .inr (.inr r0)] h = if sK h r1 = 5 then bak (EX d 13) 26 [(0, .inr (.inr a0))] [.inr (.inr r1), .inr (.inr r0)] true (cal d 2 [.inr (.inr r1)] h) else none := (EX_at bk_Hook_init_22 _ _ _).trans rfl
theorem bk_Hook_init_26 : blk 13 26 = some (((cd_Hook_init.lookup 26).getD ([], 0, []))) := rfl
theorem Hook_init_26 (d : Nat) (a0 : Nat) (r0 : Nat) (r1 : Nat) (h : Hp) : EX d 13 26 [(0, .inr (.inr a0))] [.inr (.inr r1), .inr (.inr r0)] h = if sK h r0 = 10 then EX d 13 29 [(0, .inr (.inr a0))] [] (pR h r0 2 r1) else none := (EX_at bk_Hook_init_26 _ _ _).trans rfl
theorem bk_Hook_init_29 : blk 13 29 = some (((cd_Hook_init.lookup 29).getD ([], 0, []))) := rfl
theorem Hook_init_29 (d : Nat) (a0 : Nat) (h : Hp) : EX d 13 29 [(0, .inr (.inr a0))] [] h = if sK h a0 = 10 then EX d 13 34 [(0, .inr (.inr a0))] [] (pI h a0 3 0) else none := (EX_at bk_Hook_init_29 _ _ _).trans rfl
theorem bk_Hook_init_34 : blk 13 34 = some (((cd_Hook_init.lookup 34).getD ([], 0, []))) := rfl
theorem Hook_init_34 (d : Nat) (a0 : Nat) (h : Hp) : EX d 13 34 [(0, .inr (.inr a0))] [] h = if sK h a0 = 10 then EX d 13 39 [(0, .inr (.inr a0))] [] (pI h a0 4 (-1)) else none := (EX_at bk_Hook_init_34 _ _ _).trans rfl
theorem bk_Hook_init_39 : blk 13 39 = some (((cd_Hook_init.lookup 39).getD ([], 0, []))) := rfl
theorem Hook_init_39 (d : Nat) (a0 : Nat) (h : Hp) : EX d 13 39 [(0, .inr (.inr a0))] [] h = EX d 13 43 [(0, .inr (.inr a0))] [.inr (.inr ((Prod.fst h).length)), .inr (.inr a0)] (nwH h 9 15) := (EX_at bk_Hook_init_39 _ _ _).trans rfl
theorem bk_Hook_init_43 : blk 13 43 = some (((cd_Hook_init.lookup 43).getD ([], 0, []))) := rfl
theorem Hook_init_43 (d : Nat) (a0 : Nat) (r0 : Nat) (r1 : Nat) (h : Hp) : EX d 13 43 [(0, .inr (.inr a0))] [.inr (.inr r1), .inr (.inr r0)] h = if sK h r1 = 9 then bak (EX d 13) 47 [(0, .inr (.inr a0))] [.inr (.inr r1), .inr (.inr r0)] true (cal d 5 [.inr (.inr r1)] h) else none := (EX_at bk_Hook_init_43 _ _ _).trans rfl
theorem bk_Hook_init_47 : blk 13 47 = some (((cd_Hook_init.lookup 47).getD ([], 0, []))) := rfl
theorem Hook_init_47 (d : Nat) (a0 : Nat) (r0 : Nat) (r1 : Nat) (h : Hp) : EX d 13 47 [(0, .inr (.inr a0))] [.inr (.inr r1), .inr (.inr r0)] h = if sK h r0 = 10 then EX d 13 50 [(0, .inr (.inr a0))] [] (pR h r0 5 r1) else none := (EX_at bk_Hook_init_47 _ _ _).trans rfl
theorem bk_Hook_init_50 : blk 13 50 = some (((cd_Hook_init.lookup 50).getD ([], 0, []))) := rfl
theorem Hook_init_50 (d : Nat) (a0 : Nat) (h : Hp) : EX d 13 50 [(0, .inr (.inr a0))] [] h = EX d 13 54 [(0, .inr (.inr a0))] [.inr (.inr ((Prod.fst h).length)), .inr (.inr a0)] (nwH h 9 15) := (EX_at bk_Hook_init_50 _ _ _).trans rfl
theorem bk_Hook_init_54 : blk 13 54 = some (((cd_Hook_init.lookup 54).getD ([], 0, []))) := rfl
theorem Hook_init_54 (d : Nat) (a0 : Nat) (r0 : Nat) (r1 : Nat) (h : Hp) : EX d 13 54 [(0, .inr (.inr a0))] [.inr (.inr r1), .inr (.inr r0)] h = if sK h r1 = 9 then bak (EX d 13) 58 [(0, .inr (.inr a0))] [.inr (.inr r1), .inr (.inr r0)] true (cal d 5 [.inr (.inr r1)] h) else none := (EX_at bk_Hook_init_54 _ _ _).trans rfl
theorem bk_Hook_init_58 : blk 13 58 = some (((cd_Hook_init.lookup 58).getD ([], 0, []))) := rfl
theorem Hook_init_58 (d : Nat) (a0 : Nat) (r0 : Nat) (r1 : Nat) (h : Hp) : EX d 13 58 [(0, .inr (.inr a0))] [.inr (.inr r1), .inr (.inr r0)] h = if sK h r0 = 10 then EX d 13 61 [(0, .inr (.inr a0))] [] (pR h r0 6 r1) else none := (EX_at bk_Hook_init_58 _ _ _).trans rfl
theorem bk_Hook_init_61 : blk 13 61 = some (((cd_Hook_init.lookup 61).getD ([], 0, []))) := rfl
theorem Hook_init_61 (d : Nat) (a0 : Nat) (h : Hp) : EX d 13 61 [(0, .inr (.inr a0))] [] h = EX d 13 65 [(0, .inr (.inr a0))] [.inr (.inr ((Prod.fst h).length)), .inr (.inr a0)] (nwH h 0 3) := (EX_at bk_Hook_init_61 _ _ _).trans rfl
theorem bk_Hook_init_65 : blk 13 65 = some (((cd_Hook_init.lookup 65).getD ([], 0, []))) := rfl
theorem Hook_init_65 (d : Nat) (a0 : Nat) (r0 : Nat) (r1 : Nat) (h : Hp) : EX d 13 65 [(0, .inr (.inr a0))] [.inr (.inr r1), .inr (.inr r0)] h = if sK h r1 = 0 then bak (EX d 13) 69 [(0, .inr (.inr a0))] [.inr (.inr r1), .inr (.inr r0)] true (cal d 7 [.inr (.inr r1)] h) else none := (EX_at bk_Hook_init_65 _ _ _).trans rfl
theorem bk_Hook_init_69 : blk 13 69 = some (((cd_Hook_init.lookup 69).getD ([], 0, []))) := rfl
theorem Hook_init_69 (d : Nat) (a0 : Nat) (r0 : Nat) (r1 : Nat) (h : Hp) : EX d 13 69 [(0, .inr (.inr a0))] [.inr (.inr r1), .inr (.inr r0)] h = if sK h r0 = 10 then EX d 13 72 [(0, .inr (.inr a0))] [] (pR h r0 7 r1) else none := (EX_at bk_Hook_init_69 _ _ _).trans rfl
theorem bk_Hook_init_72 : blk 13 72 = some (((cd_Hook_init.lookup 72).getD ([], 0, []))) := rfl
theorem Hook_init_72 (d : Nat) (a0 : Nat) (h : Hp) : EX d 13 72 [(0, .inr (.inr a0))] [] h = EX d 13 76 [(0, .inr (.inr a0))] [.inr (.inr ((Prod.fst h).length)), .inr (.inr a0)] (nwH h 0 3) := (EX_at bk_Hook_init_72 _ _ _).trans rfl
theorem bk_Hook_init_76 : blk 13 76 = some (((cd_Hook_init.lookup 76).getD ([], 0, []))) := rfl
theorem Hook_init_76 (d : Nat) (a0 : Nat) (r0 : Nat) (r1 : Nat) (h : Hp) : EX d 13 76 [(0, .inr (.inr a0))] [.inr (.inr r1), .inr (.inr r0)] h = if sK h r1 = 0 then bak (EX d 13) 80 [(0, .inr (.inr a0))] [.inr (.inr r1), .inr (.inr r0)] true (cal d 7 [.inr (.inr r1)] h) else none := (EX_at bk_Hook_init_76 _ _ _).trans rfl
theorem bk_Hook_init_80 : blk 13 80 = some (((cd_Hook_init.lookup 80).getD ([], 0, []))) := rfl
theorem Hook_init_80 (d : Nat) (a0 : Nat) (r0 : Nat) (r1 : Nat) (h : Hp) : EX d 13 80 [(0, .inr (.inr a0))] [.inr (.inr r1), .inr (.inr r0)] h = if sK h r0 = 10 then EX d 13 83 [(0, .inr (.inr a0))] [] (pR h r0 8 r1) else none := (EX_at bk_Hook_init_80 _ _ _).trans rfl
theorem bk_Hook_init_83 : blk 13 83 = some (((cd_Hook_init.lookup 83).getD ([], 0, []))) := rfl
theorem Hook_init_83 (d : Nat) (a0 : Nat) (h : Hp) : EX d 13 83 [(0, .inr (.inr a0))] [] h = EX d 13 87 [(0, .inr (.inr a0))] [.inr (.inr ((Prod.fst h).length)), .inr (.inr a0)] (nwH h 1 3) := (EX_at bk_Hook_init_83 _ _ _).trans rfl
theorem bk_Hook_init_87 : blk 13 87 = some (((cd_Hook_init.lookup 87).getD ([], 0, []))) := rfl
theorem Hook_init_87 (d : Nat) (a0 : Nat) (r0 : Nat) (r1 : Nat) (h : Hp) : EX d 13 87 [(0, .inr (.inr a0))] [.inr (.inr r1), .inr (.inr r0)] h = if sK h r1 = 1 then bak (EX d 13) 91 [(0, .inr (.inr a0))] [.inr (.inr r1), .inr (.inr r0)] true (cal d 8 [.inr (.inr r1)] h) else none := (EX_at bk_Hook_init_87 _ _ _).trans rfl
theorem bk_Hook_init_91 : blk 13 91 = some (((cd_Hook_init.lookup 91).getD ([], 0, []))) := rfl
theorem Hook_init_91 (d : Nat) (a0 : Nat) (r0 : Nat) (r1 : Nat) (h : Hp) : EX d 13 91 [(0, .inr (.inr a0))] [.inr (.inr r1), .inr (.inr r0)] h = if sK h r0 = 10 then EX d 13 94 [(0, .inr (.inr a0))] [] (pR h r0 9 r1) else none := (EX_at bk_Hook_init_91 _ _ _).trans rfl
theorem bk_Hook_init_94 : blk 13 94 = some (((cd_Hook_init.lookup 94).getD ([], 0, []))) := rfl
theorem Hook_init_94 (d : Nat) (a0 : Nat) (h : Hp) : EX d 13 94 [(0, .inr (.inr a0))] [] h = EX d 13 99 [(0, .inr (.inr a0))] [.inr (.inr ((Prod.fst h).length)), .inr (.inr a0)] (nwH h 24 4) := (EX_at bk_Hook_init_94 _ _ _).trans rfl
theorem bk_Hook_init_99 : blk 13 99 = some (((cd_Hook_init.lookup 99).getD ([], 0, []))) := rfl
theorem Hook_init_99 (d : Nat) (a0 : Nat) (r0 : Nat) (r1 : Nat) (h : Hp) : EX d 13 99 [(0, .inr (.inr a0))] [.inr (.inr r1), .inr (.inr r0)] h = if sK h r0 = 10 then EX d 13 102 [(0, .inr (.inr a0))] [] (pR h r0 10 r1) else none := (EX_at bk_Hook_init_99 _ _ _).trans rfl
theorem bk_Hook_init_102 : blk 13 102 = some (((cd_Hook_init.lookup 102).getD ([], 0, []))) := rfl
theorem Hook_init_102 (d : Nat) (a0 : Nat) (h : Hp) : EX d 13 102 [(0, .inr (.inr a0))] [] h = EX d 13 104 [(0, .inr (.inr a0)), (1, .inl 0)] [] h := (EX_at bk_Hook_init_102 _ _ _).trans rfl
theorem bk_Hook_init_104 : blk 13 104 = some (((cd_Hook_init.lookup 104).getD ([], 0, []))) := rfl
theorem Hook_init_104 (d : Nat) (a0 : Nat) (x1 : Int) (h : Hp) : EX d 13 104 [(0, .inr (.inr a0)), (1, .inl x1)] [] h = if (wr x1) < 4 then EX d 13 109 [(0, .inr (.inr a0)), (1, .inl x1)] [] h else EX d 13 128 [(0, .inr (.inr a0))] [] h := (EX_at bk_Hook_init_104 _ _ _).trans rfl
theorem bk_Hook_init_109 : blk 13 109 = some (((cd_Hook_init.lookup 109).getD ([], 0, []))) := rfl
theorem Hook_init_109 (d : Nat) (a0 : Nat) (x1 : Int) (h : Hp) : EX d 13 109 [(0, .inr (.inr a0)), (1, .inl x1)] [] h = if sK h a0 = 10 then EX d 13 117 [(0, .inr (.inr a0)), (1, .inl x1)] [.inr (.inr ((Prod.fst h).length)), .inl x1, .inr (.inr (hR h a0 10))] (nwH h 7 3) else none := (EX_at bk_Hook_init_109 _ _ _).trans rfl
theorem bk_Hook_init_117 : blk 13 117 = some (((cd_Hook_init.lookup 117).getD ([], 0, []))) := rfl
theorem Hook_init_117 (d : Nat) (a0 : Nat) (x1 : Int) (r0 : Nat) (s1 : Int) (r2 : Nat) (h : Hp) : EX d 13 117 [(0, .inr (.inr a0)), (1, .inl x1)] [.inr (.inr r2), .inl s1, .inr (.inr r0)] h = if sK h r2 = 7 then bak (EX d 13) 121 [(0, .inr (.inr a0)), (1, .inl x1)] [.inr (.inr r2), .inl s1, .inr (.inr r0)] true (cal d 9 [.inr (.inr r2)] h) else none := (EX_at bk_Hook_init_117 _ _ _).trans rfl
theorem bk_Hook_init_121 : blk 13 121 = some (((cd_Hook_init.lookup 121).getD ([], 0, []))) := rfl
theorem Hook_init_121 (d : Nat) (a0 : Nat) (x1 : Int) (r0 : Nat) (s1 : Int) (r2 : Nat) (h : Hp) : EX d 13 121 [(0, .inr (.inr a0)), (1, .inl x1)] [.inr (.inr r2), .inl s1, .inr (.inr r0)] h = if (okx h r0 24 s1 ∧ sK h r2 = 7) then EX d 13 122 [(0, .inr (.inr a0)), (1, .inl x1)] [] (pR h r0 (ix s1) r2) else none := (EX_at bk_Hook_init_121 _ _ _).trans rfl
theorem bk_Hook_init_122 : blk 13 122 = some (((cd_Hook_init.lookup 122).getD ([], 0, []))) := rfl
theorem Hook_init_122 (d : Nat) (a0 : Nat) (x1 : Int) (h : Hp) : EX d 13 122 [(0, .inr (.inr a0)), (1, .inl x1)] [] h = EX d 13 104 [(0, .inr (.inr a0)), (1, .inl (x1 + 1))] [] h := (EX_at bk_Hook_init_122 _ _ _).trans rfl
theorem bk_Hook_init_128 : blk 13 128 = some (((cd_Hook_init.lookup 128).getD ([], 0, []))) := rfl
theorem Hook_init_128 (d : Nat) (a0 : Nat) (h : Hp) : EX d 13 128 [(0, .inr (.inr a0))] [] h = EX d 13 133 [(0, .inr (.inr a0))] [.inr (.inr ((Prod.fst h).length)), .inr (.inr a0)] (nwH h 25 2) := (EX_at bk_Hook_init_128 _ _ _).trans rfl
theorem bk_Hook_init_133 : blk 13 133 = some (((cd_Hook_init.lookup 133).getD ([], 0, []))) := rfl
theorem Hook_init_133 (d : Nat) (a0 : Nat) (r0 : Nat) (r1 : Nat) (h : Hp) : EX d 13 133 [(0, .inr (.inr a0))] [.inr (.inr r1), .inr (.inr r0)] h = if sK h r0 = 10 then EX d 13 136 [(0, .inr (.inr a0))] [] (pR h r0 11 r1) else none := (EX_at bk_Hook_init_133 _ _ _).trans rfl
theorem bk_Hook_init_136 : blk 13 136 = some (((cd_Hook_init.lookup 136).getD ([], 0, []))) := rfl
theorem Hook_init_136 (d : Nat) (a0 : Nat) (h : Hp) : EX d 13 136 [(0, .inr (.inr a0))] [] h = EX d 13 141 [(0, .inr (.inr a0))] [.inr (.inr ((Prod.fst h).length)), .inr (.inr a0)] (nwH h 26 2) := (EX_at bk_Hook_init_136 _ _ _).trans rfl
theorem bk_Hook_init_141 : blk 13 141 = some (((cd_Hook_init.lookup 141).getD ([], 0, []))) := rfl
theorem Hook_init_141 (d : Nat) (a0 : Nat) (r0 : Nat) (r1 : Nat) (h : Hp) : EX d 13 141 [(0, .inr (.inr a0))] [.inr (.inr r1), .inr (.inr r0)] h = if sK h r0 = 10 then EX d 13 144 [(0, .inr (.inr a0))] [] (pR h r0 12 r1) else none := (EX_at bk_Hook_init_141 _ _ _).trans rfl
theorem bk_Hook_init_144 : blk 13 144 = some (((cd_Hook_init.lookup 144).getD ([], 0, []))) := rfl
theorem Hook_init_144 (d : Nat) (a0 : Nat) (h : Hp) : EX d 13 144 [(0, .inr (.inr a0))] [] h = EX d 13 148 [(0, .inr (.inr a0))] [.inr (.inr ((Prod.fst h).length)), .inr (.inr a0)] (nwH h 23 2) := (EX_at bk_Hook_init_144 _ _ _).trans rfl
theorem bk_Hook_init_148 : blk 13 148 = some (((cd_Hook_init.lookup 148).getD ([], 0, []))) := rfl
theorem Hook_init_148 (d : Nat) (a0 : Nat) (r0 : Nat) (r1 : Nat) (h : Hp) : EX d 13 148 [(0, .inr (.inr a0))] [.inr (.inr r1), .inr (.inr r0)] h = if sK h r0 = 10 then EX d 13 151 [(0, .inr (.inr a0))] [] (pR h r0 13 r1) else none := (EX_at bk_Hook_init_148 _ _ _).trans rfl
theorem bk_Hook_init_151 : blk 13 151 = some (((cd_Hook_init.lookup 151).getD ([], 0, []))) := rfl
theorem Hook_init_151 (d : Nat) (a0 : Nat) (h : Hp) : EX d 13 151 [(0, .inr (.inr a0))] [] h = EX d 13 153 [(0, .inr (.inr a0)), (1, .inl 0)] [] h := (EX_at bk_Hook_init_151 _ _ _).trans rfl
theorem bk_Hook_init_153 : blk 13 153 = some (((cd_Hook_init.lookup 153).getD ([], 0, []))) := rfl
theorem Hook_init_153 (d : Nat) (a0 : Nat) (x1 : Int) (h : Hp) : EX d 13 153 [(0, .inr (.inr a0)), (1, .inl x1)] [] h = if (wr x1) < 2 then EX d 13 158 [(0, .inr (.inr a0)), (1, .inl x1)] [] h else EX d 13 190 [(0, .inr (.inr a0))] [] h := (EX_at bk_Hook_init_153 _ _ _).trans rfl
theorem bk_Hook_init_158 : blk 13 158 = some (((cd_Hook_init.lookup 158).getD ([], 0, []))) := rfl
theorem Hook_init_158 (d : Nat) (a0 : Nat) (x1 : Int) (h : Hp) : EX d 13 158 [(0, .inr (.inr a0)), (1, .inl x1)] [] h = if sK h a0 = 10 then EX d 13 166 [(0, .inr (.inr a0)), (1, .inl x1)] [.inr (.inr ((Prod.fst h).length)), .inl x1, .inr (.inr (hR h a0 11))] (nwH h 9 15) else none := (EX_at bk_Hook_init_158 _ _ _).trans rfl
theorem bk_Hook_init_166 : blk 13 166 = some (((cd_Hook_init.lookup 166).getD ([], 0, []))) := rfl
theorem Hook_init_166 (d : Nat) (a0 : Nat) (x1 : Int) (r0 : Nat) (s1 : Int) (r2 : Nat) (h : Hp) : EX d 13 166 [(0, .inr (.inr a0)), (1, .inl x1)] [.inr (.inr r2), .inl s1, .inr (.inr r0)] h = if sK h r2 = 9 then bak (EX d 13) 170 [(0, .inr (.inr a0)), (1, .inl x1)] [.inr (.inr r2), .inl s1, .inr (.inr r0)] true (cal d 5 [.inr (.inr r2)] h) else none := (EX_at bk_Hook_init_166 _ _ _).trans rfl
theorem bk_Hook_init_170 : blk 13 170 = some (((cd_Hook_init.lookup 170).getD ([], 0, []))) := rfl
theorem Hook_init_170 (d : Nat) (a0 : Nat) (x1 : Int) (r0 : Nat) (s1 : Int) (r2 : Nat) (h : Hp) : EX d 13 170 [(0, .inr (.inr a0)), (1, .inl x1)] [.inr (.inr r2), .inl s1, .inr (.inr r0)] h = if (okx h r0 25 s1 ∧ sK h r2 = 9) then EX d 13 171 [(0, .inr (.inr a0)), (1, .inl x1)] [] (pR h r0 (ix s1) r2) else none := (EX_at bk_Hook_init_170 _ _ _).trans rfl
theorem bk_Hook_init_171 : blk 13 171 = some (((cd_Hook_init.lookup 171).getD ([], 0, []))) := rfl
theorem Hook_init_171 (d : Nat) (a0 : Nat) (x1 : Int) (h : Hp) : EX d 13 171 [(0, .inr (.inr a0)), (1, .inl x1)] [] h = if sK h a0 = 10 then EX d 13 179 [(0, .inr (.inr a0)), (1, .inl x1)] [.inr (.inr ((Prod.fst h).length)), .inl x1, .inr (.inr (hR h a0 12))] (nwH h 0 3) else none := (EX_at bk_Hook_init_171 _ _ _).trans rfl
theorem bk_Hook_init_179 : blk 13 179 = some (((cd_Hook_init.lookup 179).getD ([], 0, []))) := rfl
theorem Hook_init_179 (d : Nat) (a0 : Nat) (x1 : Int) (r0 : Nat) (s1 : Int) (r2 : Nat) (h : Hp) : EX d 13 179 [(0, .inr (.inr a0)), (1, .inl x1)] [.inr (.inr r2), .inl s1, .inr (.inr r0)] h = if sK h r2 = 0 then bak (EX d 13) 183 [(0, .inr (.inr a0)), (1, .inl x1)] [.inr (.inr r2), .inl s1, .inr (.inr r0)] true (cal d 7 [.inr (.inr r2)] h) else none := (EX_at bk_Hook_init_179 _ _ _).trans rfl
theorem bk_Hook_init_183 : blk 13 183 = some (((cd_Hook_init.lookup 183).getD ([], 0, []))) := rfl
theorem Hook_init_183 (d : Nat) (a0 : Nat) (x1 : Int) (r0 : Nat) (s1 : Int) (r2 : Nat) (h : Hp) : EX d 13 183 [(0, .inr (.inr a0)), (1, .inl x1)] [.inr (.inr r2), .inl s1, .inr (.inr r0)] h = if (okx h r0 26 s1 ∧ sK h r2 = 0) then EX d 13 184 [(0, .inr (.inr a0)), (1, .inl x1)] [] (pR h r0 (ix s1) r2) else none := (EX_at bk_Hook_init_183 _ _ _).trans rfl
theorem bk_Hook_init_184 : blk 13 184 = some (((cd_Hook_init.lookup 184).getD ([], 0, []))) := rfl
theorem Hook_init_184 (d : Nat) (a0 : Nat) (x1 : Int) (h : Hp) : EX d 13 184 [(0, .inr (.inr a0)), (1, .inl x1)] [] h = EX d 13 153 [(0, .inr (.inr a0)), (1, .inl (x1 + 1))] [] h := (EX_at bk_Hook_init_184 _ _ _).trans rfl
theorem bk_Hook_init_190 : blk 13 190 = some (((cd_Hook_init.lookup 190).getD ([], 0, []))) := rfl
theorem Hook_init_190 (d : Nat) (a0 : Nat) (h : Hp) : EX d 13 190 [(0, .inr (.inr a0))] [] h = EX d 13 194 [(0, .inr (.inr a0))] [.inr (.inr ((Prod.fst h).length)), .inr (.inr a0)] (nwH h 2 8) := (EX_at bk_Hook_init_190 _ _ _).trans rfl
theorem bk_Hook_init_194 : blk 13 194 = some (((cd_Hook_init.lookup 194).getD ([], 0, []))) := rfl
theorem Hook_init_194 (d : Nat) (a0 : Nat) (r0 : Nat) (r1 : Nat) (h : Hp) : EX d 13 194 [(0, .inr (.inr a0))] [.inr (.inr r1), .inr (.inr r0)] h = if sK h r1 = 2 then bak (EX d 13) 198 [(0, .inr (.inr a0))] [.inr (.inr r1), .inr (.inr r0)] true (cal d 10 [.inr (.inr r1)] h) else none := (EX_at bk_Hook_init_194 _ _ _).trans rfl
theorem bk_Hook_init_198 : blk 13 198 = some (((cd_Hook_init.lookup 198).getD ([], 0, []))) := rfl
theorem Hook_init_198 (d : Nat) (a0 : Nat) (r0 : Nat) (r1 : Nat) (h : Hp) : EX d 13 198 [(0, .inr (.inr a0))] [.inr (.inr r1), .inr (.inr r0)] h = if sK h r0 = 10 then EX d 13 201 [(0, .inr (.inr a0))] [] (pR h r0 14 r1) else none := (EX_at bk_Hook_init_198 _ _ _).trans rfl
theorem bk_Hook_init_201 : blk 13 201 = some (((cd_Hook_init.lookup 201).getD ([], 0, []))) := rfl
theorem Hook_init_201 (d : Nat) (a0 : Nat) (h : Hp) : EX d 13 201 [(0, .inr (.inr a0))] [] h = EX d 13 205 [(0, .inr (.inr a0))] [.inr (.inr ((Prod.fst h).length)), .inr (.inr a0)] (nwH h 4 5) := (EX_at bk_Hook_init_201 _ _ _).trans rfl
theorem bk_Hook_init_205 : blk 13 205 = some (((cd_Hook_init.lookup 205).getD ([], 0, []))) := rfl
theorem Hook_init_205 (d : Nat) (a0 : Nat) (r0 : Nat) (r1 : Nat) (h : Hp) : EX d 13 205 [(0, .inr (.inr a0))] [.inr (.inr r1), .inr (.inr r0)] h = if sK h r1 = 4 then bak (EX d 13) 209 [(0, .inr (.inr a0))] [.inr (.inr r1), .inr (.inr r0)] true (cal d 11 [.inr (.inr r1)] h) else none := (EX_at bk_Hook_init_205 _ _ _).trans rfl
theorem bk_Hook_init_209 : blk 13 209 = some (((cd_Hook_init.lookup 209).getD ([], 0, []))) := rfl
theorem Hook_init_209 (d : Nat) (a0 : Nat) (r0 : Nat) (r1 : Nat) (h : Hp) : EX d 13 209 [(0, .inr (.inr a0))] [.inr (.inr r1), .inr (.inr r0)] h = if sK h r0 = 10 then EX d 13 212 [(0, .inr (.inr a0))] [] (pR h r0 15 r1) else none := (EX_at bk_Hook_init_209 _ _ _).trans rfl
theorem bk_Hook_init_212 : blk 13 212 = some (((cd_Hook_init.lookup 212).getD ([], 0, []))) := rfl
theorem Hook_init_212 (d : Nat) (a0 : Nat) (h : Hp) : EX d 13 212 [(0, .inr (.inr a0))] [] h = EX d 13 216 [(0, .inr (.inr a0))] [.inr (.inr ((Prod.fst h).length)), .inr (.inr a0)] (nwH h 8 3) := (EX_at bk_Hook_init_212 _ _ _).trans rfl
theorem bk_Hook_init_216 : blk 13 216 = some (((cd_Hook_init.lookup 216).getD ([], 0, []))) := rfl
theorem Hook_init_216 (d : Nat) (a0 : Nat) (r0 : Nat) (r1 : Nat) (h : Hp) : EX d 13 216 [(0, .inr (.inr a0))] [.inr (.inr r1), .inr (.inr r0)] h = if sK h r1 = 8 then bak (EX d 13) 220 [(0, .inr (.inr a0))] [.inr (.inr r1), .inr (.inr r0)] true (cal d 12 [.inr (.inr r1)] h) else none := (EX_at bk_Hook_init_216 _ _ _).trans rfl
theorem bk_Hook_init_220 : blk 13 220 = some (((cd_Hook_init.lookup 220).getD ([], 0, []))) := rfl
theorem Hook_init_220 (d : Nat) (a0 : Nat) (r0 : Nat) (r1 : Nat) (h : Hp) : EX d 13 220 [(0, .inr (.inr a0))] [.inr (.inr r1), .inr (.inr r0)] h = if sK h r0 = 10 then EX d 13 223 [(0, .inr (.inr a0))] [] (pR h r0 16 r1) else none := (EX_at bk_Hook_init_220 _ _ _).trans rfl
theorem bk_Hook_init_223 : blk 13 223 = some (((cd_Hook_init.lookup 223).getD ([], 0, []))) := rfl
theorem Hook_init_223 (d : Nat) (a0 : Nat) (h : Hp) : EX d 13 223 [(0, .inr (.inr a0))] [] h = EX d 13 229 [(0, .inr (.inr a0))] [.inr (.inr ((Prod.fst h).length)), .inr (.inr a0)] (nwH h 20 3456) := (EX_at bk_Hook_init_223 _ _ _).trans rfl
theorem bk_Hook_init_229 : blk 13 229 = some (((cd_Hook_init.lookup 229).getD ([], 0, []))) := rfl
theorem Hook_init_229 (d : Nat) (a0 : Nat) (r0 : Nat) (r1 : Nat) (h : Hp) : EX d 13 229 [(0, .inr (.inr a0))] [.inr (.inr r1), .inr (.inr r0)] h = if sK h r0 = 10 then EX d 13 232 [(0, .inr (.inr a0))] [] (pR h r0 17 r1) else none := (EX_at bk_Hook_init_229 _ _ _).trans rfl
theorem bk_Hook_init_232 : blk 13 232 = some (((cd_Hook_init.lookup 232).getD ([], 0, []))) := rfl
theorem Hook_init_232 (d : Nat) (a0 : Nat) (h : Hp) : EX d 13 232 [(0, .inr (.inr a0))] [] h = EX d 13 237 [] [.inr (.inr ((Prod.fst h).length)), .inr (.inr a0)] (nwH h 20 8) := (EX_at bk_Hook_init_232 _ _ _).trans rfl
theorem bk_Hook_init_237 : blk 13 237 = some (((cd_Hook_init.lookup 237).getD ([], 0, []))) := rfl
theorem Hook_init_237 (d : Nat) (r0 : Nat) (r1 : Nat) (h : Hp) : EX d 13 237 [] [.inr (.inr r1), .inr (.inr r0)] h = if sK h r0 = 10 then EX d 13 240 [] [] (pR h r0 18 r1) else none := (EX_at bk_Hook_init_237 _ _ _).trans rfl
theorem bk_Hook_init_240 : blk 13 240 = some (((cd_Hook_init.lookup 240).getD ([], 0, []))) := rfl
theorem Hook_init_240 (d : Nat) (h : Hp) : EX d 13 240 [] [] h = some (.inl 0, h) := (EX_at bk_Hook_init_240 _ _ _).trans rfl
/-! putOnTape(I)V of HookOver: method 16 -/
theorem bk_Hook_putOnTape_0 : blk 16 0 = some (((cd_Hook_putOnTape.lookup 0).getD ([], 0, []))) := rfl
theorem Hook_putOnTape_0 (d : Nat) (a0 : Nat) (x1 : Int) (h : Hp) : EX d 16 0 [(0, .inr (.inr a0)), (1, .inl x1)] [] h = EX d 16 3 [(0, .inr (.inr a0)), (1, .inl x1), (2, .inl 24)] [] h := (EX_at bk_Hook_putOnTape_0 _ _ _).trans rfl
theorem bk_Hook_putOnTape_3 : blk 16 3 = some (((cd_Hook_putOnTape.lookup 3).getD ([], 0, []))) := rfl
theorem Hook_putOnTape_3 (d : Nat) (a0 : Nat) (x1 : Int) (x2 : Int) (h : Hp) : EX d 16 3 [(0, .inr (.inr a0)), (1, .inl x1), (2, .inl x2)] [] h = if (wr x2) < 0 then EX d 16 46 [] [] h else EX d 16 7 [(0, .inr (.inr a0)), (1, .inl x1), (2, .inl x2)] [] h := (EX_at bk_Hook_putOnTape_3 _ _ _).trans rfl
theorem bk_Hook_putOnTape_7 : blk 16 7 = some (((cd_Hook_putOnTape.lookup 7).getD ([], 0, []))) := rfl
theorem Hook_putOnTape_7 (d : Nat) (a0 : Nat) (x1 : Int) (x2 : Int) (h : Hp) : EX d 16 7 [(0, .inr (.inr a0)), (1, .inl x1), (2, .inl x2)] [] h = if sK h a0 = 10 then if (wr (hI h a0 1)) < 900 then EX d 16 17 [(0, .inr (.inr a0)), (1, .inl x1), (2, .inl x2)] [] h else EX d 16 46 [] [] h else none := (EX_at bk_Hook_putOnTape_7 _ _ _).trans rfl
theorem bk_Hook_putOnTape_17 : blk 16 17 = some (((cd_Hook_putOnTape.lookup 17).getD ([], 0, []))) := rfl
theorem Hook_putOnTape_17 (d : Nat) (a0 : Nat) (x1 : Int) (x2 : Int) (h : Hp) : EX d 16 17 [(0, .inr (.inr a0)), (1, .inl x1), (2, .inl x2)] [] h = if sK h a0 = 10 then if sK h a0 = 10 then if okx h (hR h a0 0) 22 (hI h a0 1) then EX d 16 30 [(0, .inr (.inr a0)), (1, .inl x1), (2, .inl x2)] [] (pI h (hR h a0 0) (ix (hI h a0 1)) (bI2b (bI2b (bUshr x1 x2)))) else none else none else none := (EX_at bk_Hook_putOnTape_17 _ _ _).trans rfl
theorem bk_Hook_putOnTape_30 : blk 16 30 = some (((cd_Hook_putOnTape.lookup 30).getD ([], 0, []))) := rfl
theorem Hook_putOnTape_30 (d : Nat) (a0 : Nat) (x1 : Int) (x2 : Int) (h : Hp) : EX d 16 30 [(0, .inr (.inr a0)), (1, .inl x1), (2, .inl x2)] [] h = if sK h a0 = 10 then if sK h a0 = 10 then EX d 16 40 [(0, .inr (.inr a0)), (1, .inl x1), (2, .inl x2)] [] (pI h a0 1 ((hI h a0 1) + 1)) else none else none := (EX_at bk_Hook_putOnTape_30 _ _ _).trans rfl
theorem bk_Hook_putOnTape_40 : blk 16 40 = some (((cd_Hook_putOnTape.lookup 40).getD ([], 0, []))) := rfl
theorem Hook_putOnTape_40 (d : Nat) (a0 : Nat) (x1 : Int) (x2 : Int) (h : Hp) : EX d 16 40 [(0, .inr (.inr a0)), (1, .inl x1), (2, .inl x2)] [] h = EX d 16 3 [(0, .inr (.inr a0)), (1, .inl x1), (2, .inl (x2 + (-8)))] [] h := (EX_at bk_Hook_putOnTape_40 _ _ _).trans rfl
theorem bk_Hook_putOnTape_46 : blk 16 46 = some (((cd_Hook_putOnTape.lookup 46).getD ([], 0, []))) := rfl
theorem Hook_putOnTape_46 (d : Nat) (h : Hp) : EX d 16 46 [] [] h = some (.inl 0, h) := (EX_at bk_Hook_putOnTape_46 _ _ _).trans rfl
/-! feed(IIIII)I of HookOver: method 17 -/
theorem bk_Hook_feed_0 : blk 17 0 = some (((cd_Hook_feed.lookup 0).getD ([], 0, []))) := rfl
theorem Hook_feed_0 (d : Nat) (a0 : Nat) (x1 : Int) (x2 : Int) (x3 : Int) (x4 : Int) (x5 : Int) (h : Hp) : EX d 17 0 [(0, .inr (.inr a0)), (1, .inl x1), (2, .inl x2), (3, .inl x3), (4, .inl x4), (5, .inl x5)] [] h = if sK h a0 = 10 then if 900 < (wr ((hI h a0 1) + 20)) then EX d 17 13 [] [] h else EX d 17 16 [(0, .inr (.inr a0)), (1, .inl x1), (2, .inl x2), (3, .inl x3), (4, .inl x4), (5, .inl x5)] [] h else none := (EX_at bk_Hook_feed_0 _ _ _).trans rfl
theorem bk_Hook_feed_13 : blk 17 13 = some (((cd_Hook_feed.lookup 13).getD ([], 0, []))) := rfl
theorem Hook_feed_13 (d : Nat) (h : Hp) : EX d 17 13 [] [] h = some (.inl (-5), h) := (EX_at bk_Hook_feed_13 _ _ _).trans rfl
theorem bk_Hook_feed_16 : blk 17 16 = some (((cd_Hook_feed.lookup 16).getD ([], 0, []))) := rfl
theorem Hook_feed_16 (d : Nat) (a0 : Nat) (x1 : Int) (x2 : Int) (x3 : Int) (x4 : Int) (x5 : Int) (h : Hp) : EX d 17 16 [(0, .inr (.inr a0)), (1, .inl x1), (2, .inl x2), (3, .inl x3), (4, .inl x4), (5, .inl x5)] [] h = if sK h a0 = 10 then bak (EX d 17) 21 [(0, .inr (.inr a0)), (2, .inl x2), (3, .inl x3), (4, .inl x4), (5, .inl x5)] [] true (cal d 16 [.inr (.inr a0), .inl x1] h) else none := (EX_at bk_Hook_feed_16 _ _ _).trans rfl
theorem bk_Hook_feed_21 : blk 17 21 = some (((cd_Hook_feed.lookup 21).getD ([], 0, []))) := rfl
theorem Hook_feed_21 (d : Nat) (a0 : Nat) (x2 : Int) (x3 : Int) (x4 : Int) (x5 : Int) (h : Hp) : EX d 17 21 [(0, .inr (.inr a0)), (2, .inl x2), (3, .inl x3), (4, .inl x4), (5, .inl x5)] [] h = if sK h a0 = 10 then bak (EX d 17) 26 [(0, .inr (.inr a0)), (3, .inl x3), (4, .inl x4), (5, .inl x5)] [] true (cal d 16 [.inr (.inr a0), .inl x2] h) else none := (EX_at bk_Hook_feed_21 _ _ _).trans rfl
theorem bk_Hook_feed_26 : blk 17 26 = some (((cd_Hook_feed.lookup 26).getD ([], 0, []))) := rfl
theorem Hook_feed_26 (d : Nat) (a0 : Nat) (x3 : Int) (x4 : Int) (x5 : Int) (h : Hp) : EX d 17 26 [(0, .inr (.inr a0)), (3, .inl x3), (4, .inl x4), (5, .inl x5)] [] h = if sK h a0 = 10 then bak (EX d 17) 31 [(0, .inr (.inr a0)), (4, .inl x4), (5, .inl x5)] [] true (cal d 16 [.inr (.inr a0), .inl x3] h) else none := (EX_at bk_Hook_feed_26 _ _ _).trans rfl
theorem bk_Hook_feed_31 : blk 17 31 = some (((cd_Hook_feed.lookup 31).getD ([], 0, []))) := rfl
theorem Hook_feed_31 (d : Nat) (a0 : Nat) (x4 : Int) (x5 : Int) (h : Hp) : EX d 17 31 [(0, .inr (.inr a0)), (4, .inl x4), (5, .inl x5)] [] h = if sK h a0 = 10 then bak (EX d 17) 37 [(0, .inr (.inr a0)), (5, .inl x5)] [] true (cal d 16 [.inr (.inr a0), .inl x4] h) else none := (EX_at bk_Hook_feed_31 _ _ _).trans rfl
theorem bk_Hook_feed_37 : blk 17 37 = some (((cd_Hook_feed.lookup 37).getD ([], 0, []))) := rfl
theorem Hook_feed_37 (d : Nat) (a0 : Nat) (x5 : Int) (h : Hp) : EX d 17 37 [(0, .inr (.inr a0)), (5, .inl x5)] [] h = if sK h a0 = 10 then bak (EX d 17) 43 [(0, .inr (.inr a0))] [] true (cal d 16 [.inr (.inr a0), .inl x5] h) else none := (EX_at bk_Hook_feed_37 _ _ _).trans rfl
theorem bk_Hook_feed_43 : blk 17 43 = some (((cd_Hook_feed.lookup 43).getD ([], 0, []))) := rfl
theorem Hook_feed_43 (d : Nat) (a0 : Nat) (h : Hp) : EX d 17 43 [(0, .inr (.inr a0))] [] h = if sK h a0 = 10 then some (.inl (hI h a0 1), h) else none := (EX_at bk_Hook_feed_43 _ _ _).trans rfl
/-! window(I)I of HookOver: method 72 -/
theorem bk_Hook_window_0 : blk 72 0 = some (((cd_Hook_window.lookup 0).getD ([], 0, []))) := rfl
theorem Hook_window_0 (d : Nat) (a0 : Nat) (x1 : Int) (h : Hp) : EX d 72 0 [(0, .inr (.inr a0)), (1, .inl x1)] [] h = if (wr x1) < 0 then EX d 72 12 [] [] h else EX d 72 4 [(0, .inr (.inr a0)), (1, .inl x1)] [] h := (EX_at bk_Hook_window_0 _ _ _).trans rfl
theorem bk_Hook_window_4 : blk 72 4 = some (((cd_Hook_window.lookup 4).getD ([], 0, []))) := rfl
theorem Hook_window_4 (d : Nat) (a0 : Nat) (x1 : Int) (h : Hp) : EX d 72 4 [(0, .inr (.inr a0)), (1, .inl x1)] [] h = if sK h a0 = 10 then if (wr (hI h a0 1)) < (wr x1) then EX d 72 12 [] [] h else EX d 72 15 [(0, .inr (.inr a0)), (1, .inl x1)] [] h else none := (EX_at bk_Hook_window_4 _ _ _).trans rfl
theorem bk_Hook_window_12 : blk 72 12 = some (((cd_Hook_window.lookup 12).getD ([], 0, []))) := rfl
theorem Hook_window_12 (d : Nat) (h : Hp) : EX d 72 12 [] [] h = some (.inl (-3), h) := (EX_at bk_Hook_window_12 _ _ _).trans rfl
theorem bk_Hook_window_15 : blk 72 15 = some (((cd_Hook_window.lookup 15).getD ([], 0, []))) := rfl
theorem Hook_window_15 (d : Nat) (a0 : Nat) (x1 : Int) (h : Hp) : EX d 72 15 [(0, .inr (.inr a0)), (1, .inl x1)] [] h = if sK h a0 = 10 then EX d 72 20 [(0, .inr (.inr a0)), (1, .inl x1)] [] (pI h a0 1 0) else none := (EX_at bk_Hook_window_15 _ _ _).trans rfl
theorem bk_Hook_window_20 : blk 72 20 = some (((cd_Hook_window.lookup 20).getD ([], 0, []))) := rfl
theorem Hook_window_20 (d : Nat) (a0 : Nat) (x1 : Int) (h : Hp) : EX d 72 20 [(0, .inr (.inr a0)), (1, .inl x1)] [] h = if sK h a0 = 10 then if sK h a0 = 10 then if sK h a0 = 10 then if sK h a0 = 10 then if sK h (hR h a0 2) = 5 then bak (EX d 72) 40 [(0, .inr (.inr a0))] [] true (cal d 66 [.inr (.inr (hR h a0 2)), .inr (.inr (hR h a0 0)), .inl x1, .inr (.inr (hR h a0 6)), .inr (.inr (hR h a0 8))] h) else none else none else none else none else none := (EX_at bk_Hook_window_20 _ _ _).trans rfl
theorem bk_Hook_window_40 : blk 72 40 = some (((cd_Hook_window.lookup 40).getD ([], 0, []))) := rfl
theorem Hook_window_40 (d : Nat) (a0 : Nat) (h : Hp) : EX d 72 40 [(0, .inr (.inr a0))] [] h = if sK h a0 = 10 then if sK h (hR h a0 2) = 5 then bak (EX d 72) 48 [(0, .inr (.inr a0))] [.inr (.inr a0)] false (cal d 67 [.inr (.inr (hR h a0 2))] h) else none else none := (EX_at bk_Hook_window_40 _ _ _).trans rfl
theorem bk_Hook_window_48 : blk 72 48 = some (((cd_Hook_window.lookup 48).getD ([], 0, []))) := rfl
theorem Hook_window_48 (d : Nat) (a0 : Nat) (r0 : Nat) (s1 : Int) (h : Hp) : EX d 72 48 [(0, .inr (.inr a0))] [.inl s1, .inr (.inr r0)] h = if sK h r0 = 10 then EX d 72 51 [(0, .inr (.inr a0))] [] (pI h r0 3 s1) else none := (EX_at bk_Hook_window_48 _ _ _).trans rfl
theorem bk_Hook_window_51 : blk 72 51 = some (((cd_Hook_window.lookup 51).getD ([], 0, []))) := rfl
theorem Hook_window_51 (d : Nat) (a0 : Nat) (h : Hp) : EX d 72 51 [(0, .inr (.inr a0))] [] h = if sK h a0 = 10 then if sK h (hR h a0 2) = 5 then bak (EX d 72) 59 [(0, .inr (.inr a0))] [.inr (.inr a0)] false (cal d 68 [.inr (.inr (hR h a0 2))] h) else none else none := (EX_at bk_Hook_window_51 _ _ _).trans rfl
theorem bk_Hook_window_59 : blk 72 59 = some (((cd_Hook_window.lookup 59).getD ([], 0, []))) := rfl
theorem Hook_window_59 (d : Nat) (a0 : Nat) (r0 : Nat) (s1 : Int) (h : Hp) : EX d 72 59 [(0, .inr (.inr a0))] [.inl s1, .inr (.inr r0)] h = if sK h r0 = 10 then EX d 72 62 [(0, .inr (.inr a0))] [] (pI h r0 4 s1) else none := (EX_at bk_Hook_window_59 _ _ _).trans rfl
theorem bk_Hook_window_62 : blk 72 62 = some (((cd_Hook_window.lookup 62).getD ([], 0, []))) := rfl
theorem Hook_window_62 (d : Nat) (a0 : Nat) (h : Hp) : EX d 72 62 [(0, .inr (.inr a0))] [] h = if sK h a0 = 10 then if (wr (hI h a0 3)) = 0 then EX d 72 77 [(0, .inr (.inr a0))] [] h else EX d 72 69 [(0, .inr (.inr a0))] [] h else none := (EX_at bk_Hook_window_62 _ _ _).trans rfl
theorem bk_Hook_window_69 : blk 72 69 = some (((cd_Hook_window.lookup 69).getD ([], 0, []))) := rfl
theorem Hook_window_69 (d : Nat) (a0 : Nat) (h : Hp) : EX d 72 69 [(0, .inr (.inr a0))] [] h = if sK h a0 = 10 then some (.inl ((-30) - (hI h a0 3)), h) else none := (EX_at bk_Hook_window_69 _ _ _).trans rfl
theorem bk_Hook_window_77 : blk 72 77 = some (((cd_Hook_window.lookup 77).getD ([], 0, []))) := rfl
theorem Hook_window_77 (d : Nat) (a0 : Nat) (h : Hp) : EX d 72 77 [(0, .inr (.inr a0))] [] h = if sK h a0 = 10 then if sK h a0 = 10 then if sK h a0 = 10 then EX d 72 90 [(0, .inr (.inr a0)), (2, .inr (.inr (hR h a0 5)))] [] (pR h a0 5 (hR h a0 6)) else none else none else none := (EX_at bk_Hook_window_77 _ _ _).trans rfl
theorem bk_Hook_window_90 : blk 72 90 = some (((cd_Hook_window.lookup 90).getD ([], 0, []))) := rfl
theorem Hook_window_90 (d : Nat) (a0 : Nat) (a2 : Nat) (h : Hp) : EX d 72 90 [(0, .inr (.inr a0)), (2, .inr (.inr a2))] [] h = if sK h a0 = 10 then EX d 72 95 [(0, .inr (.inr a0))] [] (pR h a0 6 a2) else none := (EX_at bk_Hook_window_90 _ _ _).trans rfl
theorem bk_Hook_window_95 : blk 72 95 = some (((cd_Hook_window.lookup 95).getD ([], 0, []))) := rfl
theorem Hook_window_95 (d : Nat) (a0 : Nat) (h : Hp) : EX d 72 95 [(0, .inr (.inr a0))] [] h = if sK h a0 = 10 then if sK h a0 = 10 then if sK h (hR h a0 7) = 0 then bak (EX d 72) 106 [(0, .inr (.inr a0))] [] true (cal d 69 [.inr (.inr (hR h a0 7)), .inr (.inr (hR h a0 8))] h) else none else none else none := (EX_at bk_Hook_window_95 _ _ _).trans rfl
theorem bk_Hook_window_106 : blk 72 106 = some (((cd_Hook_window.lookup 106).getD ([], 0, []))) := rfl
theorem Hook_window_106 (d : Nat) (a0 : Nat) (h : Hp) : EX d 72 106 [(0, .inr (.inr a0))] [] h = if sK h a0 = 10 then if sK h (hR h a0 9) = 1 then bak (EX d 72) 113 [(0, .inr (.inr a0))] [] true (cal d 70 [.inr (.inr (hR h a0 9))] h) else none else none := (EX_at bk_Hook_window_106 _ _ _).trans rfl
theorem bk_Hook_window_113 : blk 72 113 = some (((cd_Hook_window.lookup 113).getD ([], 0, []))) := rfl
theorem Hook_window_113 (d : Nat) (a0 : Nat) (h : Hp) : EX d 72 113 [(0, .inr (.inr a0))] [] h = if sK h a0 = 10 then if sK h (hR h a0 14) = 2 then bak (EX d 72) 120 [(0, .inr (.inr a0))] [] true (cal d 71 [.inr (.inr (hR h a0 14))] h) else none else none := (EX_at bk_Hook_window_113 _ _ _).trans rfl
theorem bk_Hook_window_120 : blk 72 120 = some (((cd_Hook_window.lookup 120).getD ([], 0, []))) := rfl
theorem Hook_window_120 (d : Nat) (a0 : Nat) (h : Hp) : EX d 72 120 [(0, .inr (.inr a0))] [] h = if sK h a0 = 10 then if sK h (hR h a0 5) = 9 then some (.inl (hI h (hR h a0 5) 14), h) else none else none := (EX_at bk_Hook_window_120 _ _ _).trans rfl
/-! fault(I)I of HookOver: method 104 -/
theorem bk_Hook_fault_0 : blk 104 0 = some (((cd_Hook_fault.lookup 0).getD ([], 0, []))) := rfl
theorem Hook_fault_0 (d : Nat) (a0 : Nat) (x1 : Int) (h : Hp) : EX d 104 0 [(0, .inr (.inr a0)), (1, .inl x1)] [] h = if (wr x1) = 0 then EX d 104 4 [(0, .inr (.inr a0))] [] h else EX d 104 9 [(0, .inr (.inr a0)), (1, .inl x1)] [] h := (EX_at bk_Hook_fault_0 _ _ _).trans rfl
theorem bk_Hook_fault_4 : blk 104 4 = some (((cd_Hook_fault.lookup 4).getD ([], 0, []))) := rfl
theorem Hook_fault_4 (d : Nat) (a0 : Nat) (h : Hp) : EX d 104 4 [(0, .inr (.inr a0))] [] h = if sK h a0 = 10 then some (.inl (hI h a0 3), h) else none := (EX_at bk_Hook_fault_4 _ _ _).trans rfl
theorem bk_Hook_fault_9 : blk 104 9 = some (((cd_Hook_fault.lookup 9).getD ([], 0, []))) := rfl
theorem Hook_fault_9 (d : Nat) (a0 : Nat) (x1 : Int) (h : Hp) : EX d 104 9 [(0, .inr (.inr a0)), (1, .inl x1)] [] h = if (wr x1) = 1 then EX d 104 14 [(0, .inr (.inr a0))] [] h else EX d 104 21 [] [] h := (EX_at bk_Hook_fault_9 _ _ _).trans rfl
theorem bk_Hook_fault_14 : blk 104 14 = some (((cd_Hook_fault.lookup 14).getD ([], 0, []))) := rfl
theorem Hook_fault_14 (d : Nat) (a0 : Nat) (h : Hp) : EX d 104 14 [(0, .inr (.inr a0))] [] h = if sK h a0 = 10 then EX d 104 22 [] [.inl (hI h a0 4)] h else none := (EX_at bk_Hook_fault_14 _ _ _).trans rfl
theorem bk_Hook_fault_21 : blk 104 21 = some (((cd_Hook_fault.lookup 21).getD ([], 0, []))) := rfl
theorem Hook_fault_21 (d : Nat) (h : Hp) : EX d 104 21 [] [] h = EX d 104 22 [] [.inl (-1)] h := (EX_at bk_Hook_fault_21 _ _ _).trans rfl
theorem bk_Hook_fault_22 : blk 104 22 = some (((cd_Hook_fault.lookup 22).getD ([], 0, []))) := rfl
theorem Hook_fault_22 (d : Nat) (s0 : Int) (h : Hp) : EX d 104 22 [] [.inl s0] h = some (.inl s0, h) := (EX_at bk_Hook_fault_22 _ _ _).trans rfl
/-! hook(II)I of HookOver: method 109 -/
theorem bk_Hook_hook_0 : blk 109 0 = some (((cd_Hook_hook.lookup 0).getD ([], 0, []))) := rfl
theorem Hook_hook_0 (d : Nat) (a0 : Nat) (x1 : Int) (x2 : Int) (h : Hp) : EX d 109 0 [(0, .inr (.inr a0)), (1, .inl x1), (2, .inl x2)] [] h = if sK h a0 = 10 then if sK h (hR h a0 5) = 9 then bak (EX d 109) 8 [(0, .inr (.inr a0)), (1, .inl x1), (2, .inl x2)] [] false (cal d 37 [.inr (.inr (hR h a0 5)), .inl x1] h) else none else none := (EX_at bk_Hook_hook_0 _ _ _).trans rfl
theorem bk_Hook_hook_8 : blk 109 8 = some (((cd_Hook_hook.lookup 8).getD ([], 0, []))) := rfl
theorem Hook_hook_8 (d : Nat) (a0 : Nat) (x1 : Int) (x2 : Int) (s0 : Int) (h : Hp) : EX d 109 8 [(0, .inr (.inr a0)), (1, .inl x1), (2, .inl x2)] [.inl s0] h = if (wr s0) = 0 then EX d 109 11 [] [] h else EX d 109 14 [(0, .inr (.inr a0)), (1, .inl x1), (2, .inl x2)] [] h := (EX_at bk_Hook_hook_8 _ _ _).trans rfl
theorem bk_Hook_hook_11 : blk 109 11 = some (((cd_Hook_hook.lookup 11).getD ([], 0, []))) := rfl
theorem Hook_hook_11 (d : Nat) (h : Hp) : EX d 109 11 [] [] h = some (.inl (-2), h) := (EX_at bk_Hook_hook_11 _ _ _).trans rfl
theorem bk_Hook_hook_14 : blk 109 14 = some (((cd_Hook_hook.lookup 14).getD ([], 0, []))) := rfl
theorem Hook_hook_14 (d : Nat) (a0 : Nat) (x1 : Int) (x2 : Int) (h : Hp) : EX d 109 14 [(0, .inr (.inr a0)), (1, .inl x1), (2, .inl x2)] [] h = if (wr x2) = 0 then EX d 109 48 [(0, .inr (.inr a0)), (1, .inl x1)] [] h else if (wr x2) = 1 then EX d 109 58 [(0, .inr (.inr a0)), (1, .inl x1)] [] h else if (wr x2) = 2 then EX d 109 68 [(0, .inr (.inr a0)), (1, .inl x1)] [] h else if (wr x2) = 3 then EX d 109 107 [(0, .inr (.inr a0)), (1, .inl x1)] [] h else if (wr x2) = 4 then EX d 109 120 [(0, .inr (.inr a0)), (1, .inl x1)] [] h else EX d 109 141 [(0, .inr (.inr a0)), (1, .inl x1)] [] h := (EX_at bk_Hook_hook_14 _ _ _).trans rfl
theorem bk_Hook_hook_48 : blk 109 48 = some (((cd_Hook_hook.lookup 48).getD ([], 0, []))) := rfl
theorem Hook_hook_48 (d : Nat) (a0 : Nat) (x1 : Int) (h : Hp) : EX d 109 48 [(0, .inr (.inr a0)), (1, .inl x1)] [] h = if sK h a0 = 10 then if sK h (hR h a0 7) = 0 then if okx h (hR h (hR h a0 7) 0) 20 x1 then some (.inl (hI h (hR h (hR h a0 7) 0) (ix x1)), h) else none else none else none := (EX_at bk_Hook_hook_48 _ _ _).trans rfl
theorem bk_Hook_hook_58 : blk 109 58 = some (((cd_Hook_hook.lookup 58).getD ([], 0, []))) := rfl
theorem Hook_hook_58 (d : Nat) (a0 : Nat) (x1 : Int) (h : Hp) : EX d 109 58 [(0, .inr (.inr a0)), (1, .inl x1)] [] h = if sK h a0 = 10 then if sK h (hR h a0 5) = 9 then if okx h (hR h (hR h a0 5) 2) 20 x1 then some (.inl (hI h (hR h (hR h a0 5) 2) (ix x1)), h) else none else none else none := (EX_at bk_Hook_hook_58 _ _ _).trans rfl
theorem bk_Hook_hook_68 : blk 109 68 = some (((cd_Hook_hook.lookup 68).getD ([], 0, []))) := rfl
theorem Hook_hook_68 (d : Nat) (a0 : Nat) (x1 : Int) (h : Hp) : EX d 109 68 [(0, .inr (.inr a0)), (1, .inl x1)] [] h = if sK h a0 = 10 then if sK h (hR h a0 5) = 9 then if (wr (x1 + 1)) < (wr (hI h (hR h a0 5) 5)) then EX d 109 81 [(0, .inr (.inr a0)), (1, .inl x1)] [] h else EX d 109 105 [] [] h else none else none := (EX_at bk_Hook_hook_68 _ _ _).trans rfl
theorem bk_Hook_hook_81 : blk 109 81 = some (((cd_Hook_hook.lookup 81).getD ([], 0, []))) := rfl
theorem Hook_hook_81 (d : Nat) (a0 : Nat) (x1 : Int) (h : Hp) : EX d 109 81 [(0, .inr (.inr a0)), (1, .inl x1)] [] h = if sK h a0 = 10 then if sK h (hR h a0 5) = 9 then if okx h (hR h (hR h a0 5) 0) 20 (x1 + 1) then if sK h a0 = 10 then if sK h (hR h a0 5) = 9 then if okx h (hR h (hR h a0 5) 0) 20 x1 then EX d 109 106 [] [.inl ((hI h (hR h (hR h a0 5) 0) (ix (x1 + 1))) - (hI h (hR h (hR h a0 5) 0) (ix x1)))] h else none else none else none else none else none else none := (EX_at bk_Hook_hook_81 _ _ _).trans rfl
theorem bk_Hook_hook_105 : blk 109 105 = some (((cd_Hook_hook.lookup 105).getD ([], 0, []))) := rfl
theorem Hook_hook_105 (d : Nat) (h : Hp) : EX d 109 105 [] [] h = EX d 109 106 [] [.inl (-1)] h := (EX_at bk_Hook_hook_105 _ _ _).trans rfl
theorem bk_Hook_hook_106 : blk 109 106 = some (((cd_Hook_hook.lookup 106).getD ([], 0, []))) := rfl
theorem Hook_hook_106 (d : Nat) (s0 : Int) (h : Hp) : EX d 109 106 [] [.inl s0] h = some (.inl s0, h) := (EX_at bk_Hook_hook_106 _ _ _).trans rfl
theorem bk_Hook_hook_107 : blk 109 107 = some (((cd_Hook_hook.lookup 107).getD ([], 0, []))) := rfl
theorem Hook_hook_107 (d : Nat) (a0 : Nat) (x1 : Int) (h : Hp) : EX d 109 107 [(0, .inr (.inr a0)), (1, .inl x1)] [] h = if sK h a0 = 10 then if sK h a0 = 10 then if sK h (hR h a0 7) = 0 then bak (EX d 109) 119 [] [] false (cal d 106 [.inr (.inr (hR h a0 7)), .inr (.inr (hR h a0 5)), .inl x1] h) else none else none else none := (EX_at bk_Hook_hook_107 _ _ _).trans rfl
theorem bk_Hook_hook_119 : blk 109 119 = some (((cd_Hook_hook.lookup 119).getD ([], 0, []))) := rfl
theorem Hook_hook_119 (d : Nat) (s0 : Int) (h : Hp) : EX d 109 119 [] [.inl s0] h = some (.inl s0, h) := (EX_at bk_Hook_hook_119 _ _ _).trans rfl
theorem bk_Hook_hook_120 : blk 109 120 = some (((cd_Hook_hook.lookup 120).getD ([], 0, []))) := rfl
theorem Hook_hook_120 (d : Nat) (a0 : Nat) (x1 : Int) (h : Hp) : EX d 109 120 [(0, .inr (.inr a0)), (1, .inl x1)] [] h = if sK h a0 = 10 then if sK h a0 = 10 then if sK h (hR h a0 7) = 0 then bak (EX d 109) 132 [] [] false (cal d 108 [.inr (.inr (hR h a0 7)), .inr (.inr (hR h a0 5)), .inl x1] h) else none else none else none := (EX_at bk_Hook_hook_120 _ _ _).trans rfl
theorem bk_Hook_hook_132 : blk 109 132 = some (((cd_Hook_hook.lookup 132).getD ([], 0, []))) := rfl
theorem Hook_hook_132 (d : Nat) (s0 : Int) (h : Hp) : EX d 109 132 [] [.inl s0] h = if (wr s0) = 0 then EX d 109 139 [] [] h else EX d 109 135 [] [] h := (EX_at bk_Hook_hook_132 _ _ _).trans rfl
theorem bk_Hook_hook_135 : blk 109 135 = some (((cd_Hook_hook.lookup 135).getD ([], 0, []))) := rfl
theorem Hook_hook_135 (d : Nat) (h : Hp) : EX d 109 135 [] [] h = EX d 109 140 [] [.inl 1] h := (EX_at bk_Hook_hook_135 _ _ _).trans rfl
theorem bk_Hook_hook_139 : blk 109 139 = some (((cd_Hook_hook.lookup 139).getD ([], 0, []))) := rfl
theorem Hook_hook_139 (d : Nat) (h : Hp) : EX d 109 139 [] [] h = EX d 109 140 [] [.inl 0] h := (EX_at bk_Hook_hook_139 _ _ _).trans rfl
theorem bk_Hook_hook_140 : blk 109 140 = some (((cd_Hook_hook.lookup 140).getD ([], 0, []))) := rfl
theorem Hook_hook_140 (d : Nat) (s0 : Int) (h : Hp) : EX d 109 140 [] [.inl s0] h = some (.inl s0, h) := (EX_at bk_Hook_hook_140 _ _ _).trans rfl
theorem bk_Hook_hook_141 : blk 109 141 = some (((cd_Hook_hook.lookup 141).getD ([], 0, []))) := rfl
theorem Hook_hook_141 (d : Nat) (a0 : Nat) (x1 : Int) (h : Hp) : EX d 109 141 [(0, .inr (.inr a0)), (1, .inl x1)] [] h = some (.inl (-2), h) := (EX_at bk_Hook_hook_141 _ _ _).trans rfl
/-! ring(II)I of HookOver: method 118 -/
theorem bk_Hook_ring_0 : blk 118 0 = some (((cd_Hook_ring.lookup 0).getD ([], 0, []))) := rfl
theorem Hook_ring_0 (d : Nat) (a0 : Nat) (x1 : Int) (x2 : Int) (h : Hp) : EX d 118 0 [(0, .inr (.inr a0)), (1, .inl x1), (2, .inl x2)] [] h = if sK h a0 = 10 then if sK h (hR h a0 5) = 9 then bak (EX d 118) 8 [(0, .inr (.inr a0)), (1, .inl x1), (2, .inl x2)] [] false (cal d 38 [.inr (.inr (hR h a0 5)), .inl x1] h) else none else none := (EX_at bk_Hook_ring_0 _ _ _).trans rfl
theorem bk_Hook_ring_8 : blk 118 8 = some (((cd_Hook_ring.lookup 8).getD ([], 0, []))) := rfl
theorem Hook_ring_8 (d : Nat) (a0 : Nat) (x1 : Int) (x2 : Int) (s0 : Int) (h : Hp) : EX d 118 8 [(0, .inr (.inr a0)), (1, .inl x1), (2, .inl x2)] [.inl s0] h = if (wr s0) = 0 then EX d 118 11 [] [] h else EX d 118 14 [(0, .inr (.inr a0)), (1, .inl x1), (2, .inl x2)] [] h := (EX_at bk_Hook_ring_8 _ _ _).trans rfl
theorem bk_Hook_ring_11 : blk 118 11 = some (((cd_Hook_ring.lookup 11).getD ([], 0, []))) := rfl
theorem Hook_ring_11 (d : Nat) (h : Hp) : EX d 118 11 [] [] h = some (.inl (-2), h) := (EX_at bk_Hook_ring_11 _ _ _).trans rfl
theorem bk_Hook_ring_14 : blk 118 14 = some (((cd_Hook_ring.lookup 14).getD ([], 0, []))) := rfl
theorem Hook_ring_14 (d : Nat) (a0 : Nat) (x1 : Int) (x2 : Int) (h : Hp) : EX d 118 14 [(0, .inr (.inr a0)), (1, .inl x1), (2, .inl x2)] [] h = if (wr x2) = 0 then EX d 118 44 [(0, .inr (.inr a0)), (1, .inl x1)] [] h else if (wr x2) = 1 then EX d 118 57 [(0, .inr (.inr a0)), (1, .inl x1)] [] h else if (wr x2) = 2 then EX d 118 67 [(0, .inr (.inr a0)), (1, .inl x1)] [] h else if (wr x2) = 3 then EX d 118 106 [(0, .inr (.inr a0)), (1, .inl x1)] [] h else EX d 118 123 [(0, .inr (.inr a0)), (1, .inl x1)] [] h := (EX_at bk_Hook_ring_14 _ _ _).trans rfl
theorem bk_Hook_ring_44 : blk 118 44 = some (((cd_Hook_ring.lookup 44).getD ([], 0, []))) := rfl
theorem Hook_ring_44 (d : Nat) (a0 : Nat) (x1 : Int) (h : Hp) : EX d 118 44 [(0, .inr (.inr a0)), (1, .inl x1)] [] h = if sK h a0 = 10 then if sK h a0 = 10 then if sK h (hR h a0 7) = 0 then bak (EX d 118) 56 [] [] false (cal d 41 [.inr (.inr (hR h a0 7)), .inr (.inr (hR h a0 5)), .inl x1] h) else none else none else none := (EX_at bk_Hook_ring_44 _ _ _).trans rfl
theorem bk_Hook_ring_56 : blk 118 56 = some (((cd_Hook_ring.lookup 56).getD ([], 0, []))) := rfl
theorem Hook_ring_56 (d : Nat) (s0 : Int) (h : Hp) : EX d 118 56 [] [.inl s0] h = some (.inl s0, h) := (EX_at bk_Hook_ring_56 _ _ _).trans rfl
theorem bk_Hook_ring_57 : blk 118 57 = some (((cd_Hook_ring.lookup 57).getD ([], 0, []))) := rfl
theorem Hook_ring_57 (d : Nat) (a0 : Nat) (x1 : Int) (h : Hp) : EX d 118 57 [(0, .inr (.inr a0)), (1, .inl x1)] [] h = if sK h a0 = 10 then if sK h (hR h a0 5) = 9 then if okx h (hR h (hR h a0 5) 3) 20 x1 then some (.inl (hI h (hR h (hR h a0 5) 3) (ix x1)), h) else none else none else none := (EX_at bk_Hook_ring_57 _ _ _).trans rfl
theorem bk_Hook_ring_67 : blk 118 67 = some (((cd_Hook_ring.lookup 67).getD ([], 0, []))) := rfl
theorem Hook_ring_67 (d : Nat) (a0 : Nat) (x1 : Int) (h : Hp) : EX d 118 67 [(0, .inr (.inr a0)), (1, .inl x1)] [] h = if sK h a0 = 10 then if sK h (hR h a0 5) = 9 then if (wr (x1 + 1)) < (wr (hI h (hR h a0 5) 6)) then EX d 118 80 [(0, .inr (.inr a0)), (1, .inl x1)] [] h else EX d 118 104 [] [] h else none else none := (EX_at bk_Hook_ring_67 _ _ _).trans rfl
theorem bk_Hook_ring_80 : blk 118 80 = some (((cd_Hook_ring.lookup 80).getD ([], 0, []))) := rfl
theorem Hook_ring_80 (d : Nat) (a0 : Nat) (x1 : Int) (h : Hp) : EX d 118 80 [(0, .inr (.inr a0)), (1, .inl x1)] [] h = if sK h a0 = 10 then if sK h (hR h a0 5) = 9 then if okx h (hR h (hR h a0 5) 1) 20 (x1 + 1) then if sK h a0 = 10 then if sK h (hR h a0 5) = 9 then if okx h (hR h (hR h a0 5) 1) 20 x1 then EX d 118 105 [] [.inl ((hI h (hR h (hR h a0 5) 1) (ix (x1 + 1))) - (hI h (hR h (hR h a0 5) 1) (ix x1)))] h else none else none else none else none else none else none := (EX_at bk_Hook_ring_80 _ _ _).trans rfl
theorem bk_Hook_ring_104 : blk 118 104 = some (((cd_Hook_ring.lookup 104).getD ([], 0, []))) := rfl
theorem Hook_ring_104 (d : Nat) (h : Hp) : EX d 118 104 [] [] h = EX d 118 105 [] [.inl (-1)] h := (EX_at bk_Hook_ring_104 _ _ _).trans rfl
theorem bk_Hook_ring_105 : blk 118 105 = some (((cd_Hook_ring.lookup 105).getD ([], 0, []))) := rfl
theorem Hook_ring_105 (d : Nat) (s0 : Int) (h : Hp) : EX d 118 105 [] [.inl s0] h = some (.inl s0, h) := (EX_at bk_Hook_ring_105 _ _ _).trans rfl
theorem bk_Hook_ring_106 : blk 118 106 = some (((cd_Hook_ring.lookup 106).getD ([], 0, []))) := rfl
theorem Hook_ring_106 (d : Nat) (a0 : Nat) (x1 : Int) (h : Hp) : EX d 118 106 [(0, .inr (.inr a0)), (1, .inl x1)] [] h = if sK h a0 = 10 then if sK h (hR h a0 5) = 9 then bak (EX d 118) 114 [] [] false (cal d 40 [.inr (.inr (hR h a0 5)), .inl x1] h) else none else none := (EX_at bk_Hook_ring_106 _ _ _).trans rfl
theorem bk_Hook_ring_114 : blk 118 114 = some (((cd_Hook_ring.lookup 114).getD ([], 0, []))) := rfl
theorem Hook_ring_114 (d : Nat) (s0 : Int) (h : Hp) : EX d 118 114 [] [.inl s0] h = if (wr s0) = 0 then EX d 118 121 [] [] h else EX d 118 117 [] [] h := (EX_at bk_Hook_ring_114 _ _ _).trans rfl
theorem bk_Hook_ring_117 : blk 118 117 = some (((cd_Hook_ring.lookup 117).getD ([], 0, []))) := rfl
theorem Hook_ring_117 (d : Nat) (h : Hp) : EX d 118 117 [] [] h = EX d 118 122 [] [.inl 1] h := (EX_at bk_Hook_ring_117 _ _ _).trans rfl
theorem bk_Hook_ring_121 : blk 118 121 = some (((cd_Hook_ring.lookup 121).getD ([], 0, []))) := rfl
theorem Hook_ring_121 (d : Nat) (h : Hp) : EX d 118 121 [] [] h = EX d 118 122 [] [.inl 0] h := (EX_at bk_Hook_ring_121 _ _ _).trans rfl
theorem bk_Hook_ring_122 : blk 118 122 = some (((cd_Hook_ring.lookup 122).getD ([], 0, []))) := rfl
theorem Hook_ring_122 (d : Nat) (s0 : Int) (h : Hp) : EX d 118 122 [] [.inl s0] h = some (.inl s0, h) := (EX_at bk_Hook_ring_122 _ _ _).trans rfl
theorem bk_Hook_ring_123 : blk 118 123 = some (((cd_Hook_ring.lookup 123).getD ([], 0, []))) := rfl
theorem Hook_ring_123 (d : Nat) (a0 : Nat) (x1 : Int) (h : Hp) : EX d 118 123 [(0, .inr (.inr a0)), (1, .inl x1)] [] h = some (.inl (-2), h) := (EX_at bk_Hook_ring_123 _ _ _).trans rfl
/-! belongs(II)I of HookOver: method 121 -/
theorem bk_Hook_belongs_0 : blk 121 0 = some (((cd_Hook_belongs.lookup 0).getD ([], 0, []))) := rfl
theorem Hook_belongs_0 (d : Nat) (a0 : Nat) (x1 : Int) (x2 : Int) (h : Hp) : EX d 121 0 [(0, .inr (.inr a0)), (1, .inl x1), (2, .inl x2)] [] h = if sK h a0 = 10 then if sK h (hR h a0 5) = 9 then bak (EX d 121) 8 [(0, .inr (.inr a0)), (1, .inl x1), (2, .inl x2)] [] false (cal d 37 [.inr (.inr (hR h a0 5)), .inl x1] h) else none else none := (EX_at bk_Hook_belongs_0 _ _ _).trans rfl
theorem bk_Hook_belongs_8 : blk 121 8 = some (((cd_Hook_belongs.lookup 8).getD ([], 0, []))) := rfl
theorem Hook_belongs_8 (d : Nat) (a0 : Nat) (x1 : Int) (x2 : Int) (s0 : Int) (h : Hp) : EX d 121 8 [(0, .inr (.inr a0)), (1, .inl x1), (2, .inl x2)] [.inl s0] h = if (wr s0) = 0 then EX d 121 22 [] [] h else EX d 121 11 [(0, .inr (.inr a0)), (1, .inl x1), (2, .inl x2)] [] h := (EX_at bk_Hook_belongs_8 _ _ _).trans rfl
theorem bk_Hook_belongs_11 : blk 121 11 = some (((cd_Hook_belongs.lookup 11).getD ([], 0, []))) := rfl
theorem Hook_belongs_11 (d : Nat) (a0 : Nat) (x1 : Int) (x2 : Int) (h : Hp) : EX d 121 11 [(0, .inr (.inr a0)), (1, .inl x1), (2, .inl x2)] [] h = if sK h a0 = 10 then if sK h (hR h a0 5) = 9 then bak (EX d 121) 19 [(0, .inr (.inr a0)), (1, .inl x1), (2, .inl x2)] [] false (cal d 38 [.inr (.inr (hR h a0 5)), .inl x2] h) else none else none := (EX_at bk_Hook_belongs_11 _ _ _).trans rfl
theorem bk_Hook_belongs_19 : blk 121 19 = some (((cd_Hook_belongs.lookup 19).getD ([], 0, []))) := rfl
theorem Hook_belongs_19 (d : Nat) (a0 : Nat) (x1 : Int) (x2 : Int) (s0 : Int) (h : Hp) : EX d 121 19 [(0, .inr (.inr a0)), (1, .inl x1), (2, .inl x2)] [.inl s0] h = if (wr s0) = 0 then EX d 121 22 [] [] h else EX d 121 25 [(0, .inr (.inr a0)), (1, .inl x1), (2, .inl x2)] [] h := (EX_at bk_Hook_belongs_19 _ _ _).trans rfl
theorem bk_Hook_belongs_22 : blk 121 22 = some (((cd_Hook_belongs.lookup 22).getD ([], 0, []))) := rfl
theorem Hook_belongs_22 (d : Nat) (h : Hp) : EX d 121 22 [] [] h = some (.inl (-2), h) := (EX_at bk_Hook_belongs_22 _ _ _).trans rfl
theorem bk_Hook_belongs_25 : blk 121 25 = some (((cd_Hook_belongs.lookup 25).getD ([], 0, []))) := rfl
theorem Hook_belongs_25 (d : Nat) (a0 : Nat) (x1 : Int) (x2 : Int) (h : Hp) : EX d 121 25 [(0, .inr (.inr a0)), (1, .inl x1), (2, .inl x2)] [] h = if sK h a0 = 10 then if sK h (hR h a0 5) = 9 then bak (EX d 121) 34 [] [] false (cal d 107 [.inr (.inr (hR h a0 5)), .inl x1, .inl x2] h) else none else none := (EX_at bk_Hook_belongs_25 _ _ _).trans rfl
theorem bk_Hook_belongs_34 : blk 121 34 = some (((cd_Hook_belongs.lookup 34).getD ([], 0, []))) := rfl
theorem Hook_belongs_34 (d : Nat) (s0 : Int) (h : Hp) : EX d 121 34 [] [.inl s0] h = if (wr s0) = 0 then EX d 121 41 [] [] h else EX d 121 37 [] [] h := (EX_at bk_Hook_belongs_34 _ _ _).trans rfl
theorem bk_Hook_belongs_37 : blk 121 37 = some (((cd_Hook_belongs.lookup 37).getD ([], 0, []))) := rfl
theorem Hook_belongs_37 (d : Nat) (h : Hp) : EX d 121 37 [] [] h = EX d 121 42 [] [.inl 1] h := (EX_at bk_Hook_belongs_37 _ _ _).trans rfl
theorem bk_Hook_belongs_41 : blk 121 41 = some (((cd_Hook_belongs.lookup 41).getD ([], 0, []))) := rfl
theorem Hook_belongs_41 (d : Nat) (h : Hp) : EX d 121 41 [] [] h = EX d 121 42 [] [.inl 0] h := (EX_at bk_Hook_belongs_41 _ _ _).trans rfl
theorem bk_Hook_belongs_42 : blk 121 42 = some (((cd_Hook_belongs.lookup 42).getD ([], 0, []))) := rfl
theorem Hook_belongs_42 (d : Nat) (s0 : Int) (h : Hp) : EX d 121 42 [] [.inl s0] h = some (.inl s0, h) := (EX_at bk_Hook_belongs_42 _ _ _).trans rfl
/-! sags(I)I of HookOver: method 127 -/
theorem bk_Hook_sags_0 : blk 127 0 = some (((cd_Hook_sags.lookup 0).getD ([], 0, []))) := rfl
theorem Hook_sags_0 (d : Nat) (a0 : Nat) (x1 : Int) (h : Hp) : EX d 127 0 [(0, .inr (.inr a0)), (1, .inl x1)] [] h = if (wr x1) = 0 then EX d 127 36 [(0, .inr (.inr a0))] [] h else if (wr x1) = 1 then EX d 127 48 [(0, .inr (.inr a0))] [] h else if (wr x1) = 2 then EX d 127 60 [(0, .inr (.inr a0))] [] h else if (wr x1) = 3 then EX d 127 72 [(0, .inr (.inr a0))] [] h else if (wr x1) = 4 then EX d 127 85 [(0, .inr (.inr a0))] [] h else EX d 127 98 [(0, .inr (.inr a0))] [] h := (EX_at bk_Hook_sags_0 _ _ _).trans rfl
theorem bk_Hook_sags_36 : blk 127 36 = some (((cd_Hook_sags.lookup 36).getD ([], 0, []))) := rfl
theorem Hook_sags_36 (d : Nat) (a0 : Nat) (h : Hp) : EX d 127 36 [(0, .inr (.inr a0))] [] h = if sK h a0 = 10 then if sK h a0 = 10 then if sK h (hR h a0 7) = 0 then bak (EX d 127) 47 [] [] false (cal d 123 [.inr (.inr (hR h a0 7)), .inr (.inr (hR h a0 5))] h) else none else none else none := (EX_at bk_Hook_sags_36 _ _ _).trans rfl
theorem bk_Hook_sags_47 : blk 127 47 = some (((cd_Hook_sags.lookup 47).getD ([], 0, []))) := rfl
theorem Hook_sags_47 (d : Nat) (s0 : Int) (h : Hp) : EX d 127 47 [] [.inl s0] h = some (.inl s0, h) := (EX_at bk_Hook_sags_47 _ _ _).trans rfl
theorem bk_Hook_sags_48 : blk 127 48 = some (((cd_Hook_sags.lookup 48).getD ([], 0, []))) := rfl
theorem Hook_sags_48 (d : Nat) (a0 : Nat) (h : Hp) : EX d 127 48 [(0, .inr (.inr a0))] [] h = if sK h a0 = 10 then if sK h a0 = 10 then if sK h (hR h a0 7) = 0 then bak (EX d 127) 59 [] [] false (cal d 124 [.inr (.inr (hR h a0 7)), .inr (.inr (hR h a0 5))] h) else none else none else none := (EX_at bk_Hook_sags_48 _ _ _).trans rfl
theorem bk_Hook_sags_59 : blk 127 59 = some (((cd_Hook_sags.lookup 59).getD ([], 0, []))) := rfl
theorem Hook_sags_59 (d : Nat) (s0 : Int) (h : Hp) : EX d 127 59 [] [.inl s0] h = some (.inl s0, h) := (EX_at bk_Hook_sags_59 _ _ _).trans rfl
theorem bk_Hook_sags_60 : blk 127 60 = some (((cd_Hook_sags.lookup 60).getD ([], 0, []))) := rfl
theorem Hook_sags_60 (d : Nat) (a0 : Nat) (h : Hp) : EX d 127 60 [(0, .inr (.inr a0))] [] h = if sK h a0 = 10 then if sK h a0 = 10 then if sK h (hR h a0 7) = 0 then bak (EX d 127) 71 [] [] false (cal d 125 [.inr (.inr (hR h a0 7)), .inr (.inr (hR h a0 5))] h) else none else none else none := (EX_at bk_Hook_sags_60 _ _ _).trans rfl
theorem bk_Hook_sags_71 : blk 127 71 = some (((cd_Hook_sags.lookup 71).getD ([], 0, []))) := rfl
theorem Hook_sags_71 (d : Nat) (s0 : Int) (h : Hp) : EX d 127 71 [] [.inl s0] h = some (.inl s0, h) := (EX_at bk_Hook_sags_71 _ _ _).trans rfl
theorem bk_Hook_sags_72 : blk 127 72 = some (((cd_Hook_sags.lookup 72).getD ([], 0, []))) := rfl
theorem Hook_sags_72 (d : Nat) (a0 : Nat) (h : Hp) : EX d 127 72 [(0, .inr (.inr a0))] [] h = if sK h a0 = 10 then if sK h a0 = 10 then if sK h (hR h a0 7) = 0 then bak (EX d 127) 84 [] [] false (cal d 126 [.inr (.inr (hR h a0 7)), .inr (.inr (hR h a0 5)), .inl 0] h) else none else none else none := (EX_at bk_Hook_sags_72 _ _ _).trans rfl
theorem bk_Hook_sags_84 : blk 127 84 = some (((cd_Hook_sags.lookup 84).getD ([], 0, []))) := rfl
theorem Hook_sags_84 (d : Nat) (s0 : Int) (h : Hp) : EX d 127 84 [] [.inl s0] h = some (.inl s0, h) := (EX_at bk_Hook_sags_84 _ _ _).trans rfl
theorem bk_Hook_sags_85 : blk 127 85 = some (((cd_Hook_sags.lookup 85).getD ([], 0, []))) := rfl
theorem Hook_sags_85 (d : Nat) (a0 : Nat) (h : Hp) : EX d 127 85 [(0, .inr (.inr a0))] [] h = if sK h a0 = 10 then if sK h a0 = 10 then if sK h (hR h a0 7) = 0 then bak (EX d 127) 97 [] [] false (cal d 126 [.inr (.inr (hR h a0 7)), .inr (.inr (hR h a0 5)), .inl 1] h) else none else none else none := (EX_at bk_Hook_sags_85 _ _ _).trans rfl
theorem bk_Hook_sags_97 : blk 127 97 = some (((cd_Hook_sags.lookup 97).getD ([], 0, []))) := rfl
theorem Hook_sags_97 (d : Nat) (s0 : Int) (h : Hp) : EX d 127 97 [] [.inl s0] h = some (.inl s0, h) := (EX_at bk_Hook_sags_97 _ _ _).trans rfl
theorem bk_Hook_sags_98 : blk 127 98 = some (((cd_Hook_sags.lookup 98).getD ([], 0, []))) := rfl
theorem Hook_sags_98 (d : Nat) (a0 : Nat) (h : Hp) : EX d 127 98 [(0, .inr (.inr a0))] [] h = some (.inl (-2), h) := (EX_at bk_Hook_sags_98 _ _ _).trans rfl
/-! why(II)I of HookOver: method 130 -/
theorem bk_Hook_why_0 : blk 130 0 = some (((cd_Hook_why.lookup 0).getD ([], 0, []))) := rfl
theorem Hook_why_0 (d : Nat) (a0 : Nat) (x1 : Int) (x2 : Int) (h : Hp) : EX d 130 0 [(0, .inr (.inr a0)), (1, .inl x1), (2, .inl x2)] [] h = if sK h a0 = 10 then if sK h a0 = 10 then if sK h (hR h a0 7) = 0 then bak (EX d 130) 13 [] [] false (cal d 45 [.inr (.inr (hR h a0 7)), .inr (.inr (hR h a0 5)), .inl x1, .inl x2] h) else none else none else none := (EX_at bk_Hook_why_0 _ _ _).trans rfl
theorem bk_Hook_why_13 : blk 130 13 = some (((cd_Hook_why.lookup 13).getD ([], 0, []))) := rfl
theorem Hook_why_13 (d : Nat) (s0 : Int) (h : Hp) : EX d 130 13 [] [.inl s0] h = some (.inl s0, h) := (EX_at bk_Hook_why_13 _ _ _).trans rfl
/-! join(II)I of HookOver: method 138 -/
theorem bk_Hook_join_0 : blk 138 0 = some (((cd_Hook_join.lookup 0).getD ([], 0, []))) := rfl
theorem Hook_join_0 (d : Nat) (a0 : Nat) (x1 : Int) (x2 : Int) (h : Hp) : EX d 138 0 [(0, .inr (.inr a0)), (1, .inl x1), (2, .inl x2)] [] h = if sK h a0 = 10 then if sK h a0 = 10 then if sK h (hR h a0 7) = 0 then bak (EX d 138) 13 [(0, .inr (.inr a0)), (1, .inl x1), (2, .inl x2)] [] false (cal d 45 [.inr (.inr (hR h a0 7)), .inr (.inr (hR h a0 5)), .inl x1, .inl x2] h) else none else none else none := (EX_at bk_Hook_join_0 _ _ _).trans rfl
theorem bk_Hook_join_13 : blk 138 13 = some (((cd_Hook_join.lookup 13).getD ([], 0, []))) := rfl
theorem Hook_join_13 (d : Nat) (a0 : Nat) (x1 : Int) (x2 : Int) (s0 : Int) (h : Hp) : EX d 138 13 [(0, .inr (.inr a0)), (1, .inl x1), (2, .inl x2)] [.inl s0] h = if (wr s0) = 0 then EX d 138 23 [(0, .inr (.inr a0)), (1, .inl x1), (2, .inl x2)] [] h else EX d 138 18 [(3, .inl s0)] [] h := (EX_at bk_Hook_join_13 _ _ _).trans rfl
theorem bk_Hook_join_18 : blk 138 18 = some (((cd_Hook_join.lookup 18).getD ([], 0, []))) := rfl
theorem Hook_join_18 (d : Nat) (x3 : Int) (h : Hp) : EX d 138 18 [(3, .inl x3)] [] h = some (.inl ((-10) - x3), h) := (EX_at bk_Hook_join_18 _ _ _).trans rfl
theorem bk_Hook_join_23 : blk 138 23 = some (((cd_Hook_join.lookup 23).getD ([], 0, []))) := rfl
theorem Hook_join_23 (d : Nat) (a0 : Nat) (x1 : Int) (x2 : Int) (h : Hp) : EX d 138 23 [(0, .inr (.inr a0)), (1, .inl x1), (2, .inl x2)] [] h = if sK h a0 = 10 then if sK h a0 = 10 then if sK h (hR h a0 9) = 1 then bak (EX d 138) 34 [(0, .inr (.inr a0)), (1, .inl x1), (2, .inl x2)] [] true (cal d 132 [.inr (.inr (hR h a0 9)), .inr (.inr (hR h a0 7))] h) else none else none else none := (EX_at bk_Hook_join_23 _ _ _).trans rfl
theorem bk_Hook_join_34 : blk 138 34 = some (((cd_Hook_join.lookup 34).getD ([], 0, []))) := rfl
theorem Hook_join_34 (d : Nat) (a0 : Nat) (x1 : Int) (x2 : Int) (h : Hp) : EX d 138 34 [(0, .inr (.inr a0)), (1, .inl x1), (2, .inl x2)] [] h = if sK h a0 = 10 then if sK h a0 = 10 then if sK h (hR h a0 7) = 0 then bak (EX d 138) 47 [] [] false (cal d 137 [.inr (.inr (hR h a0 7)), .inr (.inr (hR h a0 5)), .inl x1, .inl x2] h) else none else none else none := (EX_at bk_Hook_join_34 _ _ _).trans rfl
theorem bk_Hook_join_47 : blk 138 47 = some (((cd_Hook_join.lookup 47).getD ([], 0, []))) := rfl
theorem Hook_join_47 (d : Nat) (s0 : Int) (h : Hp) : EX d 138 47 [] [.inl s0] h = some (.inl s0, h) := (EX_at bk_Hook_join_47 _ _ _).trans rfl
/-! unhook(I)I of HookOver: method 148 -/
theorem bk_Hook_unhook_0 : blk 148 0 = some (((cd_Hook_unhook.lookup 0).getD ([], 0, []))) := rfl
theorem Hook_unhook_0 (d : Nat) (a0 : Nat) (x1 : Int) (h : Hp) : EX d 148 0 [(0, .inr (.inr a0)), (1, .inl x1)] [] h = if sK h a0 = 10 then if sK h a0 = 10 then if sK h (hR h a0 7) = 0 then bak (EX d 148) 12 [(0, .inr (.inr a0)), (1, .inl x1)] [] false (cal d 146 [.inr (.inr (hR h a0 7)), .inr (.inr (hR h a0 5)), .inl x1] h) else none else none else none := (EX_at bk_Hook_unhook_0 _ _ _).trans rfl
theorem bk_Hook_unhook_12 : blk 148 12 = some (((cd_Hook_unhook.lookup 12).getD ([], 0, []))) := rfl
theorem Hook_unhook_12 (d : Nat) (a0 : Nat) (x1 : Int) (s0 : Int) (h : Hp) : EX d 148 12 [(0, .inr (.inr a0)), (1, .inl x1)] [.inl s0] h = if (wr s0) = 0 then EX d 148 22 [(0, .inr (.inr a0)), (1, .inl x1)] [] h else EX d 148 17 [(2, .inl s0)] [] h := (EX_at bk_Hook_unhook_12 _ _ _).trans rfl
theorem bk_Hook_unhook_17 : blk 148 17 = some (((cd_Hook_unhook.lookup 17).getD ([], 0, []))) := rfl
theorem Hook_unhook_17 (d : Nat) (x2 : Int) (h : Hp) : EX d 148 17 [(2, .inl x2)] [] h = some (.inl ((-10) - x2), h) := (EX_at bk_Hook_unhook_17 _ _ _).trans rfl
theorem bk_Hook_unhook_22 : blk 148 22 = some (((cd_Hook_unhook.lookup 22).getD ([], 0, []))) := rfl
theorem Hook_unhook_22 (d : Nat) (a0 : Nat) (x1 : Int) (h : Hp) : EX d 148 22 [(0, .inr (.inr a0)), (1, .inl x1)] [] h = if sK h a0 = 10 then if sK h a0 = 10 then if sK h (hR h a0 9) = 1 then bak (EX d 148) 33 [(0, .inr (.inr a0)), (1, .inl x1)] [] true (cal d 132 [.inr (.inr (hR h a0 9)), .inr (.inr (hR h a0 7))] h) else none else none else none := (EX_at bk_Hook_unhook_22 _ _ _).trans rfl
theorem bk_Hook_unhook_33 : blk 148 33 = some (((cd_Hook_unhook.lookup 33).getD ([], 0, []))) := rfl
theorem Hook_unhook_33 (d : Nat) (a0 : Nat) (x1 : Int) (h : Hp) : EX d 148 33 [(0, .inr (.inr a0)), (1, .inl x1)] [] h = if sK h a0 = 10 then if sK h a0 = 10 then if sK h (hR h a0 7) = 0 then bak (EX d 148) 45 [] [] false (cal d 147 [.inr (.inr (hR h a0 7)), .inr (.inr (hR h a0 5)), .inl x1] h) else none else none else none := (EX_at bk_Hook_unhook_33 _ _ _).trans rfl
theorem bk_Hook_unhook_45 : blk 148 45 = some (((cd_Hook_unhook.lookup 45).getD ([], 0, []))) := rfl
theorem Hook_unhook_45 (d : Nat) (s0 : Int) (h : Hp) : EX d 148 45 [] [.inl s0] h = some (.inl s0, h) := (EX_at bk_Hook_unhook_45 _ _ _).trans rfl
/-! undo(I)I of HookOver: method 154 -/
theorem bk_Hook_undo_0 : blk 154 0 = some (((cd_Hook_undo.lookup 0).getD ([], 0, []))) := rfl
theorem Hook_undo_0 (d : Nat) (a0 : Nat) (x1 : Int) (h : Hp) : EX d 154 0 [(0, .inr (.inr a0)), (1, .inl x1)] [] h = if (wr x1) < 1 then EX d 154 22 [] [] h else EX d 154 5 [(0, .inr (.inr a0)), (1, .inl x1)] [] h := (EX_at bk_Hook_undo_0 _ _ _).trans rfl
theorem bk_Hook_undo_5 : blk 154 5 = some (((cd_Hook_undo.lookup 5).getD ([], 0, []))) := rfl
theorem Hook_undo_5 (d : Nat) (a0 : Nat) (x1 : Int) (h : Hp) : EX d 154 5 [(0, .inr (.inr a0)), (1, .inl x1)] [] h = if 10 < (wr x1) then EX d 154 22 [] [] h else EX d 154 11 [(0, .inr (.inr a0)), (1, .inl x1)] [] h := (EX_at bk_Hook_undo_5 _ _ _).trans rfl
theorem bk_Hook_undo_11 : blk 154 11 = some (((cd_Hook_undo.lookup 11).getD ([], 0, []))) := rfl
theorem Hook_undo_11 (d : Nat) (a0 : Nat) (x1 : Int) (h : Hp) : EX d 154 11 [(0, .inr (.inr a0)), (1, .inl x1)] [] h = if sK h a0 = 10 then if sK h (hR h a0 9) = 1 then if (wr (hI h (hR h a0 9) 2)) < (wr x1) then EX d 154 22 [] [] h else EX d 154 25 [(0, .inr (.inr a0)), (1, .inl x1)] [] h else none else none := (EX_at bk_Hook_undo_11 _ _ _).trans rfl
theorem bk_Hook_undo_22 : blk 154 22 = some (((cd_Hook_undo.lookup 22).getD ([], 0, []))) := rfl
theorem Hook_undo_22 (d : Nat) (h : Hp) : EX d 154 22 [] [] h = some (.inl (-3), h) := (EX_at bk_Hook_undo_22 _ _ _).trans rfl
theorem bk_Hook_undo_25 : blk 154 25 = some (((cd_Hook_undo.lookup 25).getD ([], 0, []))) := rfl
theorem Hook_undo_25 (d : Nat) (a0 : Nat) (x1 : Int) (h : Hp) : EX d 154 25 [(0, .inr (.inr a0)), (1, .inl x1)] [] h = if sK h a0 = 10 then if sK h a0 = 10 then if sK h (hR h a0 9) = 1 then bak (EX d 154) 37 [(0, .inr (.inr a0))] [] true (cal d 153 [.inr (.inr (hR h a0 9)), .inl x1, .inr (.inr (hR h a0 7))] h) else none else none else none := (EX_at bk_Hook_undo_25 _ _ _).trans rfl
theorem bk_Hook_undo_37 : blk 154 37 = some (((cd_Hook_undo.lookup 37).getD ([], 0, []))) := rfl
theorem Hook_undo_37 (d : Nat) (a0 : Nat) (h : Hp) : EX d 154 37 [(0, .inr (.inr a0))] [] h = if sK h a0 = 10 then if sK h (hR h a0 9) = 1 then some (.inl (hI h (hR h a0 9) 2), h) else none else none := (EX_at bk_Hook_undo_37 _ _ _).trans rfl
/-! isTray(I)Z of HookOver: method 156 -/
theorem bk_Hook_isTray_0 : blk 156 0 = some (((cd_Hook_isTray.lookup 0).getD ([], 0, []))) := rfl
theorem Hook_isTray_0 (d : Nat) (x0 : Int) (h : Hp) : EX d 156 0 [(0, .inl x0)] [] h = if (wr x0) < 0 then EX d 156 13 [] [] h else EX d 156 4 [(0, .inl x0)] [] h := (EX_at bk_Hook_isTray_0 _ _ _).trans rfl
theorem bk_Hook_isTray_4 : blk 156 4 = some (((cd_Hook_isTray.lookup 4).getD ([], 0, []))) := rfl
theorem Hook_isTray_4 (d : Nat) (x0 : Int) (h : Hp) : EX d 156 4 [(0, .inl x0)] [] h = if (wr x0) < 4 then EX d 156 9 [] [] h else EX d 156 13 [] [] h := (EX_at bk_Hook_isTray_4 _ _ _).trans rfl
theorem bk_Hook_isTray_9 : blk 156 9 = some (((cd_Hook_isTray.lookup 9).getD ([], 0, []))) := rfl
theorem Hook_isTray_9 (d : Nat) (h : Hp) : EX d 156 9 [] [] h = EX d 156 14 [] [.inl 1] h := (EX_at bk_Hook_isTray_9 _ _ _).trans rfl
theorem bk_Hook_isTray_13 : blk 156 13 = some (((cd_Hook_isTray.lookup 13).getD ([], 0, []))) := rfl
theorem Hook_isTray_13 (d : Nat) (h : Hp) : EX d 156 13 [] [] h = EX d 156 14 [] [.inl 0] h := (EX_at bk_Hook_isTray_13 _ _ _).trans rfl
theorem bk_Hook_isTray_14 : blk 156 14 = some (((cd_Hook_isTray.lookup 14).getD ([], 0, []))) := rfl
theorem Hook_isTray_14 (d : Nat) (s0 : Int) (h : Hp) : EX d 156 14 [] [.inl s0] h = if ((s0 : Int) = 0 ∨ (s0 : Int) = 1) then some (.inl s0, h) else none := (EX_at bk_Hook_isTray_14 _ _ _).trans rfl
/-! judge(II)I of HookOver: method 163 -/
theorem bk_Hook_judge_0 : blk 163 0 = some (((cd_Hook_judge.lookup 0).getD ([], 0, []))) := rfl
theorem Hook_judge_0 (d : Nat) (a0 : Nat) (x1 : Int) (x2 : Int) (h : Hp) : EX d 163 0 [(0, .inr (.inr a0)), (1, .inl x1), (2, .inl x2)] [] h = bak (EX d 163) 4 [(0, .inr (.inr a0)), (1, .inl x1), (2, .inl x2)] [] false (cal d 156 [.inl x1] h) := (EX_at bk_Hook_judge_0 _ _ _).trans rfl
theorem bk_Hook_judge_4 : blk 163 4 = some (((cd_Hook_judge.lookup 4).getD ([], 0, []))) := rfl
theorem Hook_judge_4 (d : Nat) (a0 : Nat) (x1 : Int) (x2 : Int) (s0 : Int) (h : Hp) : EX d 163 4 [(0, .inr (.inr a0)), (1, .inl x1), (2, .inl x2)] [.inl s0] h = if (wr s0) = 0 then EX d 163 16 [] [] h else EX d 163 7 [(0, .inr (.inr a0)), (1, .inl x1), (2, .inl x2)] [] h := (EX_at bk_Hook_judge_4 _ _ _).trans rfl
theorem bk_Hook_judge_7 : blk 163 7 = some (((cd_Hook_judge.lookup 7).getD ([], 0, []))) := rfl
theorem Hook_judge_7 (d : Nat) (a0 : Nat) (x1 : Int) (x2 : Int) (h : Hp) : EX d 163 7 [(0, .inr (.inr a0)), (1, .inl x1), (2, .inl x2)] [] h = if (wr x2) < 0 then EX d 163 16 [] [] h else EX d 163 11 [(0, .inr (.inr a0)), (1, .inl x1), (2, .inl x2)] [] h := (EX_at bk_Hook_judge_7 _ _ _).trans rfl
theorem bk_Hook_judge_11 : blk 163 11 = some (((cd_Hook_judge.lookup 11).getD ([], 0, []))) := rfl
theorem Hook_judge_11 (d : Nat) (a0 : Nat) (x1 : Int) (x2 : Int) (h : Hp) : EX d 163 11 [(0, .inr (.inr a0)), (1, .inl x1), (2, .inl x2)] [] h = if 3 < (wr x2) then EX d 163 16 [] [] h else EX d 163 19 [(0, .inr (.inr a0)), (1, .inl x1), (2, .inl x2)] [] h := (EX_at bk_Hook_judge_11 _ _ _).trans rfl
theorem bk_Hook_judge_16 : blk 163 16 = some (((cd_Hook_judge.lookup 16).getD ([], 0, []))) := rfl
theorem Hook_judge_16 (d : Nat) (h : Hp) : EX d 163 16 [] [] h = some (.inl (-2), h) := (EX_at bk_Hook_judge_16 _ _ _).trans rfl
theorem bk_Hook_judge_19 : blk 163 19 = some (((cd_Hook_judge.lookup 19).getD ([], 0, []))) := rfl
theorem Hook_judge_19 (d : Nat) (a0 : Nat) (x1 : Int) (x2 : Int) (h : Hp) : EX d 163 19 [(0, .inr (.inr a0)), (1, .inl x1), (2, .inl x2)] [] h = if sK h a0 = 10 then if okx h (hR h a0 10) 24 x1 then if sK h (hR h (hR h a0 10) (ix x1)) = 7 then bak (EX d 163) 30 [(0, .inr (.inr a0)), (2, .inl x2), (3, .inr (.inr (hR h (hR h a0 10) (ix x1))))] [] false (cal d 157 [.inr (.inr (hR h (hR h a0 10) (ix x1)))] h) else none else none else none := (EX_at bk_Hook_judge_19 _ _ _).trans rfl
theorem bk_Hook_judge_30 : blk 163 30 = some (((cd_Hook_judge.lookup 30).getD ([], 0, []))) := rfl
theorem Hook_judge_30 (d : Nat) (a0 : Nat) (x2 : Int) (a3 : Nat) (s0 : Int) (h : Hp) : EX d 163 30 [(0, .inr (.inr a0)), (2, .inl x2), (3, .inr (.inr a3))] [.inl s0] h = if (wr s0) = 0 then EX d 163 36 [(0, .inr (.inr a0)), (2, .inl x2), (3, .inr (.inr a3))] [] h else EX d 163 33 [] [] h := (EX_at bk_Hook_judge_30 _ _ _).trans rfl
theorem bk_Hook_judge_33 : blk 163 33 = some (((cd_Hook_judge.lookup 33).getD ([], 0, []))) := rfl
theorem Hook_judge_33 (d : Nat) (h : Hp) : EX d 163 33 [] [] h = some (.inl (-6), h) := (EX_at bk_Hook_judge_33 _ _ _).trans rfl
theorem bk_Hook_judge_36 : blk 163 36 = some (((cd_Hook_judge.lookup 36).getD ([], 0, []))) := rfl
theorem Hook_judge_36 (d : Nat) (a0 : Nat) (x2 : Int) (a3 : Nat) (h : Hp) : EX d 163 36 [(0, .inr (.inr a0)), (2, .inl x2), (3, .inr (.inr a3))] [] h = if sK h a0 = 10 then if sK h a0 = 10 then if sK h (hR h a0 8) = 0 then bak (EX d 163) 47 [(0, .inr (.inr a0)), (2, .inl x2), (3, .inr (.inr a3))] [] true (cal d 69 [.inr (.inr (hR h a0 8)), .inr (.inr (hR h a0 7))] h) else none else none else none := (EX_at bk_Hook_judge_36 _ _ _).trans rfl
theorem bk_Hook_judge_47 : blk 163 47 = some (((cd_Hook_judge.lookup 47).getD ([], 0, []))) := rfl
theorem Hook_judge_47 (d : Nat) (a0 : Nat) (x2 : Int) (a3 : Nat) (h : Hp) : EX d 163 47 [(0, .inr (.inr a0)), (2, .inl x2), (3, .inr (.inr a3))] [] h = if sK h a0 = 10 then if sK h a0 = 10 then if sK h (hR h a0 8) = 0 then bak (EX d 163) 59 [(0, .inr (.inr a0)), (2, .inl x2), (3, .inr (.inr a3))] [] false (cal d 162 [.inr (.inr (hR h a0 8)), .inr (.inr (hR h a0 5)), .inr (.inr a3)] h) else none else none else none := (EX_at bk_Hook_judge_47 _ _ _).trans rfl
theorem bk_Hook_judge_59 : blk 163 59 = some (((cd_Hook_judge.lookup 59).getD ([], 0, []))) := rfl
theorem Hook_judge_59 (d : Nat) (a0 : Nat) (x2 : Int) (a3 : Nat) (s0 : Int) (h : Hp) : EX d 163 59 [(0, .inr (.inr a0)), (2, .inl x2), (3, .inr (.inr a3))] [.inl s0] h = if sK h a3 = 7 then if (wr s0) < (wr (hI h a3 2)) then EX d 163 70 [(0, .inr (.inr a0)), (2, .inl x2), (3, .inr (.inr a3)), (4, .inl s0)] [] h else EX d 163 74 [(0, .inr (.inr a0)), (2, .inl x2), (3, .inr (.inr a3)), (4, .inl s0)] [] h else none := (EX_at bk_Hook_judge_59 _ _ _).trans rfl
theorem bk_Hook_judge_70 : blk 163 70 = some (((cd_Hook_judge.lookup 70).getD ([], 0, []))) := rfl
theorem Hook_judge_70 (d : Nat) (a0 : Nat) (x2 : Int) (a3 : Nat) (x4 : Int) (h : Hp) : EX d 163 70 [(0, .inr (.inr a0)), (2, .inl x2), (3, .inr (.inr a3)), (4, .inl x4)] [] h = EX d 163 75 [(0, .inr (.inr a0)), (2, .inl x2), (3, .inr (.inr a3)), (4, .inl x4)] [.inl 1] h := (EX_at bk_Hook_judge_70 _ _ _).trans rfl
theorem bk_Hook_judge_74 : blk 163 74 = some (((cd_Hook_judge.lookup 74).getD ([], 0, []))) := rfl
theorem Hook_judge_74 (d : Nat) (a0 : Nat) (x2 : Int) (a3 : Nat) (x4 : Int) (h : Hp) : EX d 163 74 [(0, .inr (.inr a0)), (2, .inl x2), (3, .inr (.inr a3)), (4, .inl x4)] [] h = EX d 163 75 [(0, .inr (.inr a0)), (2, .inl x2), (3, .inr (.inr a3)), (4, .inl x4)] [.inl 0] h := (EX_at bk_Hook_judge_74 _ _ _).trans rfl
theorem bk_Hook_judge_75 : blk 163 75 = some (((cd_Hook_judge.lookup 75).getD ([], 0, []))) := rfl
theorem Hook_judge_75 (d : Nat) (a0 : Nat) (x2 : Int) (a3 : Nat) (x4 : Int) (s0 : Int) (h : Hp) : EX d 163 75 [(0, .inr (.inr a0)), (2, .inl x2), (3, .inr (.inr a3)), (4, .inl x4)] [.inl s0] h = if (wr x2) = 0 then EX d 163 104 [(0, .inr (.inr a0)), (3, .inr (.inr a3)), (4, .inl x4), (5, .inl s0)] [] h else if (wr x2) = 1 then EX d 163 116 [(0, .inr (.inr a0)), (3, .inr (.inr a3)), (4, .inl x4), (5, .inl s0)] [] h else if (wr x2) = 2 then EX d 163 143 [(0, .inr (.inr a0)), (3, .inr (.inr a3)), (4, .inl x4), (5, .inl s0)] [] h else EX d 163 159 [(0, .inr (.inr a0)), (3, .inr (.inr a3)), (4, .inl x4), (5, .inl s0)] [] h := (EX_at bk_Hook_judge_75 _ _ _).trans rfl
theorem bk_Hook_judge_104 : blk 163 104 = some (((cd_Hook_judge.lookup 104).getD ([], 0, []))) := rfl
theorem Hook_judge_104 (d : Nat) (a0 : Nat) (a3 : Nat) (x4 : Int) (x5 : Int) (h : Hp) : EX d 163 104 [(0, .inr (.inr a0)), (3, .inr (.inr a3)), (4, .inl x4), (5, .inl x5)] [] h = if (wr x5) = 0 then EX d 163 114 [] [] h else EX d 163 109 [(4, .inl x4)] [] h := (EX_at bk_Hook_judge_104 _ _ _).trans rfl
theorem bk_Hook_judge_109 : blk 163 109 = some (((cd_Hook_judge.lookup 109).getD ([], 0, []))) := rfl
theorem Hook_judge_109 (d : Nat) (x4 : Int) (h : Hp) : EX d 163 109 [(4, .inl x4)] [] h = EX d 163 115 [] [.inl x4] h := (EX_at bk_Hook_judge_109 _ _ _).trans rfl
theorem bk_Hook_judge_114 : blk 163 114 = some (((cd_Hook_judge.lookup 114).getD ([], 0, []))) := rfl
theorem Hook_judge_114 (d : Nat) (h : Hp) : EX d 163 114 [] [] h = EX d 163 115 [] [.inl (-1)] h := (EX_at bk_Hook_judge_114 _ _ _).trans rfl
theorem bk_Hook_judge_115 : blk 163 115 = some (((cd_Hook_judge.lookup 115).getD ([], 0, []))) := rfl
theorem Hook_judge_115 (d : Nat) (s0 : Int) (h : Hp) : EX d 163 115 [] [.inl s0] h = some (.inl s0, h) := (EX_at bk_Hook_judge_115 _ _ _).trans rfl
theorem bk_Hook_judge_116 : blk 163 116 = some (((cd_Hook_judge.lookup 116).getD ([], 0, []))) := rfl
theorem Hook_judge_116 (d : Nat) (a0 : Nat) (a3 : Nat) (x4 : Int) (x5 : Int) (h : Hp) : EX d 163 116 [(0, .inr (.inr a0)), (3, .inr (.inr a3)), (4, .inl x4), (5, .inl x5)] [] h = if (wr x5) = 0 then EX d 163 141 [] [] h else EX d 163 121 [(0, .inr (.inr a0)), (3, .inr (.inr a3)), (4, .inl x4)] [] h := (EX_at bk_Hook_judge_116 _ _ _).trans rfl
theorem bk_Hook_judge_121 : blk 163 121 = some (((cd_Hook_judge.lookup 121).getD ([], 0, []))) := rfl
theorem Hook_judge_121 (d : Nat) (a0 : Nat) (a3 : Nat) (x4 : Int) (h : Hp) : EX d 163 121 [(0, .inr (.inr a0)), (3, .inr (.inr a3)), (4, .inl x4)] [] h = if sK h a0 = 10 then if sK h a0 = 10 then if sK h a3 = 7 then bak (EX d 163) 135 [] [.inr (.inr (hR h a0 5)), .inr (.inr (hR h a0 8))] false (cal d 158 [.inr (.inr a3), .inl x4] h) else none else none else none := (EX_at bk_Hook_judge_121 _ _ _).trans rfl
theorem bk_Hook_judge_135 : blk 163 135 = some (((cd_Hook_judge.lookup 135).getD ([], 0, []))) := rfl
theorem Hook_judge_135 (d : Nat) (r0 : Nat) (r1 : Nat) (t2 : Int) (h : Hp) : EX d 163 135 [] [.inr (.inl t2), .inr (.inr r1), .inr (.inr r0)] h = if sK h r0 = 0 then bak (EX d 163) 138 [] [] false (cal d 161 [.inr (.inr r0), .inr (.inr r1), .inr (.inl t2)] h) else none := (EX_at bk_Hook_judge_135 _ _ _).trans rfl
theorem bk_Hook_judge_138 : blk 163 138 = some (((cd_Hook_judge.lookup 138).getD ([], 0, []))) := rfl
theorem Hook_judge_138 (d : Nat) (s0 : Int) (h : Hp) : EX d 163 138 [] [.inl s0] h = EX d 163 142 [] [.inl s0] h := (EX_at bk_Hook_judge_138 _ _ _).trans rfl
theorem bk_Hook_judge_141 : blk 163 141 = some (((cd_Hook_judge.lookup 141).getD ([], 0, []))) := rfl
theorem Hook_judge_141 (d : Nat) (h : Hp) : EX d 163 141 [] [] h = EX d 163 142 [] [.inl 0] h := (EX_at bk_Hook_judge_141 _ _ _).trans rfl
theorem bk_Hook_judge_142 : blk 163 142 = some (((cd_Hook_judge.lookup 142).getD ([], 0, []))) := rfl
theorem Hook_judge_142 (d : Nat) (s0 : Int) (h : Hp) : EX d 163 142 [] [.inl s0] h = some (.inl s0, h) := (EX_at bk_Hook_judge_142 _ _ _).trans rfl
theorem bk_Hook_judge_143 : blk 163 143 = some (((cd_Hook_judge.lookup 143).getD ([], 0, []))) := rfl
theorem Hook_judge_143 (d : Nat) (a0 : Nat) (a3 : Nat) (x4 : Int) (x5 : Int) (h : Hp) : EX d 163 143 [(0, .inr (.inr a0)), (3, .inr (.inr a3)), (4, .inl x4), (5, .inl x5)] [] h = if sK h a0 = 10 then if sK h (hR h a0 8) = 0 then if sK h a0 = 10 then if sK h (hR h a0 7) = 0 then some (.inl ((hI h (hR h a0 8) 2) - (hI h (hR h a0 7) 2)), h) else none else none else none else none := (EX_at bk_Hook_judge_143 _ _ _).trans rfl
theorem bk_Hook_judge_159 : blk 163 159 = some (((cd_Hook_judge.lookup 159).getD ([], 0, []))) := rfl
theorem Hook_judge_159 (d : Nat) (a0 : Nat) (a3 : Nat) (x4 : Int) (x5 : Int) (h : Hp) : EX d 163 159 [(0, .inr (.inr a0)), (3, .inr (.inr a3)), (4, .inl x4), (5, .inl x5)] [] h = if sK h a0 = 10 then if sK h a0 = 10 then if sK h (hR h a0 8) = 0 then bak (EX d 163) 170 [] [] false (cal d 123 [.inr (.inr (hR h a0 8)), .inr (.inr (hR h a0 5))] h) else none else none else none := (EX_at bk_Hook_judge_159 _ _ _).trans rfl
theorem bk_Hook_judge_170 : blk 163 170 = some (((cd_Hook_judge.lookup 170).getD ([], 0, []))) := rfl
theorem Hook_judge_170 (d : Nat) (s0 : Int) (h : Hp) : EX d 163 170 [] [.inl s0] h = some (.inl s0, h) := (EX_at bk_Hook_judge_170 _ _ _).trans rfl
/-! trayCode(I)I of HookOver: method 169 -/
theorem bk_Hook_trayCode_0 : blk 169 0 = some (((cd_Hook_trayCode.lookup 0).getD ([], 0, []))) := rfl
theorem Hook_trayCode_0 (d : Nat) (a0 : Nat) (x1 : Int) (h : Hp) : EX d 169 0 [(0, .inr (.inr a0)), (1, .inl x1)] [] h = bak (EX d 169) 4 [(0, .inr (.inr a0)), (1, .inl x1)] [] false (cal d 156 [.inl x1] h) := (EX_at bk_Hook_trayCode_0 _ _ _).trans rfl
theorem bk_Hook_trayCode_4 : blk 169 4 = some (((cd_Hook_trayCode.lookup 4).getD ([], 0, []))) := rfl
theorem Hook_trayCode_4 (d : Nat) (a0 : Nat) (x1 : Int) (s0 : Int) (h : Hp) : EX d 169 4 [(0, .inr (.inr a0)), (1, .inl x1)] [.inl s0] h = if (wr s0) = 0 then EX d 169 7 [] [] h else EX d 169 10 [(0, .inr (.inr a0)), (1, .inl x1)] [] h := (EX_at bk_Hook_trayCode_4 _ _ _).trans rfl
theorem bk_Hook_trayCode_7 : blk 169 7 = some (((cd_Hook_trayCode.lookup 7).getD ([], 0, []))) := rfl
theorem Hook_trayCode_7 (d : Nat) (h : Hp) : EX d 169 7 [] [] h = some (.inl (-2), h) := (EX_at bk_Hook_trayCode_7 _ _ _).trans rfl
theorem bk_Hook_trayCode_10 : blk 169 10 = some (((cd_Hook_trayCode.lookup 10).getD ([], 0, []))) := rfl
theorem Hook_trayCode_10 (d : Nat) (a0 : Nat) (x1 : Int) (h : Hp) : EX d 169 10 [(0, .inr (.inr a0)), (1, .inl x1)] [] h = if sK h a0 = 10 then if okx h (hR h a0 10) 24 x1 then if sK h (hR h (hR h a0 10) (ix x1)) = 7 then bak (EX d 169) 19 [] [] false (cal d 157 [.inr (.inr (hR h (hR h a0 10) (ix x1)))] h) else none else none else none := (EX_at bk_Hook_trayCode_10 _ _ _).trans rfl
theorem bk_Hook_trayCode_19 : blk 169 19 = some (((cd_Hook_trayCode.lookup 19).getD ([], 0, []))) := rfl
theorem Hook_trayCode_19 (d : Nat) (s0 : Int) (h : Hp) : EX d 169 19 [] [.inl s0] h = if (wr s0) = 0 then EX d 169 27 [] [] h else EX d 169 22 [] [] h := (EX_at bk_Hook_trayCode_19 _ _ _).trans rfl
theorem bk_Hook_trayCode_22 : blk 169 22 = some (((cd_Hook_trayCode.lookup 22).getD ([], 0, []))) := rfl
theorem Hook_trayCode_22 (d : Nat) (h : Hp) : EX d 169 22 [] [] h = EX d 169 28 [] [.inl (-6)] h := (EX_at bk_Hook_trayCode_22 _ _ _).trans rfl
theorem bk_Hook_trayCode_27 : blk 169 27 = some (((cd_Hook_trayCode.lookup 27).getD ([], 0, []))) := rfl
theorem Hook_trayCode_27 (d : Nat) (h : Hp) : EX d 169 27 [] [] h = EX d 169 28 [] [.inl 0] h := (EX_at bk_Hook_trayCode_27 _ _ _).trans rfl
theorem bk_Hook_trayCode_28 : blk 169 28 = some (((cd_Hook_trayCode.lookup 28).getD ([], 0, []))) := rfl
theorem Hook_trayCode_28 (d : Nat) (s0 : Int) (h : Hp) : EX d 169 28 [] [.inl s0] h = some (.inl s0, h) := (EX_at bk_Hook_trayCode_28 _ _ _).trans rfl
/-! perform(I)I of HookOver: method 170 -/
theorem bk_Hook_perform_0 : blk 170 0 = some (((cd_Hook_perform.lookup 0).getD ([], 0, []))) := rfl
theorem Hook_perform_0 (d : Nat) (a0 : Nat) (x1 : Int) (h : Hp) : EX d 170 0 [(0, .inr (.inr a0)), (1, .inl x1)] [] h = if sK h a0 = 10 then bak (EX d 170) 5 [(0, .inr (.inr a0)), (1, .inl x1)] [] false (cal d 169 [.inr (.inr a0), .inl x1] h) else none := (EX_at bk_Hook_perform_0 _ _ _).trans rfl
theorem bk_Hook_perform_5 : blk 170 5 = some (((cd_Hook_perform.lookup 5).getD ([], 0, []))) := rfl
theorem Hook_perform_5 (d : Nat) (a0 : Nat) (x1 : Int) (s0 : Int) (h : Hp) : EX d 170 5 [(0, .inr (.inr a0)), (1, .inl x1)] [.inl s0] h = if (wr s0) = 0 then EX d 170 12 [(0, .inr (.inr a0)), (1, .inl x1)] [] h else EX d 170 10 [(2, .inl s0)] [] h := (EX_at bk_Hook_perform_5 _ _ _).trans rfl
theorem bk_Hook_perform_10 : blk 170 10 = some (((cd_Hook_perform.lookup 10).getD ([], 0, []))) := rfl
theorem Hook_perform_10 (d : Nat) (x2 : Int) (h : Hp) : EX d 170 10 [(2, .inl x2)] [] h = some (.inl x2, h) := (EX_at bk_Hook_perform_10 _ _ _).trans rfl
theorem bk_Hook_perform_12 : blk 170 12 = some (((cd_Hook_perform.lookup 12).getD ([], 0, []))) := rfl
theorem Hook_perform_12 (d : Nat) (a0 : Nat) (x1 : Int) (h : Hp) : EX d 170 12 [(0, .inr (.inr a0)), (1, .inl x1)] [] h = if sK h a0 = 10 then if sK h a0 = 10 then if sK h (hR h a0 8) = 0 then bak (EX d 170) 23 [(0, .inr (.inr a0)), (1, .inl x1)] [] true (cal d 69 [.inr (.inr (hR h a0 8)), .inr (.inr (hR h a0 7))] h) else none else none else none := (EX_at bk_Hook_perform_12 _ _ _).trans rfl
theorem bk_Hook_perform_23 : blk 170 23 = some (((cd_Hook_perform.lookup 23).getD ([], 0, []))) := rfl
theorem Hook_perform_23 (d : Nat) (a0 : Nat) (x1 : Int) (h : Hp) : EX d 170 23 [(0, .inr (.inr a0)), (1, .inl x1)] [] h = if sK h a0 = 10 then if sK h a0 = 10 then if sK h a0 = 10 then if okx h (hR h a0 10) 24 x1 then if sK h (hR h a0 7) = 0 then bak (EX d 170) 40 [(0, .inr (.inr a0))] [] false (cal d 162 [.inr (.inr (hR h a0 7)), .inr (.inr (hR h a0 5)), .inr (.inr (hR h (hR h a0 10) (ix x1)))] h) else none else none else none else none else none := (EX_at bk_Hook_perform_23 _ _ _).trans rfl
theorem bk_Hook_perform_40 : blk 170 40 = some (((cd_Hook_perform.lookup 40).getD ([], 0, []))) := rfl
theorem Hook_perform_40 (d : Nat) (a0 : Nat) (s0 : Int) (h : Hp) : EX d 170 40 [(0, .inr (.inr a0))] [.inl s0] h = if 0 < (wr s0) then EX d 170 45 [(0, .inr (.inr a0)), (3, .inl s0)] [] h else EX d 170 56 [(3, .inl s0)] [] h := (EX_at bk_Hook_perform_40 _ _ _).trans rfl
theorem bk_Hook_perform_45 : blk 170 45 = some (((cd_Hook_perform.lookup 45).getD ([], 0, []))) := rfl
theorem Hook_perform_45 (d : Nat) (a0 : Nat) (x3 : Int) (h : Hp) : EX d 170 45 [(0, .inr (.inr a0)), (3, .inl x3)] [] h = if sK h a0 = 10 then if sK h a0 = 10 then if sK h (hR h a0 9) = 1 then bak (EX d 170) 56 [(3, .inl x3)] [] true (cal d 132 [.inr (.inr (hR h a0 9)), .inr (.inr (hR h a0 8))] h) else none else none else none := (EX_at bk_Hook_perform_45 _ _ _).trans rfl
theorem bk_Hook_perform_56 : blk 170 56 = some (((cd_Hook_perform.lookup 56).getD ([], 0, []))) := rfl
theorem Hook_perform_56 (d : Nat) (x3 : Int) (h : Hp) : EX d 170 56 [(3, .inl x3)] [] h = some (.inl x3, h) := (EX_at bk_Hook_perform_56 _ _ _).trans rfl
/-! day(II)I of HookOver: method 174 -/
theorem bk_Hook_day_0 : blk 174 0 = some (((cd_Hook_day.lookup 0).getD ([], 0, []))) := rfl
theorem Hook_day_0 (d : Nat) (a0 : Nat) (x1 : Int) (x2 : Int) (h : Hp) : EX d 174 0 [(0, .inr (.inr a0)), (1, .inl x1), (2, .inl x2)] [] h = if (wr x2) < 1 then EX d 174 11 [] [] h else EX d 174 5 [(0, .inr (.inr a0)), (1, .inl x1), (2, .inl x2)] [] h := (EX_at bk_Hook_day_0 _ _ _).trans rfl
theorem bk_Hook_day_5 : blk 174 5 = some (((cd_Hook_day.lookup 5).getD ([], 0, []))) := rfl
theorem Hook_day_5 (d : Nat) (a0 : Nat) (x1 : Int) (x2 : Int) (h : Hp) : EX d 174 5 [(0, .inr (.inr a0)), (1, .inl x1), (2, .inl x2)] [] h = if 60 < (wr x2) then EX d 174 11 [] [] h else EX d 174 14 [(0, .inr (.inr a0)), (1, .inl x1), (2, .inl x2)] [] h := (EX_at bk_Hook_day_5 _ _ _).trans rfl
theorem bk_Hook_day_11 : blk 174 11 = some (((cd_Hook_day.lookup 11).getD ([], 0, []))) := rfl
theorem Hook_day_11 (d : Nat) (h : Hp) : EX d 174 11 [] [] h = some (.inl (-3), h) := (EX_at bk_Hook_day_11 _ _ _).trans rfl
theorem bk_Hook_day_14 : blk 174 14 = some (((cd_Hook_day.lookup 14).getD ([], 0, []))) := rfl
theorem Hook_day_14 (d : Nat) (a0 : Nat) (x1 : Int) (x2 : Int) (h : Hp) : EX d 174 14 [(0, .inr (.inr a0)), (1, .inl x1), (2, .inl x2)] [] h = if sK h a0 = 10 then if sK h (hR h a0 5) = 9 then if (wr (hI h (hR h a0 5) 5)) = 0 then EX d 174 34 [] [] h else EX d 174 24 [(0, .inr (.inr a0)), (1, .inl x1), (2, .inl x2)] [] h else none else none := (EX_at bk_Hook_day_14 _ _ _).trans rfl
theorem bk_Hook_day_24 : blk 174 24 = some (((cd_Hook_day.lookup 24).getD ([], 0, []))) := rfl
theorem Hook_day_24 (d : Nat) (a0 : Nat) (x1 : Int) (x2 : Int) (h : Hp) : EX d 174 24 [(0, .inr (.inr a0)), (1, .inl x1), (2, .inl x2)] [] h = if sK h a0 = 10 then if sK h (hR h a0 5) = 9 then if (wr (hI h (hR h a0 5) 6)) = 0 then EX d 174 34 [] [] h else EX d 174 37 [(0, .inr (.inr a0)), (1, .inl x1), (2, .inl x2)] [] h else none else none := (EX_at bk_Hook_day_24 _ _ _).trans rfl
theorem bk_Hook_day_34 : blk 174 34 = some (((cd_Hook_day.lookup 34).getD ([], 0, []))) := rfl
theorem Hook_day_34 (d : Nat) (h : Hp) : EX d 174 34 [] [] h = some (.inl (-5), h) := (EX_at bk_Hook_day_34 _ _ _).trans rfl
theorem bk_Hook_day_37 : blk 174 37 = some (((cd_Hook_day.lookup 37).getD ([], 0, []))) := rfl
theorem Hook_day_37 (d : Nat) (a0 : Nat) (x1 : Int) (x2 : Int) (h : Hp) : EX d 174 37 [(0, .inr (.inr a0)), (1, .inl x1), (2, .inl x2)] [] h = if sK h a0 = 10 then if sK h a0 = 10 then if sK h (hR h a0 8) = 0 then bak (EX d 174) 48 [(0, .inr (.inr a0)), (1, .inl x1), (2, .inl x2)] [] true (cal d 69 [.inr (.inr (hR h a0 8)), .inr (.inr (hR h a0 7))] h) else none else none else none := (EX_at bk_Hook_day_37 _ _ _).trans rfl
theorem bk_Hook_day_48 : blk 174 48 = some (((cd_Hook_day.lookup 48).getD ([], 0, []))) := rfl
theorem Hook_day_48 (d : Nat) (a0 : Nat) (x1 : Int) (x2 : Int) (h : Hp) : EX d 174 48 [(0, .inr (.inr a0)), (1, .inl x1), (2, .inl x2)] [] h = if sK h a0 = 10 then if sK h a0 = 10 then if sK h (hR h a0 7) = 0 then bak (EX d 174) 61 [(0, .inr (.inr a0))] [] false (cal d 173 [.inr (.inr (hR h a0 7)), .inr (.inr (hR h a0 5)), .inl x1, .inl x2] h) else none else none else none := (EX_at bk_Hook_day_48 _ _ _).trans rfl
theorem bk_Hook_day_61 : blk 174 61 = some (((cd_Hook_day.lookup 61).getD ([], 0, []))) := rfl
theorem Hook_day_61 (d : Nat) (a0 : Nat) (s0 : Int) (h : Hp) : EX d 174 61 [(0, .inr (.inr a0))] [.inl s0] h = if 0 < (wr s0) then EX d 174 66 [(0, .inr (.inr a0)), (3, .inl s0)] [] h else EX d 174 77 [(3, .inl s0)] [] h := (EX_at bk_Hook_day_61 _ _ _).trans rfl
theorem bk_Hook_day_66 : blk 174 66 = some (((cd_Hook_day.lookup 66).getD ([], 0, []))) := rfl
theorem Hook_day_66 (d : Nat) (a0 : Nat) (x3 : Int) (h : Hp) : EX d 174 66 [(0, .inr (.inr a0)), (3, .inl x3)] [] h = if sK h a0 = 10 then if sK h a0 = 10 then if sK h (hR h a0 9) = 1 then bak (EX d 174) 77 [(3, .inl x3)] [] true (cal d 132 [.inr (.inr (hR h a0 9)), .inr (.inr (hR h a0 8))] h) else none else none else none := (EX_at bk_Hook_day_66 _ _ _).trans rfl
theorem bk_Hook_day_77 : blk 174 77 = some (((cd_Hook_day.lookup 77).getD ([], 0, []))) := rfl
theorem Hook_day_77 (d : Nat) (x3 : Int) (h : Hp) : EX d 174 77 [(3, .inl x3)] [] h = some (.inl x3, h) := (EX_at bk_Hook_day_77 _ _ _).trans rfl
/-! undoing(I)I of HookOver: method 178 -/
theorem bk_Hook_undoing_0 : blk 178 0 = some (((cd_Hook_undoing.lookup 0).getD ([], 0, []))) := rfl
theorem Hook_undoing_0 (d : Nat) (a0 : Nat) (x1 : Int) (h : Hp) : EX d 178 0 [(0, .inr (.inr a0)), (1, .inl x1)] [] h = EX d 178 2 [(0, .inr (.inr a0)), (1, .inl x1), (2, .inl 0)] [] h := (EX_at bk_Hook_undoing_0 _ _ _).trans rfl
theorem bk_Hook_undoing_2 : blk 178 2 = some (((cd_Hook_undoing.lookup 2).getD ([], 0, []))) := rfl
theorem Hook_undoing_2 (d : Nat) (a0 : Nat) (x1 : Int) (x2 : Int) (h : Hp) : EX d 178 2 [(0, .inr (.inr a0)), (1, .inl x1), (2, .inl x2)] [] h = if (wr x2) < 32 then EX d 178 8 [(0, .inr (.inr a0)), (1, .inl x1), (2, .inl x2)] [] h else EX d 178 57 [(0, .inr (.inr a0)), (1, .inl x1)] [] h := (EX_at bk_Hook_undoing_2 _ _ _).trans rfl
theorem bk_Hook_undoing_8 : blk 178 8 = some (((cd_Hook_undoing.lookup 8).getD ([], 0, []))) := rfl
theorem Hook_undoing_8 (d : Nat) (a0 : Nat) (x1 : Int) (x2 : Int) (h : Hp) : EX d 178 8 [(0, .inr (.inr a0)), (1, .inl x1), (2, .inl x2)] [] h = if (wr (bAnd (bUshr x1 x2) 1)) = 0 then EX d 178 20 [(0, .inr (.inr a0)), (1, .inl x1), (2, .inl x2)] [] h else EX d 178 16 [(0, .inr (.inr a0)), (1, .inl x1), (2, .inl x2)] [] h := (EX_at bk_Hook_undoing_8 _ _ _).trans rfl
theorem bk_Hook_undoing_16 : blk 178 16 = some (((cd_Hook_undoing.lookup 16).getD ([], 0, []))) := rfl
theorem Hook_undoing_16 (d : Nat) (a0 : Nat) (x1 : Int) (x2 : Int) (h : Hp) : EX d 178 16 [(0, .inr (.inr a0)), (1, .inl x1), (2, .inl x2)] [] h = EX d 178 21 [(0, .inr (.inr a0)), (1, .inl x1), (2, .inl x2)] [.inl 1] h := (EX_at bk_Hook_undoing_16 _ _ _).trans rfl
theorem bk_Hook_undoing_20 : blk 178 20 = some (((cd_Hook_undoing.lookup 20).getD ([], 0, []))) := rfl
theorem Hook_undoing_20 (d : Nat) (a0 : Nat) (x1 : Int) (x2 : Int) (h : Hp) : EX d 178 20 [(0, .inr (.inr a0)), (1, .inl x1), (2, .inl x2)] [] h = EX d 178 21 [(0, .inr (.inr a0)), (1, .inl x1), (2, .inl x2)] [.inl 0] h := (EX_at bk_Hook_undoing_20 _ _ _).trans rfl
theorem bk_Hook_undoing_21 : blk 178 21 = some (((cd_Hook_undoing.lookup 21).getD ([], 0, []))) := rfl
theorem Hook_undoing_21 (d : Nat) (a0 : Nat) (x1 : Int) (x2 : Int) (s0 : Int) (h : Hp) : EX d 178 21 [(0, .inr (.inr a0)), (1, .inl x1), (2, .inl x2)] [.inl s0] h = if (wr s0) = 0 then EX d 178 51 [(0, .inr (.inr a0)), (1, .inl x1), (2, .inl x2)] [] h else EX d 178 26 [(0, .inr (.inr a0)), (1, .inl x1), (2, .inl x2)] [] h := (EX_at bk_Hook_undoing_21 _ _ _).trans rfl
theorem bk_Hook_undoing_26 : blk 178 26 = some (((cd_Hook_undoing.lookup 26).getD ([], 0, []))) := rfl
theorem Hook_undoing_26 (d : Nat) (a0 : Nat) (x1 : Int) (x2 : Int) (h : Hp) : EX d 178 26 [(0, .inr (.inr a0)), (1, .inl x1), (2, .inl x2)] [] h = if sK h a0 = 10 then if sK h (hR h a0 5) = 9 then bak (EX d 178) 34 [(0, .inr (.inr a0)), (1, .inl x1), (2, .inl x2)] [] false (cal d 37 [.inr (.inr (hR h a0 5)), .inl x2] h) else none else none := (EX_at bk_Hook_undoing_26 _ _ _).trans rfl
theorem bk_Hook_undoing_34 : blk 178 34 = some (((cd_Hook_undoing.lookup 34).getD ([], 0, []))) := rfl
theorem Hook_undoing_34 (d : Nat) (a0 : Nat) (x1 : Int) (x2 : Int) (s0 : Int) (h : Hp) : EX d 178 34 [(0, .inr (.inr a0)), (1, .inl x1), (2, .inl x2)] [.inl s0] h = if (wr s0) = 0 then EX d 178 48 [] [] h else EX d 178 37 [(0, .inr (.inr a0)), (1, .inl x1), (2, .inl x2)] [] h := (EX_at bk_Hook_undoing_34 _ _ _).trans rfl
theorem bk_Hook_undoing_37 : blk 178 37 = some (((cd_Hook_undoing.lookup 37).getD ([], 0, []))) := rfl
theorem Hook_undoing_37 (d : Nat) (a0 : Nat) (x1 : Int) (x2 : Int) (h : Hp) : EX d 178 37 [(0, .inr (.inr a0)), (1, .inl x1), (2, .inl x2)] [] h = if sK h a0 = 10 then if sK h (hR h a0 7) = 0 then bak (EX d 178) 45 [(0, .inr (.inr a0)), (1, .inl x1), (2, .inl x2)] [] false (cal d 39 [.inr (.inr (hR h a0 7)), .inl x2] h) else none else none := (EX_at bk_Hook_undoing_37 _ _ _).trans rfl
theorem bk_Hook_undoing_45 : blk 178 45 = some (((cd_Hook_undoing.lookup 45).getD ([], 0, []))) := rfl
theorem Hook_undoing_45 (d : Nat) (a0 : Nat) (x1 : Int) (x2 : Int) (s0 : Int) (h : Hp) : EX d 178 45 [(0, .inr (.inr a0)), (1, .inl x1), (2, .inl x2)] [.inl s0] h = if (wr s0) = 0 then EX d 178 48 [] [] h else EX d 178 51 [(0, .inr (.inr a0)), (1, .inl x1), (2, .inl x2)] [] h := (EX_at bk_Hook_undoing_45 _ _ _).trans rfl
theorem bk_Hook_undoing_48 : blk 178 48 = some (((cd_Hook_undoing.lookup 48).getD ([], 0, []))) := rfl
theorem Hook_undoing_48 (d : Nat) (h : Hp) : EX d 178 48 [] [] h = some (.inl (-3), h) := (EX_at bk_Hook_undoing_48 _ _ _).trans rfl
theorem bk_Hook_undoing_51 : blk 178 51 = some (((cd_Hook_undoing.lookup 51).getD ([], 0, []))) := rfl
theorem Hook_undoing_51 (d : Nat) (a0 : Nat) (x1 : Int) (x2 : Int) (h : Hp) : EX d 178 51 [(0, .inr (.inr a0)), (1, .inl x1), (2, .inl x2)] [] h = EX d 178 2 [(0, .inr (.inr a0)), (1, .inl x1), (2, .inl (x2 + 1))] [] h := (EX_at bk_Hook_undoing_51 _ _ _).trans rfl
theorem bk_Hook_undoing_57 : blk 178 57 = some (((cd_Hook_undoing.lookup 57).getD ([], 0, []))) := rfl
theorem Hook_undoing_57 (d : Nat) (a0 : Nat) (x1 : Int) (h : Hp) : EX d 178 57 [(0, .inr (.inr a0)), (1, .inl x1)] [] h = if sK h a0 = 10 then if sK h a0 = 10 then if sK h (hR h a0 7) = 0 then bak (EX d 178) 70 [(0, .inr (.inr a0)), (1, .inl x1)] [] false (cal d 177 [.inr (.inr (hR h a0 7)), .inr (.inr (hR h a0 5)), .inl x1, .inl 0] h) else none else none else none := (EX_at bk_Hook_undoing_57 _ _ _).trans rfl
theorem bk_Hook_undoing_70 : blk 178 70 = some (((cd_Hook_undoing.lookup 70).getD ([], 0, []))) := rfl
theorem Hook_undoing_70 (d : Nat) (a0 : Nat) (x1 : Int) (s0 : Int) (h : Hp) : EX d 178 70 [(0, .inr (.inr a0)), (1, .inl x1)] [.inl s0] h = if sK h a0 = 10 then if sK h a0 = 10 then if sK h (hR h a0 7) = 0 then bak (EX d 178) 83 [] [.inl s0] false (cal d 177 [.inr (.inr (hR h a0 7)), .inr (.inr (hR h a0 5)), .inl x1, .inl 1] h) else none else none else none := (EX_at bk_Hook_undoing_70 _ _ _).trans rfl
theorem bk_Hook_undoing_83 : blk 178 83 = some (((cd_Hook_undoing.lookup 83).getD ([], 0, []))) := rfl
theorem Hook_undoing_83 (d : Nat) (s0 : Int) (s1 : Int) (h : Hp) : EX d 178 83 [] [.inl s1, .inl s0] h = bak (EX d 178) 86 [] [] false (cal d 20 [.inl s0, .inl s1] h) := (EX_at bk_Hook_undoing_83 _ _ _).trans rfl
theorem bk_Hook_undoing_86 : blk 178 86 = some (((cd_Hook_undoing.lookup 86).getD ([], 0, []))) := rfl
theorem Hook_undoing_86 (d : Nat) (s0 : Int) (h : Hp) : EX d 178 86 [] [.inl s0] h = some (.inl s0, h) := (EX_at bk_Hook_undoing_86 _ _ _).trans rfl
/-! rowOf(II)I of HookOver: method 180 -/
theorem bk_Hook_rowOf_0 : blk 180 0 = some (((cd_Hook_rowOf.lookup 0).getD ([], 0, []))) := rfl
theorem Hook_rowOf_0 (d : Nat) (x0 : Int) (x1 : Int) (h : Hp) : EX d 180 0 [(0, .inl x0), (1, .inl x1)] [] h = some (.inl (((x0 * 12) + x1) * 12), h) := (EX_at bk_Hook_rowOf_0 _ _ _).trans rfl
/-! joinings(I)J of HookOver: method 184 -/
theorem bk_Hook_joinings_0 : blk 184 0 = some (((cd_Hook_joinings.lookup 0).getD ([], 0, []))) := rfl
theorem Hook_joinings_0 (d : Nat) (a0 : Nat) (x1 : Int) (h : Hp) : EX d 184 0 [(0, .inr (.inr a0)), (1, .inl x1)] [] h = if (wr x1) < 0 then EX d 184 10 [] [] h else EX d 184 4 [(0, .inr (.inr a0)), (1, .inl x1)] [] h := (EX_at bk_Hook_joinings_0 _ _ _).trans rfl
theorem bk_Hook_joinings_4 : blk 184 4 = some (((cd_Hook_joinings.lookup 4).getD ([], 0, []))) := rfl
theorem Hook_joinings_4 (d : Nat) (a0 : Nat) (x1 : Int) (h : Hp) : EX d 184 4 [(0, .inr (.inr a0)), (1, .inl x1)] [] h = if 12 < (wr x1) then EX d 184 10 [] [] h else EX d 184 14 [(0, .inr (.inr a0)), (1, .inl x1)] [] h := (EX_at bk_Hook_joinings_4 _ _ _).trans rfl
theorem bk_Hook_joinings_10 : blk 184 10 = some (((cd_Hook_joinings.lookup 10).getD ([], 0, []))) := rfl
theorem Hook_joinings_10 (d : Nat) (h : Hp) : EX d 184 10 [] [] h = some (.inr (.inl (-3)), h) := (EX_at bk_Hook_joinings_10 _ _ _).trans rfl
theorem bk_Hook_joinings_14 : blk 184 14 = some (((cd_Hook_joinings.lookup 14).getD ([], 0, []))) := rfl
theorem Hook_joinings_14 (d : Nat) (a0 : Nat) (x1 : Int) (h : Hp) : EX d 184 14 [(0, .inr (.inr a0)), (1, .inl x1)] [] h = if sK h a0 = 10 then if sK h a0 = 10 then if sK h (hR h a0 14) = 2 then bak (EX d 184) 25 [(0, .inr (.inr a0)), (1, .inl x1)] [] true (cal d 183 [.inr (.inr (hR h a0 14)), .inr (.inr (hR h a0 5))] h) else none else none else none := (EX_at bk_Hook_joinings_14 _ _ _).trans rfl
theorem bk_Hook_joinings_25 : blk 184 25 = some (((cd_Hook_joinings.lookup 25).getD ([], 0, []))) := rfl
theorem Hook_joinings_25 (d : Nat) (a0 : Nat) (x1 : Int) (h : Hp) : EX d 184 25 [(0, .inr (.inr a0)), (1, .inl x1)] [] h = if sK h a0 = 10 then if sK h (hR h a0 14) = 2 then if okx h (hR h (hR h a0 14) 1) 20 x1 then some (.inr (.inl (wr (hI h (hR h (hR h a0 14) 1) (ix x1)))), h) else none else none else none := (EX_at bk_Hook_joinings_25 _ _ _).trans rfl
/-! full()I of HookOver: method 192 -/
theorem bk_Hook_full_0 : blk 192 0 = some (((cd_Hook_full.lookup 0).getD ([], 0, []))) := rfl
theorem Hook_full_0 (d : Nat) (a0 : Nat) (h : Hp) : EX d 192 0 [(0, .inr (.inr a0))] [] h = if sK h a0 = 10 then if sK h a0 = 10 then if sK h (hR h a0 14) = 2 then bak (EX d 192) 11 [(0, .inr (.inr a0))] [] true (cal d 183 [.inr (.inr (hR h a0 14)), .inr (.inr (hR h a0 5))] h) else none else none else none := (EX_at bk_Hook_full_0 _ _ _).trans rfl
theorem bk_Hook_full_11 : blk 192 11 = some (((cd_Hook_full.lookup 11).getD ([], 0, []))) := rfl
theorem Hook_full_11 (d : Nat) (a0 : Nat) (h : Hp) : EX d 192 11 [(0, .inr (.inr a0))] [] h = if sK h a0 = 10 then if sK h (hR h a0 14) = 2 then some (.inl (hI h (hR h a0 14) 2), h) else none else none := (EX_at bk_Hook_full_11 _ _ _).trans rfl
/-! mended(I)I of HookOver: method 203 -/
theorem bk_Hook_mended_0 : blk 203 0 = some (((cd_Hook_mended.lookup 0).getD ([], 0, []))) := rfl
theorem Hook_mended_0 (d : Nat) (a0 : Nat) (x1 : Int) (h : Hp) : EX d 203 0 [(0, .inr (.inr a0)), (1, .inl x1)] [] h = if (wr x1) < 10 then EX d 203 24 [(0, .inr (.inr a0)), (1, .inl x1)] [] h else EX d 203 6 [(0, .inr (.inr a0)), (1, .inl x1)] [] h := (EX_at bk_Hook_mended_0 _ _ _).trans rfl
theorem bk_Hook_mended_6 : blk 203 6 = some (((cd_Hook_mended.lookup 6).getD ([], 0, []))) := rfl
theorem Hook_mended_6 (d : Nat) (a0 : Nat) (x1 : Int) (h : Hp) : EX d 203 6 [(0, .inr (.inr a0)), (1, .inl x1)] [] h = if sK h a0 = 10 then if sK h (hR h a0 5) = 9 then bak (EX d 203) 17 [(0, .inr (.inr a0)), (1, .inl x1)] [] false (cal d 37 [.inr (.inr (hR h a0 5)), .inl (x1 - 10)] h) else none else none := (EX_at bk_Hook_mended_6 _ _ _).trans rfl
theorem bk_Hook_mended_17 : blk 203 17 = some (((cd_Hook_mended.lookup 17).getD ([], 0, []))) := rfl
theorem Hook_mended_17 (d : Nat) (a0 : Nat) (x1 : Int) (s0 : Int) (h : Hp) : EX d 203 17 [(0, .inr (.inr a0)), (1, .inl x1)] [.inl s0] h = if (wr s0) = 0 then EX d 203 24 [(0, .inr (.inr a0)), (1, .inl x1)] [] h else EX d 203 20 [(0, .inr (.inr a0)), (1, .inl x1)] [] h := (EX_at bk_Hook_mended_17 _ _ _).trans rfl
theorem bk_Hook_mended_20 : blk 203 20 = some (((cd_Hook_mended.lookup 20).getD ([], 0, []))) := rfl
theorem Hook_mended_20 (d : Nat) (a0 : Nat) (x1 : Int) (h : Hp) : EX d 203 20 [(0, .inr (.inr a0)), (1, .inl x1)] [] h = EX d 203 25 [(0, .inr (.inr a0)), (1, .inl x1)] [.inl 1] h := (EX_at bk_Hook_mended_20 _ _ _).trans rfl
theorem bk_Hook_mended_24 : blk 203 24 = some (((cd_Hook_mended.lookup 24).getD ([], 0, []))) := rfl
theorem Hook_mended_24 (d : Nat) (a0 : Nat) (x1 : Int) (h : Hp) : EX d 203 24 [(0, .inr (.inr a0)), (1, .inl x1)] [] h = EX d 203 25 [(0, .inr (.inr a0)), (1, .inl x1)] [.inl 0] h := (EX_at bk_Hook_mended_24 _ _ _).trans rfl
theorem bk_Hook_mended_25 : blk 203 25 = some (((cd_Hook_mended.lookup 25).getD ([], 0, []))) := rfl
theorem Hook_mended_25 (d : Nat) (a0 : Nat) (x1 : Int) (s0 : Int) (h : Hp) : EX d 203 25 [(0, .inr (.inr a0)), (1, .inl x1)] [.inl s0] h = if (wr x1) = 0 then EX d 203 42 [(0, .inr (.inr a0)), (1, .inl x1), (2, .inl s0)] [] h else EX d 203 30 [(0, .inr (.inr a0)), (1, .inl x1), (2, .inl s0)] [] h := (EX_at bk_Hook_mended_25 _ _ _).trans rfl
theorem bk_Hook_mended_30 : blk 203 30 = some (((cd_Hook_mended.lookup 30).getD ([], 0, []))) := rfl
theorem Hook_mended_30 (d : Nat) (a0 : Nat) (x1 : Int) (x2 : Int) (h : Hp) : EX d 203 30 [(0, .inr (.inr a0)), (1, .inl x1), (2, .inl x2)] [] h = if (wr x1) = 1 then EX d 203 42 [(0, .inr (.inr a0)), (1, .inl x1), (2, .inl x2)] [] h else EX d 203 35 [(0, .inr (.inr a0)), (1, .inl x1), (2, .inl x2)] [] h := (EX_at bk_Hook_mended_30 _ _ _).trans rfl
theorem bk_Hook_mended_35 : blk 203 35 = some (((cd_Hook_mended.lookup 35).getD ([], 0, []))) := rfl
theorem Hook_mended_35 (d : Nat) (a0 : Nat) (x1 : Int) (x2 : Int) (h : Hp) : EX d 203 35 [(0, .inr (.inr a0)), (1, .inl x1), (2, .inl x2)] [] h = if (wr x2) = 0 then EX d 203 39 [] [] h else EX d 203 42 [(0, .inr (.inr a0)), (1, .inl x1), (2, .inl x2)] [] h := (EX_at bk_Hook_mended_35 _ _ _).trans rfl
theorem bk_Hook_mended_39 : blk 203 39 = some (((cd_Hook_mended.lookup 39).getD ([], 0, []))) := rfl
theorem Hook_mended_39 (d : Nat) (h : Hp) : EX d 203 39 [] [] h = some (.inl (-2), h) := (EX_at bk_Hook_mended_39 _ _ _).trans rfl
theorem bk_Hook_mended_42 : blk 203 42 = some (((cd_Hook_mended.lookup 42).getD ([], 0, []))) := rfl
theorem Hook_mended_42 (d : Nat) (a0 : Nat) (x1 : Int) (x2 : Int) (h : Hp) : EX d 203 42 [(0, .inr (.inr a0)), (1, .inl x1), (2, .inl x2)] [] h = if sK h a0 = 10 then if sK h a0 = 10 then if sK h a0 = 10 then if sK h (hR h a0 15) = 4 then bak (EX d 203) 57 [(0, .inr (.inr a0)), (1, .inl x1), (2, .inl x2)] [] true (cal d 202 [.inr (.inr (hR h a0 15)), .inr (.inr (hR h a0 5)), .inr (.inr (hR h a0 7))] h) else none else none else none else none := (EX_at bk_Hook_mended_42 _ _ _).trans rfl
theorem bk_Hook_mended_57 : blk 203 57 = some (((cd_Hook_mended.lookup 57).getD ([], 0, []))) := rfl
theorem Hook_mended_57 (d : Nat) (a0 : Nat) (x1 : Int) (x2 : Int) (h : Hp) : EX d 203 57 [(0, .inr (.inr a0)), (1, .inl x1), (2, .inl x2)] [] h = if (wr x2) = 0 then EX d 203 74 [(0, .inr (.inr a0)), (1, .inl x1)] [] h else EX d 203 61 [(0, .inr (.inr a0)), (1, .inl x1)] [] h := (EX_at bk_Hook_mended_57 _ _ _).trans rfl
theorem bk_Hook_mended_61 : blk 203 61 = some (((cd_Hook_mended.lookup 61).getD ([], 0, []))) := rfl
theorem Hook_mended_61 (d : Nat) (a0 : Nat) (x1 : Int) (h : Hp) : EX d 203 61 [(0, .inr (.inr a0)), (1, .inl x1)] [] h = if sK h a0 = 10 then if sK h (hR h a0 15) = 4 then if okx h (hR h (hR h a0 15) 0) 20 (x1 - 10) then some (.inl (hI h (hR h (hR h a0 15) 0) (ix (x1 - 10))), h) else none else none else none := (EX_at bk_Hook_mended_61 _ _ _).trans rfl
theorem bk_Hook_mended_74 : blk 203 74 = some (((cd_Hook_mended.lookup 74).getD ([], 0, []))) := rfl
theorem Hook_mended_74 (d : Nat) (a0 : Nat) (x1 : Int) (h : Hp) : EX d 203 74 [(0, .inr (.inr a0)), (1, .inl x1)] [] h = if (wr x1) = 0 then EX d 203 78 [(0, .inr (.inr a0))] [] h else EX d 203 88 [(0, .inr (.inr a0))] [] h := (EX_at bk_Hook_mended_74 _ _ _).trans rfl
theorem bk_Hook_mended_78 : blk 203 78 = some (((cd_Hook_mended.lookup 78).getD ([], 0, []))) := rfl
theorem Hook_mended_78 (d : Nat) (a0 : Nat) (h : Hp) : EX d 203 78 [(0, .inr (.inr a0))] [] h = if sK h a0 = 10 then if sK h (hR h a0 15) = 4 then EX d 203 95 [] [.inl (hI h (hR h a0 15) 1)] h else none else none := (EX_at bk_Hook_mended_78 _ _ _).trans rfl
theorem bk_Hook_mended_88 : blk 203 88 = some (((cd_Hook_mended.lookup 88).getD ([], 0, []))) := rfl
theorem Hook_mended_88 (d : Nat) (a0 : Nat) (h : Hp) : EX d 203 88 [(0, .inr (.inr a0))] [] h = if sK h a0 = 10 then if sK h (hR h a0 15) = 4 then EX d 203 95 [] [.inl (hI h (hR h a0 15) 2)] h else none else none := (EX_at bk_Hook_mended_88 _ _ _).trans rfl
theorem bk_Hook_mended_95 : blk 203 95 = some (((cd_Hook_mended.lookup 95).getD ([], 0, []))) := rfl
theorem Hook_mended_95 (d : Nat) (s0 : Int) (h : Hp) : EX d 203 95 [] [.inl s0] h = some (.inl s0, h) := (EX_at bk_Hook_mended_95 _ _ _).trans rfl
/-! evenest(I)I of HookOver: method 214 -/
theorem bk_Hook_evenest_0 : blk 214 0 = some (((cd_Hook_evenest.lookup 0).getD ([], 0, []))) := rfl
theorem Hook_evenest_0 (d : Nat) (a0 : Nat) (x1 : Int) (h : Hp) : EX d 214 0 [(0, .inr (.inr a0)), (1, .inl x1)] [] h = if (wr x1) < 10 then EX d 214 24 [(0, .inr (.inr a0)), (1, .inl x1)] [] h else EX d 214 6 [(0, .inr (.inr a0)), (1, .inl x1)] [] h := (EX_at bk_Hook_evenest_0 _ _ _).trans rfl
theorem bk_Hook_evenest_6 : blk 214 6 = some (((cd_Hook_evenest.lookup 6).getD ([], 0, []))) := rfl
theorem Hook_evenest_6 (d : Nat) (a0 : Nat) (x1 : Int) (h : Hp) : EX d 214 6 [(0, .inr (.inr a0)), (1, .inl x1)] [] h = if sK h a0 = 10 then if sK h (hR h a0 5) = 9 then bak (EX d 214) 17 [(0, .inr (.inr a0)), (1, .inl x1)] [] false (cal d 37 [.inr (.inr (hR h a0 5)), .inl (x1 - 10)] h) else none else none := (EX_at bk_Hook_evenest_6 _ _ _).trans rfl
theorem bk_Hook_evenest_17 : blk 214 17 = some (((cd_Hook_evenest.lookup 17).getD ([], 0, []))) := rfl
theorem Hook_evenest_17 (d : Nat) (a0 : Nat) (x1 : Int) (s0 : Int) (h : Hp) : EX d 214 17 [(0, .inr (.inr a0)), (1, .inl x1)] [.inl s0] h = if (wr s0) = 0 then EX d 214 24 [(0, .inr (.inr a0)), (1, .inl x1)] [] h else EX d 214 20 [(0, .inr (.inr a0)), (1, .inl x1)] [] h := (EX_at bk_Hook_evenest_17 _ _ _).trans rfl
theorem bk_Hook_evenest_20 : blk 214 20 = some (((cd_Hook_evenest.lookup 20).getD ([], 0, []))) := rfl
theorem Hook_evenest_20 (d : Nat) (a0 : Nat) (x1 : Int) (h : Hp) : EX d 214 20 [(0, .inr (.inr a0)), (1, .inl x1)] [] h = EX d 214 25 [(0, .inr (.inr a0)), (1, .inl x1)] [.inl 1] h := (EX_at bk_Hook_evenest_20 _ _ _).trans rfl
theorem bk_Hook_evenest_24 : blk 214 24 = some (((cd_Hook_evenest.lookup 24).getD ([], 0, []))) := rfl
theorem Hook_evenest_24 (d : Nat) (a0 : Nat) (x1 : Int) (h : Hp) : EX d 214 24 [(0, .inr (.inr a0)), (1, .inl x1)] [] h = EX d 214 25 [(0, .inr (.inr a0)), (1, .inl x1)] [.inl 0] h := (EX_at bk_Hook_evenest_24 _ _ _).trans rfl
theorem bk_Hook_evenest_25 : blk 214 25 = some (((cd_Hook_evenest.lookup 25).getD ([], 0, []))) := rfl
theorem Hook_evenest_25 (d : Nat) (a0 : Nat) (x1 : Int) (s0 : Int) (h : Hp) : EX d 214 25 [(0, .inr (.inr a0)), (1, .inl x1)] [.inl s0] h = if (wr x1) = 0 then EX d 214 42 [(0, .inr (.inr a0)), (1, .inl x1), (2, .inl s0)] [] h else EX d 214 30 [(0, .inr (.inr a0)), (1, .inl x1), (2, .inl s0)] [] h := (EX_at bk_Hook_evenest_25 _ _ _).trans rfl
theorem bk_Hook_evenest_30 : blk 214 30 = some (((cd_Hook_evenest.lookup 30).getD ([], 0, []))) := rfl
theorem Hook_evenest_30 (d : Nat) (a0 : Nat) (x1 : Int) (x2 : Int) (h : Hp) : EX d 214 30 [(0, .inr (.inr a0)), (1, .inl x1), (2, .inl x2)] [] h = if (wr x1) = 1 then EX d 214 42 [(0, .inr (.inr a0)), (1, .inl x1), (2, .inl x2)] [] h else EX d 214 35 [(0, .inr (.inr a0)), (1, .inl x1), (2, .inl x2)] [] h := (EX_at bk_Hook_evenest_30 _ _ _).trans rfl
theorem bk_Hook_evenest_35 : blk 214 35 = some (((cd_Hook_evenest.lookup 35).getD ([], 0, []))) := rfl
theorem Hook_evenest_35 (d : Nat) (a0 : Nat) (x1 : Int) (x2 : Int) (h : Hp) : EX d 214 35 [(0, .inr (.inr a0)), (1, .inl x1), (2, .inl x2)] [] h = if (wr x2) = 0 then EX d 214 39 [] [] h else EX d 214 42 [(0, .inr (.inr a0)), (1, .inl x1), (2, .inl x2)] [] h := (EX_at bk_Hook_evenest_35 _ _ _).trans rfl
theorem bk_Hook_evenest_39 : blk 214 39 = some (((cd_Hook_evenest.lookup 39).getD ([], 0, []))) := rfl
theorem Hook_evenest_39 (d : Nat) (h : Hp) : EX d 214 39 [] [] h = some (.inl (-2), h) := (EX_at bk_Hook_evenest_39 _ _ _).trans rfl
theorem bk_Hook_evenest_42 : blk 214 42 = some (((cd_Hook_evenest.lookup 42).getD ([], 0, []))) := rfl
theorem Hook_evenest_42 (d : Nat) (a0 : Nat) (x1 : Int) (x2 : Int) (h : Hp) : EX d 214 42 [(0, .inr (.inr a0)), (1, .inl x1), (2, .inl x2)] [] h = if sK h a0 = 10 then if sK h a0 = 10 then if sK h a0 = 10 then if sK h (hR h a0 14) = 2 then bak (EX d 214) 57 [(0, .inr (.inr a0)), (1, .inl x1), (2, .inl x2)] [] true (cal d 213 [.inr (.inr (hR h a0 14)), .inr (.inr (hR h a0 5)), .inr (.inr (hR h a0 17))] h) else none else none else none else none := (EX_at bk_Hook_evenest_42 _ _ _).trans rfl
theorem bk_Hook_evenest_57 : blk 214 57 = some (((cd_Hook_evenest.lookup 57).getD ([], 0, []))) := rfl
theorem Hook_evenest_57 (d : Nat) (a0 : Nat) (x1 : Int) (x2 : Int) (h : Hp) : EX d 214 57 [(0, .inr (.inr a0)), (1, .inl x1), (2, .inl x2)] [] h = if (wr x2) = 0 then EX d 214 74 [(0, .inr (.inr a0)), (1, .inl x1)] [] h else EX d 214 61 [(0, .inr (.inr a0)), (1, .inl x1)] [] h := (EX_at bk_Hook_evenest_57 _ _ _).trans rfl
theorem bk_Hook_evenest_61 : blk 214 61 = some (((cd_Hook_evenest.lookup 61).getD ([], 0, []))) := rfl
theorem Hook_evenest_61 (d : Nat) (a0 : Nat) (x1 : Int) (h : Hp) : EX d 214 61 [(0, .inr (.inr a0)), (1, .inl x1)] [] h = if sK h a0 = 10 then if sK h (hR h a0 14) = 2 then if okx h (hR h (hR h a0 14) 4) 20 (x1 - 10) then some (.inl (hI h (hR h (hR h a0 14) 4) (ix (x1 - 10))), h) else none else none else none := (EX_at bk_Hook_evenest_61 _ _ _).trans rfl
theorem bk_Hook_evenest_74 : blk 214 74 = some (((cd_Hook_evenest.lookup 74).getD ([], 0, []))) := rfl
theorem Hook_evenest_74 (d : Nat) (a0 : Nat) (x1 : Int) (h : Hp) : EX d 214 74 [(0, .inr (.inr a0)), (1, .inl x1)] [] h = if (wr x1) = 0 then EX d 214 78 [(0, .inr (.inr a0))] [] h else EX d 214 88 [(0, .inr (.inr a0))] [] h := (EX_at bk_Hook_evenest_74 _ _ _).trans rfl
theorem bk_Hook_evenest_78 : blk 214 78 = some (((cd_Hook_evenest.lookup 78).getD ([], 0, []))) := rfl
theorem Hook_evenest_78 (d : Nat) (a0 : Nat) (h : Hp) : EX d 214 78 [(0, .inr (.inr a0))] [] h = if sK h a0 = 10 then if sK h (hR h a0 14) = 2 then EX d 214 95 [] [.inl (hI h (hR h a0 14) 5)] h else none else none := (EX_at bk_Hook_evenest_78 _ _ _).trans rfl
theorem bk_Hook_evenest_88 : blk 214 88 = some (((cd_Hook_evenest.lookup 88).getD ([], 0, []))) := rfl
theorem Hook_evenest_88 (d : Nat) (a0 : Nat) (h : Hp) : EX d 214 88 [(0, .inr (.inr a0))] [] h = if sK h a0 = 10 then if sK h (hR h a0 14) = 2 then EX d 214 95 [] [.inl (hI h (hR h a0 14) 6)] h else none else none := (EX_at bk_Hook_evenest_88 _ _ _).trans rfl
theorem bk_Hook_evenest_95 : blk 214 95 = some (((cd_Hook_evenest.lookup 95).getD ([], 0, []))) := rfl
theorem Hook_evenest_95 (d : Nat) (s0 : Int) (h : Hp) : EX d 214 95 [] [.inl s0] h = some (.inl s0, h) := (EX_at bk_Hook_evenest_95 _ _ _).trans rfl
/-! spread()I of HookOver: method 221 -/
theorem bk_Hook_spread_0 : blk 221 0 = some (((cd_Hook_spread.lookup 0).getD ([], 0, []))) := rfl
theorem Hook_spread_0 (d : Nat) (a0 : Nat) (h : Hp) : EX d 221 0 [(0, .inr (.inr a0))] [] h = if sK h a0 = 10 then if sK h a0 = 10 then if sK h a0 = 10 then if sK h (hR h a0 14) = 2 then bak (EX d 221) 15 [(0, .inr (.inr a0))] [] true (cal d 213 [.inr (.inr (hR h a0 14)), .inr (.inr (hR h a0 5)), .inr (.inr (hR h a0 17))] h) else none else none else none else none := (EX_at bk_Hook_spread_0 _ _ _).trans rfl
theorem bk_Hook_spread_15 : blk 221 15 = some (((cd_Hook_spread.lookup 15).getD ([], 0, []))) := rfl
theorem Hook_spread_15 (d : Nat) (a0 : Nat) (h : Hp) : EX d 221 15 [(0, .inr (.inr a0))] [] h = if sK h a0 = 10 then if sK h a0 = 10 then if sK h (hR h a0 8) = 0 then bak (EX d 221) 26 [(0, .inr (.inr a0))] [] true (cal d 69 [.inr (.inr (hR h a0 8)), .inr (.inr (hR h a0 7))] h) else none else none else none := (EX_at bk_Hook_spread_15 _ _ _).trans rfl
theorem bk_Hook_spread_26 : blk 221 26 = some (((cd_Hook_spread.lookup 26).getD ([], 0, []))) := rfl
theorem Hook_spread_26 (d : Nat) (a0 : Nat) (h : Hp) : EX d 221 26 [(0, .inr (.inr a0))] [] h = EX d 221 30 [(0, .inr (.inr a0)), (1, .inl 0), (2, .inl 0)] [] h := (EX_at bk_Hook_spread_26 _ _ _).trans rfl
theorem bk_Hook_spread_30 : blk 221 30 = some (((cd_Hook_spread.lookup 30).getD ([], 0, []))) := rfl
theorem Hook_spread_30 (d : Nat) (a0 : Nat) (x1 : Int) (x2 : Int) (h : Hp) : EX d 221 30 [(0, .inr (.inr a0)), (1, .inl x1), (2, .inl x2)] [] h = if sK h a0 = 10 then if sK h (hR h a0 5) = 9 then if (wr x2) < (wr (hI h (hR h a0 5) 5)) then EX d 221 41 [(0, .inr (.inr a0)), (1, .inl x1), (2, .inl x2)] [] h else EX d 221 89 [(0, .inr (.inr a0)), (1, .inl x1)] [] h else none else none := (EX_at bk_Hook_spread_30 _ _ _).trans rfl
theorem bk_Hook_spread_41 : blk 221 41 = some (((cd_Hook_spread.lookup 41).getD ([], 0, []))) := rfl
theorem Hook_spread_41 (d : Nat) (a0 : Nat) (x1 : Int) (x2 : Int) (h : Hp) : EX d 221 41 [(0, .inr (.inr a0)), (1, .inl x1), (2, .inl x2)] [] h = if sK h a0 = 10 then if sK h (hR h a0 7) = 0 then if okx h (hR h (hR h a0 7) 0) 20 x2 then if sK h a0 = 10 then if sK h (hR h a0 14) = 2 then if okx h (hR h (hR h a0 14) 4) 20 x2 then if (wr (hI h (hR h (hR h a0 7) 0) (ix x2))) = (wr (hI h (hR h (hR h a0 14) 4) (ix x2))) then EX d 221 83 [(0, .inr (.inr a0)), (1, .inl x1), (2, .inl x2)] [] h else EX d 221 62 [(0, .inr (.inr a0)), (1, .inl x1), (2, .inl x2)] [] h else none else none else none else none else none else none := (EX_at bk_Hook_spread_41 _ _ _).trans rfl
theorem bk_Hook_spread_62 : blk 221 62 = some (((cd_Hook_spread.lookup 62).getD ([], 0, []))) := rfl
theorem Hook_spread_62 (d : Nat) (a0 : Nat) (x1 : Int) (x2 : Int) (h : Hp) : EX d 221 62 [(0, .inr (.inr a0)), (1, .inl x1), (2, .inl x2)] [] h = if sK h a0 = 10 then if sK h (hR h a0 7) = 0 then if sK h a0 = 10 then if sK h (hR h a0 14) = 2 then if okx h (hR h (hR h a0 14) 4) 20 x2 then if okx h (hR h (hR h a0 7) 0) 20 x2 then EX d 221 80 [(0, .inr (.inr a0)), (1, .inl x1), (2, .inl x2)] [] (pI h (hR h (hR h a0 7) 0) (ix x2) (hI h (hR h (hR h a0 14) 4) (ix x2))) else none else none else none else none else none else none := (EX_at bk_Hook_spread_62 _ _ _).trans rfl
theorem bk_Hook_spread_80 : blk 221 80 = some (((cd_Hook_spread.lookup 80).getD ([], 0, []))) := rfl
theorem Hook_spread_80 (d : Nat) (a0 : Nat) (x1 : Int) (x2 : Int) (h : Hp) : EX d 221 80 [(0, .inr (.inr a0)), (1, .inl x1), (2, .inl x2)] [] h = EX d 221 83 [(0, .inr (.inr a0)), (1, .inl (x1 + 1)), (2, .inl x2)] [] h := (EX_at bk_Hook_spread_80 _ _ _).trans rfl
theorem bk_Hook_spread_83 : blk 221 83 = some (((cd_Hook_spread.lookup 83).getD ([], 0, []))) := rfl
theorem Hook_spread_83 (d : Nat) (a0 : Nat) (x1 : Int) (x2 : Int) (h : Hp) : EX d 221 83 [(0, .inr (.inr a0)), (1, .inl x1), (2, .inl x2)] [] h = EX d 221 30 [(0, .inr (.inr a0)), (1, .inl x1), (2, .inl (x2 + 1))] [] h := (EX_at bk_Hook_spread_83 _ _ _).trans rfl
theorem bk_Hook_spread_89 : blk 221 89 = some (((cd_Hook_spread.lookup 89).getD ([], 0, []))) := rfl
theorem Hook_spread_89 (d : Nat) (a0 : Nat) (x1 : Int) (h : Hp) : EX d 221 89 [(0, .inr (.inr a0)), (1, .inl x1)] [] h = if 0 < (wr x1) then EX d 221 93 [(0, .inr (.inr a0)), (1, .inl x1)] [] h else EX d 221 104 [(1, .inl x1)] [] h := (EX_at bk_Hook_spread_89 _ _ _).trans rfl
theorem bk_Hook_spread_93 : blk 221 93 = some (((cd_Hook_spread.lookup 93).getD ([], 0, []))) := rfl
theorem Hook_spread_93 (d : Nat) (a0 : Nat) (x1 : Int) (h : Hp) : EX d 221 93 [(0, .inr (.inr a0)), (1, .inl x1)] [] h = if sK h a0 = 10 then if sK h a0 = 10 then if sK h (hR h a0 9) = 1 then bak (EX d 221) 104 [(1, .inl x1)] [] true (cal d 132 [.inr (.inr (hR h a0 9)), .inr (.inr (hR h a0 8))] h) else none else none else none := (EX_at bk_Hook_spread_93 _ _ _).trans rfl
theorem bk_Hook_spread_104 : blk 221 104 = some (((cd_Hook_spread.lookup 104).getD ([], 0, []))) := rfl
theorem Hook_spread_104 (d : Nat) (x1 : Int) (h : Hp) : EX d 221 104 [(1, .inl x1)] [] h = some (.inl x1, h) := (EX_at bk_Hook_spread_104 _ _ _).trans rfl
/-! fullAt(II)I of HookOver: method 224 -/
theorem bk_Hook_fullAt_0 : blk 224 0 = some (((cd_Hook_fullAt.lookup 0).getD ([], 0, []))) := rfl
theorem Hook_fullAt_0 (d : Nat) (a0 : Nat) (x1 : Int) (x2 : Int) (h : Hp) : EX d 224 0 [(0, .inr (.inr a0)), (1, .inl x1), (2, .inl x2)] [] h = if sK h a0 = 10 then if sK h (hR h a0 5) = 9 then bak (EX d 224) 8 [(0, .inr (.inr a0)), (1, .inl x1), (2, .inl x2)] [] false (cal d 37 [.inr (.inr (hR h a0 5)), .inl x2] h) else none else none := (EX_at bk_Hook_fullAt_0 _ _ _).trans rfl
theorem bk_Hook_fullAt_8 : blk 224 8 = some (((cd_Hook_fullAt.lookup 8).getD ([], 0, []))) := rfl
theorem Hook_fullAt_8 (d : Nat) (a0 : Nat) (x1 : Int) (x2 : Int) (s0 : Int) (h : Hp) : EX d 224 8 [(0, .inr (.inr a0)), (1, .inl x1), (2, .inl x2)] [.inl s0] h = if (wr s0) = 0 then EX d 224 11 [] [] h else EX d 224 14 [(0, .inr (.inr a0)), (1, .inl x1), (2, .inl x2)] [] h := (EX_at bk_Hook_fullAt_8 _ _ _).trans rfl
theorem bk_Hook_fullAt_11 : blk 224 11 = some (((cd_Hook_fullAt.lookup 11).getD ([], 0, []))) := rfl
theorem Hook_fullAt_11 (d : Nat) (h : Hp) : EX d 224 11 [] [] h = some (.inl (-2), h) := (EX_at bk_Hook_fullAt_11 _ _ _).trans rfl
theorem bk_Hook_fullAt_14 : blk 224 14 = some (((cd_Hook_fullAt.lookup 14).getD ([], 0, []))) := rfl
theorem Hook_fullAt_14 (d : Nat) (a0 : Nat) (x1 : Int) (x2 : Int) (h : Hp) : EX d 224 14 [(0, .inr (.inr a0)), (1, .inl x1), (2, .inl x2)] [] h = if (wr x1) < 0 then EX d 224 18 [] [] h else EX d 224 21 [(0, .inr (.inr a0)), (1, .inl x1), (2, .inl x2)] [] h := (EX_at bk_Hook_fullAt_14 _ _ _).trans rfl
theorem bk_Hook_fullAt_18 : blk 224 18 = some (((cd_Hook_fullAt.lookup 18).getD ([], 0, []))) := rfl
theorem Hook_fullAt_18 (d : Nat) (h : Hp) : EX d 224 18 [] [] h = some (.inl (-3), h) := (EX_at bk_Hook_fullAt_18 _ _ _).trans rfl
theorem bk_Hook_fullAt_21 : blk 224 21 = some (((cd_Hook_fullAt.lookup 21).getD ([], 0, []))) := rfl
theorem Hook_fullAt_21 (d : Nat) (a0 : Nat) (x1 : Int) (x2 : Int) (h : Hp) : EX d 224 21 [(0, .inr (.inr a0)), (1, .inl x1), (2, .inl x2)] [] h = if sK h a0 = 10 then if sK h a0 = 10 then if sK h (hR h a0 14) = 2 then bak (EX d 224) 32 [(0, .inr (.inr a0)), (1, .inl x1), (2, .inl x2)] [] true (cal d 183 [.inr (.inr (hR h a0 14)), .inr (.inr (hR h a0 5))] h) else none else none else none := (EX_at bk_Hook_fullAt_21 _ _ _).trans rfl
theorem bk_Hook_fullAt_32 : blk 224 32 = some (((cd_Hook_fullAt.lookup 32).getD ([], 0, []))) := rfl
theorem Hook_fullAt_32 (d : Nat) (a0 : Nat) (x1 : Int) (x2 : Int) (h : Hp) : EX d 224 32 [(0, .inr (.inr a0)), (1, .inl x1), (2, .inl x2)] [] h = if sK h a0 = 10 then if sK h (hR h a0 14) = 2 then if sK h a0 = 10 then if sK h (hR h a0 14) = 2 then if okx h (hR h (hR h a0 14) 1) 20 (hI h (hR h a0 14) 2) then if (wr x1) < (wr (hI h (hR h (hR h a0 14) 1) (ix (hI h (hR h a0 14) 2)))) then EX d 224 54 [(0, .inr (.inr a0)), (1, .inl x1), (2, .inl x2)] [] h else EX d 224 51 [] [] h else none else none else none else none else none := (EX_at bk_Hook_fullAt_32 _ _ _).trans rfl
theorem bk_Hook_fullAt_51 : blk 224 51 = some (((cd_Hook_fullAt.lookup 51).getD ([], 0, []))) := rfl
theorem Hook_fullAt_51 (d : Nat) (h : Hp) : EX d 224 51 [] [] h = some (.inl (-5), h) := (EX_at bk_Hook_fullAt_51 _ _ _).trans rfl
theorem bk_Hook_fullAt_54 : blk 224 54 = some (((cd_Hook_fullAt.lookup 54).getD ([], 0, []))) := rfl
theorem Hook_fullAt_54 (d : Nat) (a0 : Nat) (x1 : Int) (x2 : Int) (h : Hp) : EX d 224 54 [(0, .inr (.inr a0)), (1, .inl x1), (2, .inl x2)] [] h = if sK h a0 = 10 then if sK h a0 = 10 then if sK h (hR h a0 14) = 2 then bak (EX d 224) 67 [] [] false (cal d 223 [.inr (.inr (hR h a0 14)), .inr (.inr (hR h a0 5)), .inl x1, .inl x2] h) else none else none else none := (EX_at bk_Hook_fullAt_54 _ _ _).trans rfl
theorem bk_Hook_fullAt_67 : blk 224 67 = some (((cd_Hook_fullAt.lookup 67).getD ([], 0, []))) := rfl
theorem Hook_fullAt_67 (d : Nat) (s0 : Int) (h : Hp) : EX d 224 67 [] [.inl s0] h = some (.inl s0, h) := (EX_at bk_Hook_fullAt_67 _ _ _).trans rfl
/-! looks(II)I of HookOver: method 231 -/
theorem bk_Hook_looks_0 : blk 231 0 = some (((cd_Hook_looks.lookup 0).getD ([], 0, []))) := rfl
theorem Hook_looks_0 (d : Nat) (a0 : Nat) (x1 : Int) (x2 : Int) (h : Hp) : EX d 231 0 [(0, .inr (.inr a0)), (1, .inl x1), (2, .inl x2)] [] h = bak (EX d 231) 4 [(0, .inr (.inr a0)), (1, .inl x1), (2, .inl x2)] [] false (cal d 156 [.inl x1] h) := (EX_at bk_Hook_looks_0 _ _ _).trans rfl
theorem bk_Hook_looks_4 : blk 231 4 = some (((cd_Hook_looks.lookup 4).getD ([], 0, []))) := rfl
theorem Hook_looks_4 (d : Nat) (a0 : Nat) (x1 : Int) (x2 : Int) (s0 : Int) (h : Hp) : EX d 231 4 [(0, .inr (.inr a0)), (1, .inl x1), (2, .inl x2)] [.inl s0] h = if (wr s0) = 0 then EX d 231 16 [] [] h else EX d 231 7 [(0, .inr (.inr a0)), (1, .inl x1), (2, .inl x2)] [] h := (EX_at bk_Hook_looks_4 _ _ _).trans rfl
theorem bk_Hook_looks_7 : blk 231 7 = some (((cd_Hook_looks.lookup 7).getD ([], 0, []))) := rfl
theorem Hook_looks_7 (d : Nat) (a0 : Nat) (x1 : Int) (x2 : Int) (h : Hp) : EX d 231 7 [(0, .inr (.inr a0)), (1, .inl x1), (2, .inl x2)] [] h = if (wr x2) < 0 then EX d 231 16 [] [] h else EX d 231 11 [(0, .inr (.inr a0)), (1, .inl x1), (2, .inl x2)] [] h := (EX_at bk_Hook_looks_7 _ _ _).trans rfl
theorem bk_Hook_looks_11 : blk 231 11 = some (((cd_Hook_looks.lookup 11).getD ([], 0, []))) := rfl
theorem Hook_looks_11 (d : Nat) (a0 : Nat) (x1 : Int) (x2 : Int) (h : Hp) : EX d 231 11 [(0, .inr (.inr a0)), (1, .inl x1), (2, .inl x2)] [] h = if 2 < (wr x2) then EX d 231 16 [] [] h else EX d 231 19 [(0, .inr (.inr a0)), (1, .inl x1), (2, .inl x2)] [] h := (EX_at bk_Hook_looks_11 _ _ _).trans rfl
theorem bk_Hook_looks_16 : blk 231 16 = some (((cd_Hook_looks.lookup 16).getD ([], 0, []))) := rfl
theorem Hook_looks_16 (d : Nat) (h : Hp) : EX d 231 16 [] [] h = some (.inl (-2), h) := (EX_at bk_Hook_looks_16 _ _ _).trans rfl
theorem bk_Hook_looks_19 : blk 231 19 = some (((cd_Hook_looks.lookup 19).getD ([], 0, []))) := rfl
theorem Hook_looks_19 (d : Nat) (a0 : Nat) (x1 : Int) (x2 : Int) (h : Hp) : EX d 231 19 [(0, .inr (.inr a0)), (1, .inl x1), (2, .inl x2)] [] h = if sK h a0 = 10 then if okx h (hR h a0 10) 24 x1 then if sK h (hR h (hR h a0 10) (ix x1)) = 7 then bak (EX d 231) 30 [(0, .inr (.inr a0)), (2, .inl x2), (3, .inr (.inr (hR h (hR h a0 10) (ix x1))))] [] false (cal d 157 [.inr (.inr (hR h (hR h a0 10) (ix x1)))] h) else none else none else none := (EX_at bk_Hook_looks_19 _ _ _).trans rfl
theorem bk_Hook_looks_30 : blk 231 30 = some (((cd_Hook_looks.lookup 30).getD ([], 0, []))) := rfl
theorem Hook_looks_30 (d : Nat) (a0 : Nat) (x2 : Int) (a3 : Nat) (s0 : Int) (h : Hp) : EX d 231 30 [(0, .inr (.inr a0)), (2, .inl x2), (3, .inr (.inr a3))] [.inl s0] h = if (wr s0) = 0 then EX d 231 36 [(0, .inr (.inr a0)), (2, .inl x2), (3, .inr (.inr a3))] [] h else EX d 231 33 [] [] h := (EX_at bk_Hook_looks_30 _ _ _).trans rfl
theorem bk_Hook_looks_33 : blk 231 33 = some (((cd_Hook_looks.lookup 33).getD ([], 0, []))) := rfl
theorem Hook_looks_33 (d : Nat) (h : Hp) : EX d 231 33 [] [] h = some (.inl (-6), h) := (EX_at bk_Hook_looks_33 _ _ _).trans rfl
theorem bk_Hook_looks_36 : blk 231 36 = some (((cd_Hook_looks.lookup 36).getD ([], 0, []))) := rfl
theorem Hook_looks_36 (d : Nat) (a0 : Nat) (x2 : Int) (a3 : Nat) (h : Hp) : EX d 231 36 [(0, .inr (.inr a0)), (2, .inl x2), (3, .inr (.inr a3))] [] h = if sK h a3 = 7 then if (wr (hI h a3 2)) < 1 then EX d 231 53 [] [] h else EX d 231 44 [(0, .inr (.inr a0)), (2, .inl x2), (3, .inr (.inr a3))] [] h else none := (EX_at bk_Hook_looks_36 _ _ _).trans rfl
theorem bk_Hook_looks_44 : blk 231 44 = some (((cd_Hook_looks.lookup 44).getD ([], 0, []))) := rfl
theorem Hook_looks_44 (d : Nat) (a0 : Nat) (x2 : Int) (a3 : Nat) (h : Hp) : EX d 231 44 [(0, .inr (.inr a0)), (2, .inl x2), (3, .inr (.inr a3))] [] h = if sK h a3 = 7 then if 20 < (wr (hI h a3 2)) then EX d 231 53 [] [] h else EX d 231 56 [(0, .inr (.inr a0)), (2, .inl x2), (3, .inr (.inr a3))] [] h else none := (EX_at bk_Hook_looks_44 _ _ _).trans rfl
theorem bk_Hook_looks_53 : blk 231 53 = some (((cd_Hook_looks.lookup 53).getD ([], 0, []))) := rfl
theorem Hook_looks_53 (d : Nat) (h : Hp) : EX d 231 53 [] [] h = some (.inl (-4), h) := (EX_at bk_Hook_looks_53 _ _ _).trans rfl
theorem bk_Hook_looks_56 : blk 231 56 = some (((cd_Hook_looks.lookup 56).getD ([], 0, []))) := rfl
theorem Hook_looks_56 (d : Nat) (a0 : Nat) (x2 : Int) (a3 : Nat) (h : Hp) : EX d 231 56 [(0, .inr (.inr a0)), (2, .inl x2), (3, .inr (.inr a3))] [] h = if sK h a3 = 7 then bak (EX d 231) 64 [(0, .inr (.inr a0)), (2, .inl x2), (3, .inr (.inr a3))] [] false (cal d 226 [.inr (.inr a3), .inr (.inl 0), .inr (.inl 999)] h) else none := (EX_at bk_Hook_looks_56 _ _ _).trans rfl
theorem bk_Hook_looks_64 : blk 231 64 = some (((cd_Hook_looks.lookup 64).getD ([], 0, []))) := rfl
theorem Hook_looks_64 (d : Nat) (a0 : Nat) (x2 : Int) (a3 : Nat) (s0 : Int) (h : Hp) : EX d 231 64 [(0, .inr (.inr a0)), (2, .inl x2), (3, .inr (.inr a3))] [.inl s0] h = if (wr s0) = 0 then EX d 231 67 [] [] h else EX d 231 70 [(0, .inr (.inr a0)), (2, .inl x2), (3, .inr (.inr a3))] [] h := (EX_at bk_Hook_looks_64 _ _ _).trans rfl
theorem bk_Hook_looks_67 : blk 231 67 = some (((cd_Hook_looks.lookup 67).getD ([], 0, []))) := rfl
theorem Hook_looks_67 (d : Nat) (h : Hp) : EX d 231 67 [] [] h = some (.inl (-3), h) := (EX_at bk_Hook_looks_67 _ _ _).trans rfl
theorem bk_Hook_looks_70 : blk 231 70 = some (((cd_Hook_looks.lookup 70).getD ([], 0, []))) := rfl
theorem Hook_looks_70 (d : Nat) (a0 : Nat) (x2 : Int) (a3 : Nat) (h : Hp) : EX d 231 70 [(0, .inr (.inr a0)), (2, .inl x2), (3, .inr (.inr a3))] [] h = if (wr x2) = 2 then EX d 231 76 [(0, .inr (.inr a0)), (2, .inl x2), (3, .inr (.inr a3))] [.inr (.inr a3)] h else EX d 231 80 [(0, .inr (.inr a0)), (2, .inl x2), (3, .inr (.inr a3))] [.inr (.inr a3)] h := (EX_at bk_Hook_looks_70 _ _ _).trans rfl
theorem bk_Hook_looks_76 : blk 231 76 = some (((cd_Hook_looks.lookup 76).getD ([], 0, []))) := rfl
theorem Hook_looks_76 (d : Nat) (a0 : Nat) (x2 : Int) (a3 : Nat) (r0 : Nat) (h : Hp) : EX d 231 76 [(0, .inr (.inr a0)), (2, .inl x2), (3, .inr (.inr a3))] [.inr (.inr r0)] h = EX d 231 81 [(0, .inr (.inr a0)), (2, .inl x2), (3, .inr (.inr a3))] [.inl 1, .inr (.inr r0)] h := (EX_at bk_Hook_looks_76 _ _ _).trans rfl
theorem bk_Hook_looks_80 : blk 231 80 = some (((cd_Hook_looks.lookup 80).getD ([], 0, []))) := rfl
theorem Hook_looks_80 (d : Nat) (a0 : Nat) (x2 : Int) (a3 : Nat) (r0 : Nat) (h : Hp) : EX d 231 80 [(0, .inr (.inr a0)), (2, .inl x2), (3, .inr (.inr a3))] [.inr (.inr r0)] h = EX d 231 81 [(0, .inr (.inr a0)), (2, .inl x2), (3, .inr (.inr a3))] [.inl 0, .inr (.inr r0)] h := (EX_at bk_Hook_looks_80 _ _ _).trans rfl
theorem bk_Hook_looks_81 : blk 231 81 = some (((cd_Hook_looks.lookup 81).getD ([], 0, []))) := rfl
theorem Hook_looks_81 (d : Nat) (a0 : Nat) (x2 : Int) (a3 : Nat) (r0 : Nat) (s1 : Int) (h : Hp) : EX d 231 81 [(0, .inr (.inr a0)), (2, .inl x2), (3, .inr (.inr a3))] [.inl s1, .inr (.inr r0)] h = if sK h a0 = 10 then bak (EX d 231) 88 [(0, .inr (.inr a0)), (2, .inl x2), (3, .inr (.inr a3))] [] false (cal d 229 [.inr (.inr r0), .inl s1, .inr (.inr (hR h a0 17))] h) else none := (EX_at bk_Hook_looks_81 _ _ _).trans rfl
theorem bk_Hook_looks_88 : blk 231 88 = some (((cd_Hook_looks.lookup 88).getD ([], 0, []))) := rfl
theorem Hook_looks_88 (d : Nat) (a0 : Nat) (x2 : Int) (a3 : Nat) (s0 : Int) (h : Hp) : EX d 231 88 [(0, .inr (.inr a0)), (2, .inl x2), (3, .inr (.inr a3))] [.inl s0] h = if (wr x2) = 1 then EX d 231 95 [(0, .inr (.inr a0)), (3, .inr (.inr a3))] [] h else EX d 231 106 [(4, .inl s0)] [] h := (EX_at bk_Hook_looks_88 _ _ _).trans rfl
theorem bk_Hook_looks_95 : blk 231 95 = some (((cd_Hook_looks.lookup 95).getD ([], 0, []))) := rfl
theorem Hook_looks_95 (d : Nat) (a0 : Nat) (a3 : Nat) (h : Hp) : EX d 231 95 [(0, .inr (.inr a0)), (3, .inr (.inr a3))] [] h = if sK h a0 = 10 then bak (EX d 231) 103 [] [] false (cal d 230 [.inr (.inr a3), .inr (.inr (hR h a0 17))] h) else none := (EX_at bk_Hook_looks_95 _ _ _).trans rfl
theorem bk_Hook_looks_103 : blk 231 103 = some (((cd_Hook_looks.lookup 103).getD ([], 0, []))) := rfl
theorem Hook_looks_103 (d : Nat) (s0 : Int) (h : Hp) : EX d 231 103 [] [.inl s0] h = EX d 231 108 [] [.inl s0] h := (EX_at bk_Hook_looks_103 _ _ _).trans rfl
theorem bk_Hook_looks_106 : blk 231 106 = some (((cd_Hook_looks.lookup 106).getD ([], 0, []))) := rfl
theorem Hook_looks_106 (d : Nat) (x4 : Int) (h : Hp) : EX d 231 106 [(4, .inl x4)] [] h = EX d 231 108 [] [.inl x4] h := (EX_at bk_Hook_looks_106 _ _ _).trans rfl
theorem bk_Hook_looks_108 : blk 231 108 = some (((cd_Hook_looks.lookup 108).getD ([], 0, []))) := rfl
theorem Hook_looks_108 (d : Nat) (s0 : Int) (h : Hp) : EX d 231 108 [] [.inl s0] h = some (.inl s0, h) := (EX_at bk_Hook_looks_108 _ _ _).trans rfl
/-! rounds(II)I of HookOver: method 240 -/
theorem bk_Hook_rounds_0 : blk 240 0 = some (((cd_Hook_rounds.lookup 0).getD ([], 0, []))) := rfl
theorem Hook_rounds_0 (d : Nat) (a0 : Nat) (x1 : Int) (x2 : Int) (h : Hp) : EX d 240 0 [(0, .inr (.inr a0)), (1, .inl x1), (2, .inl x2)] [] h = if (wr x2) < 10 then EX d 240 16 [(0, .inr (.inr a0)), (1, .inl x1), (2, .inl x2)] [] h else EX d 240 6 [(0, .inr (.inr a0)), (1, .inl x1), (2, .inl x2)] [] h := (EX_at bk_Hook_rounds_0 _ _ _).trans rfl
theorem bk_Hook_rounds_6 : blk 240 6 = some (((cd_Hook_rounds.lookup 6).getD ([], 0, []))) := rfl
theorem Hook_rounds_6 (d : Nat) (a0 : Nat) (x1 : Int) (x2 : Int) (h : Hp) : EX d 240 6 [(0, .inr (.inr a0)), (1, .inl x1), (2, .inl x2)] [] h = if (wr x2) < 18 then EX d 240 12 [(0, .inr (.inr a0)), (1, .inl x1), (2, .inl x2)] [] h else EX d 240 16 [(0, .inr (.inr a0)), (1, .inl x1), (2, .inl x2)] [] h := (EX_at bk_Hook_rounds_6 _ _ _).trans rfl
theorem bk_Hook_rounds_12 : blk 240 12 = some (((cd_Hook_rounds.lookup 12).getD ([], 0, []))) := rfl
theorem Hook_rounds_12 (d : Nat) (a0 : Nat) (x1 : Int) (x2 : Int) (h : Hp) : EX d 240 12 [(0, .inr (.inr a0)), (1, .inl x1), (2, .inl x2)] [] h = EX d 240 17 [(0, .inr (.inr a0)), (1, .inl x1), (2, .inl x2)] [.inl 1] h := (EX_at bk_Hook_rounds_12 _ _ _).trans rfl
theorem bk_Hook_rounds_16 : blk 240 16 = some (((cd_Hook_rounds.lookup 16).getD ([], 0, []))) := rfl
theorem Hook_rounds_16 (d : Nat) (a0 : Nat) (x1 : Int) (x2 : Int) (h : Hp) : EX d 240 16 [(0, .inr (.inr a0)), (1, .inl x1), (2, .inl x2)] [] h = EX d 240 17 [(0, .inr (.inr a0)), (1, .inl x1), (2, .inl x2)] [.inl 0] h := (EX_at bk_Hook_rounds_16 _ _ _).trans rfl
theorem bk_Hook_rounds_17 : blk 240 17 = some (((cd_Hook_rounds.lookup 17).getD ([], 0, []))) := rfl
theorem Hook_rounds_17 (d : Nat) (a0 : Nat) (x1 : Int) (x2 : Int) (s0 : Int) (h : Hp) : EX d 240 17 [(0, .inr (.inr a0)), (1, .inl x1), (2, .inl x2)] [.inl s0] h = bak (EX d 240) 22 [(0, .inr (.inr a0)), (1, .inl x1), (2, .inl x2), (3, .inl s0)] [] false (cal d 156 [.inl x1] h) := (EX_at bk_Hook_rounds_17 _ _ _).trans rfl
theorem bk_Hook_rounds_22 : blk 240 22 = some (((cd_Hook_rounds.lookup 22).getD ([], 0, []))) := rfl
theorem Hook_rounds_22 (d : Nat) (a0 : Nat) (x1 : Int) (x2 : Int) (x3 : Int) (s0 : Int) (h : Hp) : EX d 240 22 [(0, .inr (.inr a0)), (1, .inl x1), (2, .inl x2), (3, .inl x3)] [.inl s0] h = if (wr s0) = 0 then EX d 240 33 [] [] h else EX d 240 25 [(0, .inr (.inr a0)), (1, .inl x1), (2, .inl x2), (3, .inl x3)] [] h := (EX_at bk_Hook_rounds_22 _ _ _).trans rfl
theorem bk_Hook_rounds_25 : blk 240 25 = some (((cd_Hook_rounds.lookup 25).getD ([], 0, []))) := rfl
theorem Hook_rounds_25 (d : Nat) (a0 : Nat) (x1 : Int) (x2 : Int) (x3 : Int) (h : Hp) : EX d 240 25 [(0, .inr (.inr a0)), (1, .inl x1), (2, .inl x2), (3, .inl x3)] [] h = if (wr x2) = 0 then EX d 240 36 [(0, .inr (.inr a0)), (1, .inl x1), (2, .inl x2)] [] h else EX d 240 29 [(0, .inr (.inr a0)), (1, .inl x1), (2, .inl x2), (3, .inl x3)] [] h := (EX_at bk_Hook_rounds_25 _ _ _).trans rfl
theorem bk_Hook_rounds_29 : blk 240 29 = some (((cd_Hook_rounds.lookup 29).getD ([], 0, []))) := rfl
theorem Hook_rounds_29 (d : Nat) (a0 : Nat) (x1 : Int) (x2 : Int) (x3 : Int) (h : Hp) : EX d 240 29 [(0, .inr (.inr a0)), (1, .inl x1), (2, .inl x2), (3, .inl x3)] [] h = if (wr x3) = 0 then EX d 240 33 [] [] h else EX d 240 36 [(0, .inr (.inr a0)), (1, .inl x1), (2, .inl x2)] [] h := (EX_at bk_Hook_rounds_29 _ _ _).trans rfl
theorem bk_Hook_rounds_33 : blk 240 33 = some (((cd_Hook_rounds.lookup 33).getD ([], 0, []))) := rfl
theorem Hook_rounds_33 (d : Nat) (h : Hp) : EX d 240 33 [] [] h = some (.inl (-2), h) := (EX_at bk_Hook_rounds_33 _ _ _).trans rfl
theorem bk_Hook_rounds_36 : blk 240 36 = some (((cd_Hook_rounds.lookup 36).getD ([], 0, []))) := rfl
theorem Hook_rounds_36 (d : Nat) (a0 : Nat) (x1 : Int) (x2 : Int) (h : Hp) : EX d 240 36 [(0, .inr (.inr a0)), (1, .inl x1), (2, .inl x2)] [] h = if sK h a0 = 10 then if okx h (hR h a0 10) 24 x1 then if sK h (hR h (hR h a0 10) (ix x1)) = 7 then bak (EX d 240) 49 [(0, .inr (.inr a0)), (2, .inl x2), (4, .inr (.inr (hR h (hR h a0 10) (ix x1))))] [] false (cal d 157 [.inr (.inr (hR h (hR h a0 10) (ix x1)))] h) else none else none else none := (EX_at bk_Hook_rounds_36 _ _ _).trans rfl
theorem bk_Hook_rounds_49 : blk 240 49 = some (((cd_Hook_rounds.lookup 49).getD ([], 0, []))) := rfl
theorem Hook_rounds_49 (d : Nat) (a0 : Nat) (x2 : Int) (a4 : Nat) (s0 : Int) (h : Hp) : EX d 240 49 [(0, .inr (.inr a0)), (2, .inl x2), (4, .inr (.inr a4))] [.inl s0] h = if (wr s0) = 0 then EX d 240 55 [(0, .inr (.inr a0)), (2, .inl x2), (4, .inr (.inr a4))] [] h else EX d 240 52 [] [] h := (EX_at bk_Hook_rounds_49 _ _ _).trans rfl
theorem bk_Hook_rounds_52 : blk 240 52 = some (((cd_Hook_rounds.lookup 52).getD ([], 0, []))) := rfl
theorem Hook_rounds_52 (d : Nat) (h : Hp) : EX d 240 52 [] [] h = some (.inl (-6), h) := (EX_at bk_Hook_rounds_52 _ _ _).trans rfl
theorem bk_Hook_rounds_55 : blk 240 55 = some (((cd_Hook_rounds.lookup 55).getD ([], 0, []))) := rfl
theorem Hook_rounds_55 (d : Nat) (a0 : Nat) (x2 : Int) (a4 : Nat) (h : Hp) : EX d 240 55 [(0, .inr (.inr a0)), (2, .inl x2), (4, .inr (.inr a4))] [] h = if sK h a4 = 7 then if (wr (hI h a4 2)) < 1 then EX d 240 74 [] [] h else EX d 240 64 [(0, .inr (.inr a0)), (2, .inl x2), (4, .inr (.inr a4))] [] h else none := (EX_at bk_Hook_rounds_55 _ _ _).trans rfl
theorem bk_Hook_rounds_64 : blk 240 64 = some (((cd_Hook_rounds.lookup 64).getD ([], 0, []))) := rfl
theorem Hook_rounds_64 (d : Nat) (a0 : Nat) (x2 : Int) (a4 : Nat) (h : Hp) : EX d 240 64 [(0, .inr (.inr a0)), (2, .inl x2), (4, .inr (.inr a4))] [] h = if sK h a4 = 7 then if 8 < (wr (hI h a4 2)) then EX d 240 74 [] [] h else EX d 240 77 [(0, .inr (.inr a0)), (2, .inl x2), (4, .inr (.inr a4))] [] h else none := (EX_at bk_Hook_rounds_64 _ _ _).trans rfl
theorem bk_Hook_rounds_74 : blk 240 74 = some (((cd_Hook_rounds.lookup 74).getD ([], 0, []))) := rfl
theorem Hook_rounds_74 (d : Nat) (h : Hp) : EX d 240 74 [] [] h = some (.inl (-4), h) := (EX_at bk_Hook_rounds_74 _ _ _).trans rfl
theorem bk_Hook_rounds_77 : blk 240 77 = some (((cd_Hook_rounds.lookup 77).getD ([], 0, []))) := rfl
theorem Hook_rounds_77 (d : Nat) (a0 : Nat) (x2 : Int) (a4 : Nat) (h : Hp) : EX d 240 77 [(0, .inr (.inr a0)), (2, .inl x2), (4, .inr (.inr a4))] [] h = if sK h a0 = 10 then if sK h (hR h a0 5) = 9 then if sK h a4 = 7 then bak (EX d 240) 93 [(0, .inr (.inr a0)), (2, .inl x2), (4, .inr (.inr a4))] [] false (cal d 226 [.inr (.inr a4), .inr (.inl 0), .inr (.inl (wr ((hI h (hR h a0 5) 6) - 1)))] h) else none else none else none := (EX_at bk_Hook_rounds_77 _ _ _).trans rfl
theorem bk_Hook_rounds_93 : blk 240 93 = some (((cd_Hook_rounds.lookup 93).getD ([], 0, []))) := rfl
theorem Hook_rounds_93 (d : Nat) (a0 : Nat) (x2 : Int) (a4 : Nat) (s0 : Int) (h : Hp) : EX d 240 93 [(0, .inr (.inr a0)), (2, .inl x2), (4, .inr (.inr a4))] [.inl s0] h = if (wr s0) = 0 then EX d 240 104 [] [] h else EX d 240 96 [(0, .inr (.inr a0)), (2, .inl x2), (4, .inr (.inr a4))] [] h := (EX_at bk_Hook_rounds_93 _ _ _).trans rfl
theorem bk_Hook_rounds_96 : blk 240 96 = some (((cd_Hook_rounds.lookup 96).getD ([], 0, []))) := rfl
theorem Hook_rounds_96 (d : Nat) (a0 : Nat) (x2 : Int) (a4 : Nat) (h : Hp) : EX d 240 96 [(0, .inr (.inr a0)), (2, .inl x2), (4, .inr (.inr a4))] [] h = if sK h a4 = 7 then bak (EX d 240) 101 [(0, .inr (.inr a0)), (2, .inl x2), (4, .inr (.inr a4))] [] false (cal d 235 [.inr (.inr a4)] h) else none := (EX_at bk_Hook_rounds_96 _ _ _).trans rfl
theorem bk_Hook_rounds_101 : blk 240 101 = some (((cd_Hook_rounds.lookup 101).getD ([], 0, []))) := rfl
theorem Hook_rounds_101 (d : Nat) (a0 : Nat) (x2 : Int) (a4 : Nat) (s0 : Int) (h : Hp) : EX d 240 101 [(0, .inr (.inr a0)), (2, .inl x2), (4, .inr (.inr a4))] [.inl s0] h = if (wr s0) = 0 then EX d 240 107 [(0, .inr (.inr a0)), (2, .inl x2), (4, .inr (.inr a4))] [] h else EX d 240 104 [] [] h := (EX_at bk_Hook_rounds_101 _ _ _).trans rfl
theorem bk_Hook_rounds_104 : blk 240 104 = some (((cd_Hook_rounds.lookup 104).getD ([], 0, []))) := rfl
theorem Hook_rounds_104 (d : Nat) (h : Hp) : EX d 240 104 [] [] h = some (.inl (-3), h) := (EX_at bk_Hook_rounds_104 _ _ _).trans rfl
theorem bk_Hook_rounds_107 : blk 240 107 = some (((cd_Hook_rounds.lookup 107).getD ([], 0, []))) := rfl
theorem Hook_rounds_107 (d : Nat) (a0 : Nat) (x2 : Int) (a4 : Nat) (h : Hp) : EX d 240 107 [(0, .inr (.inr a0)), (2, .inl x2), (4, .inr (.inr a4))] [] h = if sK h a0 = 10 then if sK h a0 = 10 then bak (EX d 240) 120 [(0, .inr (.inr a0)), (2, .inl x2), (4, .inr (.inr a4))] [] true (cal d 237 [.inr (.inr (hR h a0 5)), .inr (.inr a4), .inr (.inr (hR h a0 17))] h) else none else none := (EX_at bk_Hook_rounds_107 _ _ _).trans rfl
theorem bk_Hook_rounds_120 : blk 240 120 = some (((cd_Hook_rounds.lookup 120).getD ([], 0, []))) := rfl
theorem Hook_rounds_120 (d : Nat) (a0 : Nat) (x2 : Int) (a4 : Nat) (h : Hp) : EX d 240 120 [(0, .inr (.inr a0)), (2, .inl x2), (4, .inr (.inr a4))] [] h = if (wr x2) = 0 then EX d 240 124 [(0, .inr (.inr a0))] [] h else EX d 240 139 [(0, .inr (.inr a0)), (2, .inl x2), (4, .inr (.inr a4))] [] h := (EX_at bk_Hook_rounds_120 _ _ _).trans rfl
theorem bk_Hook_rounds_124 : blk 240 124 = some (((cd_Hook_rounds.lookup 124).getD ([], 0, []))) := rfl
theorem Hook_rounds_124 (d : Nat) (a0 : Nat) (h : Hp) : EX d 240 124 [(0, .inr (.inr a0))] [] h = if sK h a0 = 10 then if sK h (hR h a0 7) = 0 then if sK h a0 = 10 then bak (EX d 240) 138 [] [] false (cal d 238 [.inl (hI h (hR h a0 7) 1), .inr (.inr (hR h a0 17))] h) else none else none else none := (EX_at bk_Hook_rounds_124 _ _ _).trans rfl
theorem bk_Hook_rounds_138 : blk 240 138 = some (((cd_Hook_rounds.lookup 138).getD ([], 0, []))) := rfl
theorem Hook_rounds_138 (d : Nat) (s0 : Int) (h : Hp) : EX d 240 138 [] [.inl s0] h = some (.inl s0, h) := (EX_at bk_Hook_rounds_138 _ _ _).trans rfl
theorem bk_Hook_rounds_139 : blk 240 139 = some (((cd_Hook_rounds.lookup 139).getD ([], 0, []))) := rfl
theorem Hook_rounds_139 (d : Nat) (a0 : Nat) (x2 : Int) (a4 : Nat) (h : Hp) : EX d 240 139 [(0, .inr (.inr a0)), (2, .inl x2), (4, .inr (.inr a4))] [] h = if sK h a4 = 7 then if (wr (x2 - 10)) < (wr (hI h a4 2)) then EX d 240 153 [(0, .inr (.inr a0)), (2, .inl x2), (4, .inr (.inr a4))] [] h else EX d 240 151 [] [] h else none := (EX_at bk_Hook_rounds_139 _ _ _).trans rfl
theorem bk_Hook_rounds_151 : blk 240 151 = some (((cd_Hook_rounds.lookup 151).getD ([], 0, []))) := rfl
theorem Hook_rounds_151 (d : Nat) (h : Hp) : EX d 240 151 [] [] h = some (.inl (-1), h) := (EX_at bk_Hook_rounds_151 _ _ _).trans rfl
theorem bk_Hook_rounds_153 : blk 240 153 = some (((cd_Hook_rounds.lookup 153).getD ([], 0, []))) := rfl
theorem Hook_rounds_153 (d : Nat) (a0 : Nat) (x2 : Int) (a4 : Nat) (h : Hp) : EX d 240 153 [(0, .inr (.inr a0)), (2, .inl x2), (4, .inr (.inr a4))] [] h = if sK h a0 = 10 then if sK h a0 = 10 then if sK h (hR h a0 7) = 0 then if sK h a0 = 10 then if sK h a0 = 10 then bak (EX d 240) 177 [(0, .inr (.inr a0)), (2, .inl x2)] [] true (cal d 239 [.inr (.inr (hR h a0 5)), .inr (.inr a4), .inl (hI h (hR h a0 7) 1), .inr (.inr (hR h a0 17)), .inr (.inr (hR h a0 18))] h) else none else none else none else none else none := (EX_at bk_Hook_rounds_153 _ _ _).trans rfl
theorem bk_Hook_rounds_177 : blk 240 177 = some (((cd_Hook_rounds.lookup 177).getD ([], 0, []))) := rfl
theorem Hook_rounds_177 (d : Nat) (a0 : Nat) (x2 : Int) (h : Hp) : EX d 240 177 [(0, .inr (.inr a0)), (2, .inl x2)] [] h = if sK h a0 = 10 then if okx h (hR h a0 18) 20 (x2 - 10) then some (.inl (hI h (hR h a0 18) (ix (x2 - 10))), h) else none else none := (EX_at bk_Hook_rounds_177 _ _ _).trans rfl
/-! pleats(I)I of HookOver: method 244 -/
theorem bk_Hook_pleats_0 : blk 244 0 = some (((cd_Hook_pleats.lookup 0).getD ([], 0, []))) := rfl
theorem Hook_pleats_0 (d : Nat) (a0 : Nat) (x1 : Int) (h : Hp) : EX d 244 0 [(0, .inr (.inr a0)), (1, .inl x1)] [] h = if (wr x1) = 0 then EX d 244 12 [(0, .inr (.inr a0)), (1, .inl x1)] [] h else EX d 244 4 [(0, .inr (.inr a0)), (1, .inl x1)] [] h := (EX_at bk_Hook_pleats_0 _ _ _).trans rfl
theorem bk_Hook_pleats_4 : blk 244 4 = some (((cd_Hook_pleats.lookup 4).getD ([], 0, []))) := rfl
theorem Hook_pleats_4 (d : Nat) (a0 : Nat) (x1 : Int) (h : Hp) : EX d 244 4 [(0, .inr (.inr a0)), (1, .inl x1)] [] h = if (wr x1) = 1 then EX d 244 12 [(0, .inr (.inr a0)), (1, .inl x1)] [] h else EX d 244 9 [] [] h := (EX_at bk_Hook_pleats_4 _ _ _).trans rfl
theorem bk_Hook_pleats_9 : blk 244 9 = some (((cd_Hook_pleats.lookup 9).getD ([], 0, []))) := rfl
theorem Hook_pleats_9 (d : Nat) (h : Hp) : EX d 244 9 [] [] h = some (.inl (-2), h) := (EX_at bk_Hook_pleats_9 _ _ _).trans rfl
theorem bk_Hook_pleats_12 : blk 244 12 = some (((cd_Hook_pleats.lookup 12).getD ([], 0, []))) := rfl
theorem Hook_pleats_12 (d : Nat) (a0 : Nat) (x1 : Int) (h : Hp) : EX d 244 12 [(0, .inr (.inr a0)), (1, .inl x1)] [] h = if sK h a0 = 10 then if sK h (hR h a0 5) = 9 then if (wr (hI h (hR h a0 5) 11)) = 0 then EX d 244 22 [] [] h else EX d 244 25 [(0, .inr (.inr a0)), (1, .inl x1)] [] h else none else none := (EX_at bk_Hook_pleats_12 _ _ _).trans rfl
theorem bk_Hook_pleats_22 : blk 244 22 = some (((cd_Hook_pleats.lookup 22).getD ([], 0, []))) := rfl
theorem Hook_pleats_22 (d : Nat) (h : Hp) : EX d 244 22 [] [] h = some (.inl (-5), h) := (EX_at bk_Hook_pleats_22 _ _ _).trans rfl
theorem bk_Hook_pleats_25 : blk 244 25 = some (((cd_Hook_pleats.lookup 25).getD ([], 0, []))) := rfl
theorem Hook_pleats_25 (d : Nat) (a0 : Nat) (x1 : Int) (h : Hp) : EX d 244 25 [(0, .inr (.inr a0)), (1, .inl x1)] [] h = EX d 244 32 [(0, .inr (.inr a0)), (1, .inl x1), (2, .inl 0), (3, .inl (-1)), (4, .inl 0)] [] h := (EX_at bk_Hook_pleats_25 _ _ _).trans rfl
theorem bk_Hook_pleats_32 : blk 244 32 = some (((cd_Hook_pleats.lookup 32).getD ([], 0, []))) := rfl
theorem Hook_pleats_32 (d : Nat) (a0 : Nat) (x1 : Int) (x2 : Int) (x3 : Int) (x4 : Int) (h : Hp) : EX d 244 32 [(0, .inr (.inr a0)), (1, .inl x1), (2, .inl x2), (3, .inl x3), (4, .inl x4)] [] h = if sK h a0 = 10 then if sK h (hR h a0 5) = 9 then if (wr x4) < (wr (hI h (hR h a0 5) 11)) then EX d 244 44 [(0, .inr (.inr a0)), (1, .inl x1), (2, .inl x2), (3, .inl x3), (4, .inl x4)] [] h else EX d 244 77 [(1, .inl x1), (2, .inl x2), (3, .inl x3)] [] h else none else none := (EX_at bk_Hook_pleats_32 _ _ _).trans rfl
theorem bk_Hook_pleats_44 : blk 244 44 = some (((cd_Hook_pleats.lookup 44).getD ([], 0, []))) := rfl
theorem Hook_pleats_44 (d : Nat) (a0 : Nat) (x1 : Int) (x2 : Int) (x3 : Int) (x4 : Int) (h : Hp) : EX d 244 44 [(0, .inr (.inr a0)), (1, .inl x1), (2, .inl x2), (3, .inl x3), (4, .inl x4)] [] h = if sK h a0 = 10 then if sK h a0 = 10 then if sK h (hR h a0 7) = 0 then bak (EX d 244) 57 [(0, .inr (.inr a0)), (1, .inl x1), (2, .inl x2), (3, .inl x3), (4, .inl x4)] [] false (cal d 243 [.inr (.inr (hR h a0 7)), .inr (.inr (hR h a0 5)), .inl x4] h) else none else none else none := (EX_at bk_Hook_pleats_44 _ _ _).trans rfl
theorem bk_Hook_pleats_57 : blk 244 57 = some (((cd_Hook_pleats.lookup 57).getD ([], 0, []))) := rfl
theorem Hook_pleats_57 (d : Nat) (a0 : Nat) (x1 : Int) (x2 : Int) (x3 : Int) (x4 : Int) (s0 : Int) (h : Hp) : EX d 244 57 [(0, .inr (.inr a0)), (1, .inl x1), (2, .inl x2), (3, .inl x3), (4, .inl x4)] [.inl s0] h = if (wr x2) < (wr s0) then EX d 244 65 [(0, .inr (.inr a0)), (1, .inl x1), (4, .inl x4), (5, .inl s0)] [] h else EX d 244 71 [(0, .inr (.inr a0)), (1, .inl x1), (2, .inl x2), (3, .inl x3), (4, .inl x4)] [] h := (EX_at bk_Hook_pleats_57 _ _ _).trans rfl
theorem bk_Hook_pleats_65 : blk 244 65 = some (((cd_Hook_pleats.lookup 65).getD ([], 0, []))) := rfl
theorem Hook_pleats_65 (d : Nat) (a0 : Nat) (x1 : Int) (x4 : Int) (x5 : Int) (h : Hp) : EX d 244 65 [(0, .inr (.inr a0)), (1, .inl x1), (4, .inl x4), (5, .inl x5)] [] h = EX d 244 71 [(0, .inr (.inr a0)), (1, .inl x1), (2, .inl x5), (3, .inl x4), (4, .inl x4)] [] h := (EX_at bk_Hook_pleats_65 _ _ _).trans rfl
theorem bk_Hook_pleats_71 : blk 244 71 = some (((cd_Hook_pleats.lookup 71).getD ([], 0, []))) := rfl
theorem Hook_pleats_71 (d : Nat) (a0 : Nat) (x1 : Int) (x2 : Int) (x3 : Int) (x4 : Int) (h : Hp) : EX d 244 71 [(0, .inr (.inr a0)), (1, .inl x1), (2, .inl x2), (3, .inl x3), (4, .inl x4)] [] h = EX d 244 32 [(0, .inr (.inr a0)), (1, .inl x1), (2, .inl x2), (3, .inl x3), (4, .inl (x4 + 1))] [] h := (EX_at bk_Hook_pleats_71 _ _ _).trans rfl
theorem bk_Hook_pleats_77 : blk 244 77 = some (((cd_Hook_pleats.lookup 77).getD ([], 0, []))) := rfl
theorem Hook_pleats_77 (d : Nat) (x1 : Int) (x2 : Int) (x3 : Int) (h : Hp) : EX d 244 77 [(1, .inl x1), (2, .inl x2), (3, .inl x3)] [] h = if (wr x1) = 0 then EX d 244 81 [(2, .inl x2)] [] h else EX d 244 85 [(3, .inl x3)] [] h := (EX_at bk_Hook_pleats_77 _ _ _).trans rfl
theorem bk_Hook_pleats_81 : blk 244 81 = some (((cd_Hook_pleats.lookup 81).getD ([], 0, []))) := rfl
theorem Hook_pleats_81 (d : Nat) (x2 : Int) (h : Hp) : EX d 244 81 [(2, .inl x2)] [] h = EX d 244 86 [] [.inl x2] h := (EX_at bk_Hook_pleats_81 _ _ _).trans rfl
theorem bk_Hook_pleats_85 : blk 244 85 = some (((cd_Hook_pleats.lookup 85).getD ([], 0, []))) := rfl
theorem Hook_pleats_85 (d : Nat) (x3 : Int) (h : Hp) : EX d 244 85 [(3, .inl x3)] [] h = EX d 244 86 [] [.inl x3] h := (EX_at bk_Hook_pleats_85 _ _ _).trans rfl
theorem bk_Hook_pleats_86 : blk 244 86 = some (((cd_Hook_pleats.lookup 86).getD ([], 0, []))) := rfl
theorem Hook_pleats_86 (d : Nat) (s0 : Int) (h : Hp) : EX d 244 86 [] [.inl s0] h = some (.inl s0, h) := (EX_at bk_Hook_pleats_86 _ _ _).trans rfl
/-! average(II)J of HookOver: method 251 -/
theorem bk_Hook_average_0 : blk 251 0 = some (((cd_Hook_average.lookup 0).getD ([], 0, []))) := rfl
theorem Hook_average_0 (d : Nat) (a0 : Nat) (x1 : Int) (x2 : Int) (h : Hp) : EX d 251 0 [(0, .inr (.inr a0)), (1, .inl x1), (2, .inl x2)] [] h = if (wr x2) = 0 then EX d 251 13 [(0, .inr (.inr a0)), (1, .inl x1), (2, .inl x2)] [] h else EX d 251 4 [(0, .inr (.inr a0)), (1, .inl x1), (2, .inl x2)] [] h := (EX_at bk_Hook_average_0 _ _ _).trans rfl
theorem bk_Hook_average_4 : blk 251 4 = some (((cd_Hook_average.lookup 4).getD ([], 0, []))) := rfl
theorem Hook_average_4 (d : Nat) (a0 : Nat) (x1 : Int) (x2 : Int) (h : Hp) : EX d 251 4 [(0, .inr (.inr a0)), (1, .inl x1), (2, .inl x2)] [] h = if (wr x2) = 1 then EX d 251 13 [(0, .inr (.inr a0)), (1, .inl x1), (2, .inl x2)] [] h else EX d 251 9 [] [] h := (EX_at bk_Hook_average_4 _ _ _).trans rfl
theorem bk_Hook_average_9 : blk 251 9 = some (((cd_Hook_average.lookup 9).getD ([], 0, []))) := rfl
theorem Hook_average_9 (d : Nat) (h : Hp) : EX d 251 9 [] [] h = some (.inr (.inl (-2)), h) := (EX_at bk_Hook_average_9 _ _ _).trans rfl
theorem bk_Hook_average_13 : blk 251 13 = some (((cd_Hook_average.lookup 13).getD ([], 0, []))) := rfl
theorem Hook_average_13 (d : Nat) (a0 : Nat) (x1 : Int) (x2 : Int) (h : Hp) : EX d 251 13 [(0, .inr (.inr a0)), (1, .inl x1), (2, .inl x2)] [] h = if (wr x1) < 1 then EX d 251 24 [] [] h else EX d 251 18 [(0, .inr (.inr a0)), (1, .inl x1), (2, .inl x2)] [] h := (EX_at bk_Hook_average_13 _ _ _).trans rfl
theorem bk_Hook_average_18 : blk 251 18 = some (((cd_Hook_average.lookup 18).getD ([], 0, []))) := rfl
theorem Hook_average_18 (d : Nat) (a0 : Nat) (x1 : Int) (x2 : Int) (h : Hp) : EX d 251 18 [(0, .inr (.inr a0)), (1, .inl x1), (2, .inl x2)] [] h = if 12 < (wr x1) then EX d 251 24 [] [] h else EX d 251 28 [(0, .inr (.inr a0)), (1, .inl x1), (2, .inl x2)] [] h := (EX_at bk_Hook_average_18 _ _ _).trans rfl
theorem bk_Hook_average_24 : blk 251 24 = some (((cd_Hook_average.lookup 24).getD ([], 0, []))) := rfl
theorem Hook_average_24 (d : Nat) (h : Hp) : EX d 251 24 [] [] h = some (.inr (.inl (-3)), h) := (EX_at bk_Hook_average_24 _ _ _).trans rfl
theorem bk_Hook_average_28 : blk 251 28 = some (((cd_Hook_average.lookup 28).getD ([], 0, []))) := rfl
theorem Hook_average_28 (d : Nat) (a0 : Nat) (x1 : Int) (x2 : Int) (h : Hp) : EX d 251 28 [(0, .inr (.inr a0)), (1, .inl x1), (2, .inl x2)] [] h = if sK h a0 = 10 then if sK h (hR h a0 5) = 9 then if (wr (hI h (hR h a0 5) 5)) = 0 then EX d 251 38 [] [] h else EX d 251 42 [(0, .inr (.inr a0)), (1, .inl x1), (2, .inl x2)] [] h else none else none := (EX_at bk_Hook_average_28 _ _ _).trans rfl
theorem bk_Hook_average_38 : blk 251 38 = some (((cd_Hook_average.lookup 38).getD ([], 0, []))) := rfl
theorem Hook_average_38 (d : Nat) (h : Hp) : EX d 251 38 [] [] h = some (.inr (.inl (-5)), h) := (EX_at bk_Hook_average_38 _ _ _).trans rfl
theorem bk_Hook_average_42 : blk 251 42 = some (((cd_Hook_average.lookup 42).getD ([], 0, []))) := rfl
theorem Hook_average_42 (d : Nat) (a0 : Nat) (x1 : Int) (x2 : Int) (h : Hp) : EX d 251 42 [(0, .inr (.inr a0)), (1, .inl x1), (2, .inl x2)] [] h = if sK h a0 = 10 then bak (EX d 251) 50 [(0, .inr (.inr a0)), (2, .inl x2)] [] false (cal d 248 [.inr (.inr (hR h a0 5)), .inl x1] h) else none := (EX_at bk_Hook_average_42 _ _ _).trans rfl
theorem bk_Hook_average_50 : blk 251 50 = some (((cd_Hook_average.lookup 50).getD ([], 0, []))) := rfl
theorem Hook_average_50 (d : Nat) (a0 : Nat) (x2 : Int) (t0 : Int) (h : Hp) : EX d 251 50 [(0, .inr (.inr a0)), (2, .inl x2)] [.inr (.inl t0)] h = if sK h a0 = 10 then bak (EX d 251) 58 [(2, .inl x2), (3, .inr (.inl t0))] [] false (cal d 249 [.inr (.inr (hR h a0 5))] h) else none := (EX_at bk_Hook_average_50 _ _ _).trans rfl
theorem bk_Hook_average_58 : blk 251 58 = some (((cd_Hook_average.lookup 58).getD ([], 0, []))) := rfl
theorem Hook_average_58 (d : Nat) (x2 : Int) (y3 : Int) (t0 : Int) (h : Hp) : EX d 251 58 [(2, .inl x2), (3, .inr (.inl y3))] [.inr (.inl t0)] h = bak (EX d 251) 66 [(2, .inl x2), (3, .inr (.inl y3)), (5, .inr (.inl t0))] [] false (cal d 250 [.inr (.inl y3), .inr (.inl t0)] h) := (EX_at bk_Hook_average_58 _ _ _).trans rfl
theorem bk_Hook_average_66 : blk 251 66 = some (((cd_Hook_average.lookup 66).getD ([], 0, []))) := rfl
theorem Hook_average_66 (d : Nat) (x2 : Int) (y3 : Int) (y5 : Int) (t0 : Int) (h : Hp) : EX d 251 66 [(2, .inl x2), (3, .inr (.inl y3)), (5, .inr (.inl y5))] [.inr (.inl t0)] h = if (wr (lCmp t0 0)) = 0 then EX d 251 75 [] [] h else EX d 251 77 [(2, .inl x2), (3, .inr (.inl y3)), (5, .inr (.inl y5)), (7, .inr (.inl t0))] [] h := (EX_at bk_Hook_average_66 _ _ _).trans rfl
theorem bk_Hook_average_75 : blk 251 75 = some (((cd_Hook_average.lookup 75).getD ([], 0, []))) := rfl
theorem Hook_average_75 (d : Nat) (h : Hp) : EX d 251 75 [] [] h = some (.inr (.inl 0), h) := (EX_at bk_Hook_average_75 _ _ _).trans rfl
theorem bk_Hook_average_77 : blk 251 77 = some (((cd_Hook_average.lookup 77).getD ([], 0, []))) := rfl
theorem Hook_average_77 (d : Nat) (x2 : Int) (y3 : Int) (y5 : Int) (y7 : Int) (h : Hp) : EX d 251 77 [(2, .inl x2), (3, .inr (.inl y3)), (5, .inr (.inl y5)), (7, .inr (.inl y7))] [] h = if (wr x2) = 0 then EX d 251 81 [(3, .inr (.inl y3)), (7, .inr (.inl y7))] [] h else EX d 251 88 [(5, .inr (.inl y5)), (7, .inr (.inl y7))] [] h := (EX_at bk_Hook_average_77 _ _ _).trans rfl
theorem bk_Hook_average_81 : blk 251 81 = some (((cd_Hook_average.lookup 81).getD ([], 0, []))) := rfl
theorem Hook_average_81 (d : Nat) (y3 : Int) (y7 : Int) (h : Hp) : EX d 251 81 [(3, .inr (.inl y3)), (7, .inr (.inl y7))] [] h = if (wl y7) = 0 then none else EX d 251 93 [] [.inr (.inl (lDiv y3 y7))] h := (EX_at bk_Hook_average_81 _ _ _).trans rfl
theorem bk_Hook_average_88 : blk 251 88 = some (((cd_Hook_average.lookup 88).getD ([], 0, []))) := rfl
theorem Hook_average_88 (d : Nat) (y5 : Int) (y7 : Int) (h : Hp) : EX d 251 88 [(5, .inr (.inl y5)), (7, .inr (.inl y7))] [] h = if (wl y7) = 0 then none else EX d 251 93 [] [.inr (.inl (lDiv y5 y7))] h := (EX_at bk_Hook_average_88 _ _ _).trans rfl
theorem bk_Hook_average_93 : blk 251 93 = some (((cd_Hook_average.lookup 93).getD ([], 0, []))) := rfl
theorem Hook_average_93 (d : Nat) (t0 : Int) (h : Hp) : EX d 251 93 [] [.inr (.inl t0)] h = some (.inr (.inl t0), h) := (EX_at bk_Hook_average_93 _ _ _).trans rfl
/-! bestLook()I of HookOver: method 257 -/
theorem bk_Hook_bestLook_0 : blk 257 0 = some (((cd_Hook_bestLook.lookup 0).getD ([], 0, []))) := rfl
theorem Hook_bestLook_0 (d : Nat) (a0 : Nat) (h : Hp) : EX d 257 0 [(0, .inr (.inr a0))] [] h = if sK h a0 = 10 then if sK h (hR h a0 5) = 9 then if (wr (hI h (hR h a0 5) 5)) = 0 then EX d 257 10 [] [] h else EX d 257 13 [(0, .inr (.inr a0))] [] h else none else none := (EX_at bk_Hook_bestLook_0 _ _ _).trans rfl
theorem bk_Hook_bestLook_10 : blk 257 10 = some (((cd_Hook_bestLook.lookup 10).getD ([], 0, []))) := rfl
theorem Hook_bestLook_10 (d : Nat) (h : Hp) : EX d 257 10 [] [] h = some (.inl (-5), h) := (EX_at bk_Hook_bestLook_10 _ _ _).trans rfl
theorem bk_Hook_bestLook_13 : blk 257 13 = some (((cd_Hook_bestLook.lookup 13).getD ([], 0, []))) := rfl
theorem Hook_bestLook_13 (d : Nat) (a0 : Nat) (h : Hp) : EX d 257 13 [(0, .inr (.inr a0))] [] h = if sK h a0 = 10 then bak (EX d 257) 23 [(0, .inr (.inr a0)), (1, .inl 1)] [] false (cal d 248 [.inr (.inr (hR h a0 5)), .inl 1] h) else none := (EX_at bk_Hook_bestLook_13 _ _ _).trans rfl
theorem bk_Hook_bestLook_23 : blk 257 23 = some (((cd_Hook_bestLook.lookup 23).getD ([], 0, []))) := rfl
theorem Hook_bestLook_23 (d : Nat) (a0 : Nat) (x1 : Int) (t0 : Int) (h : Hp) : EX d 257 23 [(0, .inr (.inr a0)), (1, .inl x1)] [.inr (.inl t0)] h = EX d 257 27 [(0, .inr (.inr a0)), (1, .inl x1), (2, .inr (.inl t0)), (4, .inl 2)] [] h := (EX_at bk_Hook_bestLook_23 _ _ _).trans rfl
theorem bk_Hook_bestLook_27 : blk 257 27 = some (((cd_Hook_bestLook.lookup 27).getD ([], 0, []))) := rfl
theorem Hook_bestLook_27 (d : Nat) (a0 : Nat) (x1 : Int) (y2 : Int) (x4 : Int) (h : Hp) : EX d 257 27 [(0, .inr (.inr a0)), (1, .inl x1), (2, .inr (.inl y2)), (4, .inl x4)] [] h = if sK h a0 = 10 then if sK h (hR h a0 5) = 9 then if (wr (hI h (hR h a0 5) 5)) < (wr x4) then EX d 257 69 [(1, .inl x1)] [] h else EX d 257 39 [(0, .inr (.inr a0)), (1, .inl x1), (2, .inr (.inl y2)), (4, .inl x4)] [] h else none else none := (EX_at bk_Hook_bestLook_27 _ _ _).trans rfl
theorem bk_Hook_bestLook_39 : blk 257 39 = some (((cd_Hook_bestLook.lookup 39).getD ([], 0, []))) := rfl
theorem Hook_bestLook_39 (d : Nat) (a0 : Nat) (x1 : Int) (y2 : Int) (x4 : Int) (h : Hp) : EX d 257 39 [(0, .inr (.inr a0)), (1, .inl x1), (2, .inr (.inl y2)), (4, .inl x4)] [] h = if sK h a0 = 10 then bak (EX d 257) 48 [(0, .inr (.inr a0)), (1, .inl x1), (2, .inr (.inl y2)), (4, .inl x4)] [] false (cal d 248 [.inr (.inr (hR h a0 5)), .inl x4] h) else none := (EX_at bk_Hook_bestLook_39 _ _ _).trans rfl
theorem bk_Hook_bestLook_48 : blk 257 48 = some (((cd_Hook_bestLook.lookup 48).getD ([], 0, []))) := rfl
theorem Hook_bestLook_48 (d : Nat) (a0 : Nat) (x1 : Int) (y2 : Int) (x4 : Int) (t0 : Int) (h : Hp) : EX d 257 48 [(0, .inr (.inr a0)), (1, .inl x1), (2, .inr (.inl y2)), (4, .inl x4)] [.inr (.inl t0)] h = if (wr (lCmp t0 y2)) < 0 then EX d 257 57 [(0, .inr (.inr a0)), (4, .inl x4), (5, .inr (.inl t0))] [] h else EX d 257 63 [(0, .inr (.inr a0)), (1, .inl x1), (2, .inr (.inl y2)), (4, .inl x4)] [] h := (EX_at bk_Hook_bestLook_48 _ _ _).trans rfl
theorem bk_Hook_bestLook_57 : blk 257 57 = some (((cd_Hook_bestLook.lookup 57).getD ([], 0, []))) := rfl
theorem Hook_bestLook_57 (d : Nat) (a0 : Nat) (x4 : Int) (y5 : Int) (h : Hp) : EX d 257 57 [(0, .inr (.inr a0)), (4, .inl x4), (5, .inr (.inl y5))] [] h = EX d 257 63 [(0, .inr (.inr a0)), (1, .inl x4), (2, .inr (.inl y5)), (4, .inl x4)] [] h := (EX_at bk_Hook_bestLook_57 _ _ _).trans rfl
theorem bk_Hook_bestLook_63 : blk 257 63 = some (((cd_Hook_bestLook.lookup 63).getD ([], 0, []))) := rfl
theorem Hook_bestLook_63 (d : Nat) (a0 : Nat) (x1 : Int) (y2 : Int) (x4 : Int) (h : Hp) : EX d 257 63 [(0, .inr (.inr a0)), (1, .inl x1), (2, .inr (.inl y2)), (4, .inl x4)] [] h = EX d 257 27 [(0, .inr (.inr a0)), (1, .inl x1), (2, .inr (.inl y2)), (4, .inl (x4 + 1))] [] h := (EX_at bk_Hook_bestLook_63 _ _ _).trans rfl
theorem bk_Hook_bestLook_69 : blk 257 69 = some (((cd_Hook_bestLook.lookup 69).getD ([], 0, []))) := rfl
theorem Hook_bestLook_69 (d : Nat) (x1 : Int) (h : Hp) : EX d 257 69 [(1, .inl x1)] [] h = some (.inl x1, h) := (EX_at bk_Hook_bestLook_69 _ _ _).trans rfl
/-! oneOut(II)I of HookOver: method 260 -/
theorem bk_Hook_oneOut_0 : blk 260 0 = some (((cd_Hook_oneOut.lookup 0).getD ([], 0, []))) := rfl
theorem Hook_oneOut_0 (d : Nat) (a0 : Nat) (x1 : Int) (x2 : Int) (h : Hp) : EX d 260 0 [(0, .inr (.inr a0)), (1, .inl x1), (2, .inl x2)] [] h = if (wr x1) < 0 then EX d 260 25 [] [] h else EX d 260 4 [(0, .inr (.inr a0)), (1, .inl x1), (2, .inl x2)] [] h := (EX_at bk_Hook_oneOut_0 _ _ _).trans rfl
theorem bk_Hook_oneOut_4 : blk 260 4 = some (((cd_Hook_oneOut.lookup 4).getD ([], 0, []))) := rfl
theorem Hook_oneOut_4 (d : Nat) (a0 : Nat) (x1 : Int) (x2 : Int) (h : Hp) : EX d 260 4 [(0, .inr (.inr a0)), (1, .inl x1), (2, .inl x2)] [] h = if sK h a0 = 10 then if sK h (hR h a0 5) = 9 then if (wr (hI h (hR h a0 5) 5)) < (wr x1) then EX d 260 25 [] [] h else EX d 260 15 [(0, .inr (.inr a0)), (1, .inl x1), (2, .inl x2)] [] h else none else none := (EX_at bk_Hook_oneOut_4 _ _ _).trans rfl
theorem bk_Hook_oneOut_15 : blk 260 15 = some (((cd_Hook_oneOut.lookup 15).getD ([], 0, []))) := rfl
theorem Hook_oneOut_15 (d : Nat) (a0 : Nat) (x1 : Int) (x2 : Int) (h : Hp) : EX d 260 15 [(0, .inr (.inr a0)), (1, .inl x1), (2, .inl x2)] [] h = if (wr x2) = 1 then EX d 260 28 [(0, .inr (.inr a0)), (1, .inl x1), (2, .inl x2)] [] h else EX d 260 20 [(0, .inr (.inr a0)), (1, .inl x1), (2, .inl x2)] [] h := (EX_at bk_Hook_oneOut_15 _ _ _).trans rfl
theorem bk_Hook_oneOut_20 : blk 260 20 = some (((cd_Hook_oneOut.lookup 20).getD ([], 0, []))) := rfl
theorem Hook_oneOut_20 (d : Nat) (a0 : Nat) (x1 : Int) (x2 : Int) (h : Hp) : EX d 260 20 [(0, .inr (.inr a0)), (1, .inl x1), (2, .inl x2)] [] h = if (wr x2) = (-1) then EX d 260 28 [(0, .inr (.inr a0)), (1, .inl x1), (2, .inl x2)] [] h else EX d 260 25 [] [] h := (EX_at bk_Hook_oneOut_20 _ _ _).trans rfl
theorem bk_Hook_oneOut_25 : blk 260 25 = some (((cd_Hook_oneOut.lookup 25).getD ([], 0, []))) := rfl
theorem Hook_oneOut_25 (d : Nat) (h : Hp) : EX d 260 25 [] [] h = some (.inl (-3), h) := (EX_at bk_Hook_oneOut_25 _ _ _).trans rfl
theorem bk_Hook_oneOut_28 : blk 260 28 = some (((cd_Hook_oneOut.lookup 28).getD ([], 0, []))) := rfl
theorem Hook_oneOut_28 (d : Nat) (a0 : Nat) (x1 : Int) (x2 : Int) (h : Hp) : EX d 260 28 [(0, .inr (.inr a0)), (1, .inl x1), (2, .inl x2)] [] h = if sK h a0 = 10 then if sK h (hR h a0 5) = 9 then bak (EX d 260) 37 [] [] false (cal d 259 [.inr (.inr (hR h a0 5)), .inl x1, .inl x2] h) else none else none := (EX_at bk_Hook_oneOut_28 _ _ _).trans rfl
theorem bk_Hook_oneOut_37 : blk 260 37 = some (((cd_Hook_oneOut.lookup 37).getD ([], 0, []))) := rfl
theorem Hook_oneOut_37 (d : Nat) (s0 : Int) (h : Hp) : EX d 260 37 [] [.inl s0] h = some (.inl s0, h) := (EX_at bk_Hook_oneOut_37 _ _ _).trans rfl
/-! out(II)I of HookOver: method 263 -/
theorem bk_Hook_out_0 : blk 263 0 = some (((cd_Hook_out.lookup 0).getD ([], 0, []))) := rfl
theorem Hook_out_0 (d : Nat) (a0 : Nat) (x1 : Int) (x2 : Int) (h : Hp) : EX d 263 0 [(0, .inr (.inr a0)), (1, .inl x1), (2, .inl x2)] [] h = if (wr x2) = 0 then EX d 263 12 [(0, .inr (.inr a0)), (1, .inl x1), (2, .inl x2)] [] h else EX d 263 4 [(0, .inr (.inr a0)), (1, .inl x1), (2, .inl x2)] [] h := (EX_at bk_Hook_out_0 _ _ _).trans rfl
theorem bk_Hook_out_4 : blk 263 4 = some (((cd_Hook_out.lookup 4).getD ([], 0, []))) := rfl
theorem Hook_out_4 (d : Nat) (a0 : Nat) (x1 : Int) (x2 : Int) (h : Hp) : EX d 263 4 [(0, .inr (.inr a0)), (1, .inl x1), (2, .inl x2)] [] h = if (wr x2) = 1 then EX d 263 12 [(0, .inr (.inr a0)), (1, .inl x1), (2, .inl x2)] [] h else EX d 263 9 [] [] h := (EX_at bk_Hook_out_4 _ _ _).trans rfl
theorem bk_Hook_out_9 : blk 263 9 = some (((cd_Hook_out.lookup 9).getD ([], 0, []))) := rfl
theorem Hook_out_9 (d : Nat) (h : Hp) : EX d 263 9 [] [] h = some (.inl (-2), h) := (EX_at bk_Hook_out_9 _ _ _).trans rfl
theorem bk_Hook_out_12 : blk 263 12 = some (((cd_Hook_out.lookup 12).getD ([], 0, []))) := rfl
theorem Hook_out_12 (d : Nat) (a0 : Nat) (x1 : Int) (x2 : Int) (h : Hp) : EX d 263 12 [(0, .inr (.inr a0)), (1, .inl x1), (2, .inl x2)] [] h = if (wr x1) = 1 then EX d 263 25 [(0, .inr (.inr a0)), (1, .inl x1), (2, .inl x2)] [] h else EX d 263 17 [(0, .inr (.inr a0)), (1, .inl x1), (2, .inl x2)] [] h := (EX_at bk_Hook_out_12 _ _ _).trans rfl
theorem bk_Hook_out_17 : blk 263 17 = some (((cd_Hook_out.lookup 17).getD ([], 0, []))) := rfl
theorem Hook_out_17 (d : Nat) (a0 : Nat) (x1 : Int) (x2 : Int) (h : Hp) : EX d 263 17 [(0, .inr (.inr a0)), (1, .inl x1), (2, .inl x2)] [] h = if (wr x1) = (-1) then EX d 263 25 [(0, .inr (.inr a0)), (1, .inl x1), (2, .inl x2)] [] h else EX d 263 22 [] [] h := (EX_at bk_Hook_out_17 _ _ _).trans rfl
theorem bk_Hook_out_22 : blk 263 22 = some (((cd_Hook_out.lookup 22).getD ([], 0, []))) := rfl
theorem Hook_out_22 (d : Nat) (h : Hp) : EX d 263 22 [] [] h = some (.inl (-3), h) := (EX_at bk_Hook_out_22 _ _ _).trans rfl
theorem bk_Hook_out_25 : blk 263 25 = some (((cd_Hook_out.lookup 25).getD ([], 0, []))) := rfl
theorem Hook_out_25 (d : Nat) (a0 : Nat) (x1 : Int) (x2 : Int) (h : Hp) : EX d 263 25 [(0, .inr (.inr a0)), (1, .inl x1), (2, .inl x2)] [] h = if sK h a0 = 10 then if sK h (hR h a0 5) = 9 then bak (EX d 263) 36 [(0, .inr (.inr a0)), (1, .inl x1), (2, .inl x2), (3, .inl 0)] [] false (cal d 259 [.inr (.inr (hR h a0 5)), .inl 0, .inl x1] h) else none else none := (EX_at bk_Hook_out_25 _ _ _).trans rfl
theorem bk_Hook_out_36 : blk 263 36 = some (((cd_Hook_out.lookup 36).getD ([], 0, []))) := rfl
theorem Hook_out_36 (d : Nat) (a0 : Nat) (x1 : Int) (x2 : Int) (x3 : Int) (s0 : Int) (h : Hp) : EX d 263 36 [(0, .inr (.inr a0)), (1, .inl x1), (2, .inl x2), (3, .inl x3)] [.inl s0] h = EX d 263 41 [(0, .inr (.inr a0)), (1, .inl x1), (2, .inl x2), (3, .inl x3), (4, .inl s0), (5, .inl 1)] [] h := (EX_at bk_Hook_out_36 _ _ _).trans rfl
theorem bk_Hook_out_41 : blk 263 41 = some (((cd_Hook_out.lookup 41).getD ([], 0, []))) := rfl
theorem Hook_out_41 (d : Nat) (a0 : Nat) (x1 : Int) (x2 : Int) (x3 : Int) (x4 : Int) (x5 : Int) (h : Hp) : EX d 263 41 [(0, .inr (.inr a0)), (1, .inl x1), (2, .inl x2), (3, .inl x3), (4, .inl x4), (5, .inl x5)] [] h = if sK h a0 = 10 then if sK h (hR h a0 5) = 9 then if (wr (hI h (hR h a0 5) 5)) < (wr x5) then EX d 263 85 [(2, .inl x2), (3, .inl x3), (4, .inl x4)] [] h else EX d 263 53 [(0, .inr (.inr a0)), (1, .inl x1), (2, .inl x2), (3, .inl x3), (4, .inl x4), (5, .inl x5)] [] h else none else none := (EX_at bk_Hook_out_41 _ _ _).trans rfl
theorem bk_Hook_out_53 : blk 263 53 = some (((cd_Hook_out.lookup 53).getD ([], 0, []))) := rfl
theorem Hook_out_53 (d : Nat) (a0 : Nat) (x1 : Int) (x2 : Int) (x3 : Int) (x4 : Int) (x5 : Int) (h : Hp) : EX d 263 53 [(0, .inr (.inr a0)), (1, .inl x1), (2, .inl x2), (3, .inl x3), (4, .inl x4), (5, .inl x5)] [] h = if sK h a0 = 10 then if sK h (hR h a0 5) = 9 then bak (EX d 263) 63 [(0, .inr (.inr a0)), (1, .inl x1), (2, .inl x2), (3, .inl x3), (4, .inl x4), (5, .inl x5)] [] false (cal d 259 [.inr (.inr (hR h a0 5)), .inl x5, .inl x1] h) else none else none := (EX_at bk_Hook_out_53 _ _ _).trans rfl
theorem bk_Hook_out_63 : blk 263 63 = some (((cd_Hook_out.lookup 63).getD ([], 0, []))) := rfl
theorem Hook_out_63 (d : Nat) (a0 : Nat) (x1 : Int) (x2 : Int) (x3 : Int) (x4 : Int) (x5 : Int) (s0 : Int) (h : Hp) : EX d 263 63 [(0, .inr (.inr a0)), (1, .inl x1), (2, .inl x2), (3, .inl x3), (4, .inl x4), (5, .inl x5)] [.inl s0] h = if (wr x4) < (wr s0) then EX d 263 72 [(0, .inr (.inr a0)), (1, .inl x1), (2, .inl x2), (5, .inl x5), (6, .inl s0)] [] h else EX d 263 79 [(0, .inr (.inr a0)), (1, .inl x1), (2, .inl x2), (3, .inl x3), (4, .inl x4), (5, .inl x5)] [] h := (EX_at bk_Hook_out_63 _ _ _).trans rfl
theorem bk_Hook_out_72 : blk 263 72 = some (((cd_Hook_out.lookup 72).getD ([], 0, []))) := rfl
theorem Hook_out_72 (d : Nat) (a0 : Nat) (x1 : Int) (x2 : Int) (x5 : Int) (x6 : Int) (h : Hp) : EX d 263 72 [(0, .inr (.inr a0)), (1, .inl x1), (2, .inl x2), (5, .inl x5), (6, .inl x6)] [] h = EX d 263 79 [(0, .inr (.inr a0)), (1, .inl x1), (2, .inl x2), (3, .inl x5), (4, .inl x6), (5, .inl x5)] [] h := (EX_at bk_Hook_out_72 _ _ _).trans rfl
theorem bk_Hook_out_79 : blk 263 79 = some (((cd_Hook_out.lookup 79).getD ([], 0, []))) := rfl
theorem Hook_out_79 (d : Nat) (a0 : Nat) (x1 : Int) (x2 : Int) (x3 : Int) (x4 : Int) (x5 : Int) (h : Hp) : EX d 263 79 [(0, .inr (.inr a0)), (1, .inl x1), (2, .inl x2), (3, .inl x3), (4, .inl x4), (5, .inl x5)] [] h = EX d 263 41 [(0, .inr (.inr a0)), (1, .inl x1), (2, .inl x2), (3, .inl x3), (4, .inl x4), (5, .inl (x5 + 1))] [] h := (EX_at bk_Hook_out_79 _ _ _).trans rfl
theorem bk_Hook_out_85 : blk 263 85 = some (((cd_Hook_out.lookup 85).getD ([], 0, []))) := rfl
theorem Hook_out_85 (d : Nat) (x2 : Int) (x3 : Int) (x4 : Int) (h : Hp) : EX d 263 85 [(2, .inl x2), (3, .inl x3), (4, .inl x4)] [] h = if (wr x2) = 0 then EX d 263 89 [(3, .inl x3)] [] h else EX d 263 93 [(4, .inl x4)] [] h := (EX_at bk_Hook_out_85 _ _ _).trans rfl
theorem bk_Hook_out_89 : blk 263 89 = some (((cd_Hook_out.lookup 89).getD ([], 0, []))) := rfl
theorem Hook_out_89 (d : Nat) (x3 : Int) (h : Hp) : EX d 263 89 [(3, .inl x3)] [] h = EX d 263 95 [] [.inl x3] h := (EX_at bk_Hook_out_89 _ _ _).trans rfl
theorem bk_Hook_out_93 : blk 263 93 = some (((cd_Hook_out.lookup 93).getD ([], 0, []))) := rfl
theorem Hook_out_93 (d : Nat) (x4 : Int) (h : Hp) : EX d 263 93 [(4, .inl x4)] [] h = EX d 263 95 [] [.inl x4] h := (EX_at bk_Hook_out_93 _ _ _).trans rfl
theorem bk_Hook_out_95 : blk 263 95 = some (((cd_Hook_out.lookup 95).getD ([], 0, []))) := rfl
theorem Hook_out_95 (d : Nat) (s0 : Int) (h : Hp) : EX d 263 95 [] [.inl s0] h = some (.inl s0, h) := (EX_at bk_Hook_out_95 _ _ _).trans rfl
/-! sightCode(I)I of HookOver: method 267 -/
theorem bk_Hook_sightCode_0 : blk 267 0 = some (((cd_Hook_sightCode.lookup 0).getD ([], 0, []))) := rfl
theorem Hook_sightCode_0 (d : Nat) (a0 : Nat) (x1 : Int) (h : Hp) : EX d 267 0 [(0, .inr (.inr a0)), (1, .inl x1)] [] h = if sK h a0 = 10 then bak (EX d 267) 5 [(0, .inr (.inr a0)), (1, .inl x1)] [] false (cal d 169 [.inr (.inr a0), .inl x1] h) else none := (EX_at bk_Hook_sightCode_0 _ _ _).trans rfl
theorem bk_Hook_sightCode_5 : blk 267 5 = some (((cd_Hook_sightCode.lookup 5).getD ([], 0, []))) := rfl
theorem Hook_sightCode_5 (d : Nat) (a0 : Nat) (x1 : Int) (s0 : Int) (h : Hp) : EX d 267 5 [(0, .inr (.inr a0)), (1, .inl x1)] [.inl s0] h = if (wr s0) = 0 then EX d 267 12 [(0, .inr (.inr a0)), (1, .inl x1)] [] h else EX d 267 10 [(2, .inl s0)] [] h := (EX_at bk_Hook_sightCode_5 _ _ _).trans rfl
theorem bk_Hook_sightCode_10 : blk 267 10 = some (((cd_Hook_sightCode.lookup 10).getD ([], 0, []))) := rfl
theorem Hook_sightCode_10 (d : Nat) (x2 : Int) (h : Hp) : EX d 267 10 [(2, .inl x2)] [] h = some (.inl x2, h) := (EX_at bk_Hook_sightCode_10 _ _ _).trans rfl
theorem bk_Hook_sightCode_12 : blk 267 12 = some (((cd_Hook_sightCode.lookup 12).getD ([], 0, []))) := rfl
theorem Hook_sightCode_12 (d : Nat) (a0 : Nat) (x1 : Int) (h : Hp) : EX d 267 12 [(0, .inr (.inr a0)), (1, .inl x1)] [] h = if sK h a0 = 10 then if okx h (hR h a0 10) 24 x1 then if sK h (hR h (hR h a0 10) (ix x1)) = 7 then if sK h a0 = 10 then if sK h (hR h a0 5) = 9 then bak (EX d 267) 30 [(3, .inr (.inr (hR h (hR h a0 10) (ix x1))))] [.inl (hI h (hR h (hR h a0 10) (ix x1)) 2)] false (cal d 265 [.inr (.inr (hR h a0 5))] h) else none else none else none else none else none := (EX_at bk_Hook_sightCode_12 _ _ _).trans rfl
theorem bk_Hook_sightCode_30 : blk 267 30 = some (((cd_Hook_sightCode.lookup 30).getD ([], 0, []))) := rfl
theorem Hook_sightCode_30 (d : Nat) (a3 : Nat) (s0 : Int) (s1 : Int) (h : Hp) : EX d 267 30 [(3, .inr (.inr a3))] [.inl s1, .inl s0] h = if (wr s0) = (wr s1) then EX d 267 36 [(3, .inr (.inr a3))] [] h else EX d 267 33 [] [] h := (EX_at bk_Hook_sightCode_30 _ _ _).trans rfl
theorem bk_Hook_sightCode_33 : blk 267 33 = some (((cd_Hook_sightCode.lookup 33).getD ([], 0, []))) := rfl
theorem Hook_sightCode_33 (d : Nat) (h : Hp) : EX d 267 33 [] [] h = some (.inl (-4), h) := (EX_at bk_Hook_sightCode_33 _ _ _).trans rfl
theorem bk_Hook_sightCode_36 : blk 267 36 = some (((cd_Hook_sightCode.lookup 36).getD ([], 0, []))) := rfl
theorem Hook_sightCode_36 (d : Nat) (a3 : Nat) (h : Hp) : EX d 267 36 [(3, .inr (.inr a3))] [] h = if sK h a3 = 7 then bak (EX d 267) 40 [] [] false (cal d 266 [.inr (.inr a3)] h) else none := (EX_at bk_Hook_sightCode_36 _ _ _).trans rfl
theorem bk_Hook_sightCode_40 : blk 267 40 = some (((cd_Hook_sightCode.lookup 40).getD ([], 0, []))) := rfl
theorem Hook_sightCode_40 (d : Nat) (t0 : Int) (h : Hp) : EX d 267 40 [] [.inr (.inl t0)] h = if (wr (lCmp t0 (-2))) < 0 then EX d 267 47 [] [] h else EX d 267 52 [] [] h := (EX_at bk_Hook_sightCode_40 _ _ _).trans rfl
theorem bk_Hook_sightCode_47 : blk 267 47 = some (((cd_Hook_sightCode.lookup 47).getD ([], 0, []))) := rfl
theorem Hook_sightCode_47 (d : Nat) (h : Hp) : EX d 267 47 [] [] h = EX d 267 53 [] [.inl (-3)] h := (EX_at bk_Hook_sightCode_47 _ _ _).trans rfl
theorem bk_Hook_sightCode_52 : blk 267 52 = some (((cd_Hook_sightCode.lookup 52).getD ([], 0, []))) := rfl
theorem Hook_sightCode_52 (d : Nat) (h : Hp) : EX d 267 52 [] [] h = EX d 267 53 [] [.inl 0] h := (EX_at bk_Hook_sightCode_52 _ _ _).trans rfl
theorem bk_Hook_sightCode_53 : blk 267 53 = some (((cd_Hook_sightCode.lookup 53).getD ([], 0, []))) := rfl
theorem Hook_sightCode_53 (d : Nat) (s0 : Int) (h : Hp) : EX d 267 53 [] [.inl s0] h = some (.inl s0, h) := (EX_at bk_Hook_sightCode_53 _ _ _).trans rfl
/-! seen(I)J of HookOver: method 276 -/
theorem bk_Hook_seen_0 : blk 276 0 = some (((cd_Hook_seen.lookup 0).getD ([], 0, []))) := rfl
theorem Hook_seen_0 (d : Nat) (a0 : Nat) (x1 : Int) (h : Hp) : EX d 276 0 [(0, .inr (.inr a0)), (1, .inl x1)] [] h = if sK h a0 = 10 then bak (EX d 276) 5 [(0, .inr (.inr a0)), (1, .inl x1)] [] false (cal d 267 [.inr (.inr a0), .inl x1] h) else none := (EX_at bk_Hook_seen_0 _ _ _).trans rfl
theorem bk_Hook_seen_5 : blk 276 5 = some (((cd_Hook_seen.lookup 5).getD ([], 0, []))) := rfl
theorem Hook_seen_5 (d : Nat) (a0 : Nat) (x1 : Int) (s0 : Int) (h : Hp) : EX d 276 5 [(0, .inr (.inr a0)), (1, .inl x1)] [.inl s0] h = if (wr s0) = 0 then EX d 276 13 [(0, .inr (.inr a0)), (1, .inl x1)] [] h else EX d 276 10 [(2, .inl s0)] [] h := (EX_at bk_Hook_seen_5 _ _ _).trans rfl
theorem bk_Hook_seen_10 : blk 276 10 = some (((cd_Hook_seen.lookup 10).getD ([], 0, []))) := rfl
theorem Hook_seen_10 (d : Nat) (x2 : Int) (h : Hp) : EX d 276 10 [(2, .inl x2)] [] h = some (.inr (.inl (wr x2)), h) := (EX_at bk_Hook_seen_10 _ _ _).trans rfl
theorem bk_Hook_seen_13 : blk 276 13 = some (((cd_Hook_seen.lookup 13).getD ([], 0, []))) := rfl
theorem Hook_seen_13 (d : Nat) (a0 : Nat) (x1 : Int) (h : Hp) : EX d 276 13 [(0, .inr (.inr a0)), (1, .inl x1)] [] h = if sK h a0 = 10 then if sK h a0 = 10 then if sK h (hR h a0 14) = 2 then bak (EX d 276) 24 [(0, .inr (.inr a0)), (1, .inl x1)] [] true (cal d 183 [.inr (.inr (hR h a0 14)), .inr (.inr (hR h a0 5))] h) else none else none else none := (EX_at bk_Hook_seen_13 _ _ _).trans rfl
theorem bk_Hook_seen_24 : blk 276 24 = some (((cd_Hook_seen.lookup 24).getD ([], 0, []))) := rfl
theorem Hook_seen_24 (d : Nat) (a0 : Nat) (x1 : Int) (h : Hp) : EX d 276 24 [(0, .inr (.inr a0)), (1, .inl x1)] [] h = if sK h a0 = 10 then if sK h a0 = 10 then if sK h a0 = 10 then if okx h (hR h a0 10) 24 x1 then if sK h a0 = 10 then if sK h (hR h a0 14) = 2 then if sK h a0 = 10 then if sK h (hR h a0 16) = 8 then bak (EX d 276) 52 [] [] false (cal d 275 [.inr (.inr (hR h a0 16)), .inr (.inr (hR h a0 5)), .inr (.inr (hR h (hR h a0 10) (ix x1))), .inl (hI h (hR h a0 14) 2), .inr (.inr (hR h a0 17))] h) else none else none else none else none else none else none else none else none := (EX_at bk_Hook_seen_24 _ _ _).trans rfl
theorem bk_Hook_seen_52 : blk 276 52 = some (((cd_Hook_seen.lookup 52).getD ([], 0, []))) := rfl
theorem Hook_seen_52 (d : Nat) (s0 : Int) (h : Hp) : EX d 276 52 [] [.inl s0] h = some (.inr (.inl (wr s0)), h) := (EX_at bk_Hook_seen_52 _ _ _).trans rfl
/-! sure(II)I of HookOver: method 283 -/
theorem bk_Hook_sure_0 : blk 283 0 = some (((cd_Hook_sure.lookup 0).getD ([], 0, []))) := rfl
theorem Hook_sure_0 (d : Nat) (a0 : Nat) (x1 : Int) (x2 : Int) (h : Hp) : EX d 283 0 [(0, .inr (.inr a0)), (1, .inl x1), (2, .inl x2)] [] h = if sK h a0 = 10 then if sK h (hR h a0 5) = 9 then bak (EX d 283) 8 [(0, .inr (.inr a0)), (1, .inl x1), (2, .inl x2)] [] false (cal d 37 [.inr (.inr (hR h a0 5)), .inl x2] h) else none else none := (EX_at bk_Hook_sure_0 _ _ _).trans rfl
theorem bk_Hook_sure_8 : blk 283 8 = some (((cd_Hook_sure.lookup 8).getD ([], 0, []))) := rfl
theorem Hook_sure_8 (d : Nat) (a0 : Nat) (x1 : Int) (x2 : Int) (s0 : Int) (h : Hp) : EX d 283 8 [(0, .inr (.inr a0)), (1, .inl x1), (2, .inl x2)] [.inl s0] h = if (wr s0) = 0 then EX d 283 11 [] [] h else EX d 283 14 [(0, .inr (.inr a0)), (1, .inl x1), (2, .inl x2)] [] h := (EX_at bk_Hook_sure_8 _ _ _).trans rfl
theorem bk_Hook_sure_11 : blk 283 11 = some (((cd_Hook_sure.lookup 11).getD ([], 0, []))) := rfl
theorem Hook_sure_11 (d : Nat) (h : Hp) : EX d 283 11 [] [] h = some (.inl (-2), h) := (EX_at bk_Hook_sure_11 _ _ _).trans rfl
theorem bk_Hook_sure_14 : blk 283 14 = some (((cd_Hook_sure.lookup 14).getD ([], 0, []))) := rfl
theorem Hook_sure_14 (d : Nat) (a0 : Nat) (x1 : Int) (x2 : Int) (h : Hp) : EX d 283 14 [(0, .inr (.inr a0)), (1, .inl x1), (2, .inl x2)] [] h = if sK h a0 = 10 then bak (EX d 283) 19 [(0, .inr (.inr a0)), (1, .inl x1), (2, .inl x2)] [] false (cal d 267 [.inr (.inr a0), .inl x1] h) else none := (EX_at bk_Hook_sure_14 _ _ _).trans rfl
theorem bk_Hook_sure_19 : blk 283 19 = some (((cd_Hook_sure.lookup 19).getD ([], 0, []))) := rfl
theorem Hook_sure_19 (d : Nat) (a0 : Nat) (x1 : Int) (x2 : Int) (s0 : Int) (h : Hp) : EX d 283 19 [(0, .inr (.inr a0)), (1, .inl x1), (2, .inl x2)] [.inl s0] h = if (wr s0) = 0 then EX d 283 26 [(0, .inr (.inr a0)), (1, .inl x1), (2, .inl x2)] [] h else EX d 283 24 [(3, .inl s0)] [] h := (EX_at bk_Hook_sure_19 _ _ _).trans rfl
theorem bk_Hook_sure_24 : blk 283 24 = some (((cd_Hook_sure.lookup 24).getD ([], 0, []))) := rfl
theorem Hook_sure_24 (d : Nat) (x3 : Int) (h : Hp) : EX d 283 24 [(3, .inl x3)] [] h = some (.inl x3, h) := (EX_at bk_Hook_sure_24 _ _ _).trans rfl
theorem bk_Hook_sure_26 : blk 283 26 = some (((cd_Hook_sure.lookup 26).getD ([], 0, []))) := rfl
theorem Hook_sure_26 (d : Nat) (a0 : Nat) (x1 : Int) (x2 : Int) (h : Hp) : EX d 283 26 [(0, .inr (.inr a0)), (1, .inl x1), (2, .inl x2)] [] h = if sK h a0 = 10 then if sK h a0 = 10 then if sK h (hR h a0 14) = 2 then bak (EX d 283) 37 [(0, .inr (.inr a0)), (1, .inl x1), (2, .inl x2)] [] true (cal d 183 [.inr (.inr (hR h a0 14)), .inr (.inr (hR h a0 5))] h) else none else none else none := (EX_at bk_Hook_sure_26 _ _ _).trans rfl
theorem bk_Hook_sure_37 : blk 283 37 = some (((cd_Hook_sure.lookup 37).getD ([], 0, []))) := rfl
theorem Hook_sure_37 (d : Nat) (a0 : Nat) (x1 : Int) (x2 : Int) (h : Hp) : EX d 283 37 [(0, .inr (.inr a0)), (1, .inl x1), (2, .inl x2)] [] h = if sK h a0 = 10 then if sK h a0 = 10 then if sK h a0 = 10 then if okx h (hR h a0 10) 24 x1 then if sK h a0 = 10 then if sK h (hR h a0 14) = 2 then if sK h a0 = 10 then if sK h (hR h a0 16) = 8 then bak (EX d 283) 65 [(0, .inr (.inr a0)), (2, .inl x2)] [] false (cal d 275 [.inr (.inr (hR h a0 16)), .inr (.inr (hR h a0 5)), .inr (.inr (hR h (hR h a0 10) (ix x1))), .inl (hI h (hR h a0 14) 2), .inr (.inr (hR h a0 17))] h) else none else none else none else none else none else none else none else none := (EX_at bk_Hook_sure_37 _ _ _).trans rfl
theorem bk_Hook_sure_65 : blk 283 65 = some (((cd_Hook_sure.lookup 65).getD ([], 0, []))) := rfl
theorem Hook_sure_65 (d : Nat) (a0 : Nat) (x2 : Int) (s0 : Int) (h : Hp) : EX d 283 65 [(0, .inr (.inr a0)), (2, .inl x2)] [.inl s0] h = if sK h a0 = 10 then if sK h a0 = 10 then if sK h a0 = 10 then if sK h (hR h a0 14) = 2 then if sK h a0 = 10 then if sK h (hR h a0 16) = 8 then bak (EX d 283) 92 [] [] false (cal d 282 [.inr (.inr (hR h a0 16)), .inr (.inr (hR h a0 5)), .inl x2, .inl s0, .inl (hI h (hR h a0 14) 2), .inr (.inr (hR h a0 17))] h) else none else none else none else none else none else none := (EX_at bk_Hook_sure_65 _ _ _).trans rfl
theorem bk_Hook_sure_92 : blk 283 92 = some (((cd_Hook_sure.lookup 92).getD ([], 0, []))) := rfl
theorem Hook_sure_92 (d : Nat) (s0 : Int) (h : Hp) : EX d 283 92 [] [.inl s0] h = some (.inl s0, h) := (EX_at bk_Hook_sure_92 _ _ _).trans rfl
/-! numbers(III)I of HookOver: method 287 -/
theorem bk_Hook_numbers_0 : blk 287 0 = some (((cd_Hook_numbers.lookup 0).getD ([], 0, []))) := rfl
theorem Hook_numbers_0 (d : Nat) (a0 : Nat) (x1 : Int) (x2 : Int) (x3 : Int) (h : Hp) : EX d 287 0 [(0, .inr (.inr a0)), (1, .inl x1), (2, .inl x2), (3, .inl x3)] [] h = bak (EX d 287) 4 [(0, .inr (.inr a0)), (1, .inl x1), (2, .inl x2), (3, .inl x3)] [] false (cal d 156 [.inl x1] h) := (EX_at bk_Hook_numbers_0 _ _ _).trans rfl
theorem bk_Hook_numbers_4 : blk 287 4 = some (((cd_Hook_numbers.lookup 4).getD ([], 0, []))) := rfl
theorem Hook_numbers_4 (d : Nat) (a0 : Nat) (x1 : Int) (x2 : Int) (x3 : Int) (s0 : Int) (h : Hp) : EX d 287 4 [(0, .inr (.inr a0)), (1, .inl x1), (2, .inl x2), (3, .inl x3)] [.inl s0] h = if (wr s0) = 0 then EX d 287 16 [] [] h else EX d 287 7 [(0, .inr (.inr a0)), (1, .inl x1), (2, .inl x2), (3, .inl x3)] [] h := (EX_at bk_Hook_numbers_4 _ _ _).trans rfl
theorem bk_Hook_numbers_7 : blk 287 7 = some (((cd_Hook_numbers.lookup 7).getD ([], 0, []))) := rfl
theorem Hook_numbers_7 (d : Nat) (a0 : Nat) (x1 : Int) (x2 : Int) (x3 : Int) (h : Hp) : EX d 287 7 [(0, .inr (.inr a0)), (1, .inl x1), (2, .inl x2), (3, .inl x3)] [] h = if (wr x2) < 0 then EX d 287 16 [] [] h else EX d 287 11 [(0, .inr (.inr a0)), (1, .inl x1), (2, .inl x2), (3, .inl x3)] [] h := (EX_at bk_Hook_numbers_7 _ _ _).trans rfl
theorem bk_Hook_numbers_11 : blk 287 11 = some (((cd_Hook_numbers.lookup 11).getD ([], 0, []))) := rfl
theorem Hook_numbers_11 (d : Nat) (a0 : Nat) (x1 : Int) (x2 : Int) (x3 : Int) (h : Hp) : EX d 287 11 [(0, .inr (.inr a0)), (1, .inl x1), (2, .inl x2), (3, .inl x3)] [] h = if 3 < (wr x2) then EX d 287 16 [] [] h else EX d 287 19 [(0, .inr (.inr a0)), (1, .inl x1), (2, .inl x2), (3, .inl x3)] [] h := (EX_at bk_Hook_numbers_11 _ _ _).trans rfl
theorem bk_Hook_numbers_16 : blk 287 16 = some (((cd_Hook_numbers.lookup 16).getD ([], 0, []))) := rfl
theorem Hook_numbers_16 (d : Nat) (h : Hp) : EX d 287 16 [] [] h = some (.inl (-2), h) := (EX_at bk_Hook_numbers_16 _ _ _).trans rfl
theorem bk_Hook_numbers_19 : blk 287 19 = some (((cd_Hook_numbers.lookup 19).getD ([], 0, []))) := rfl
theorem Hook_numbers_19 (d : Nat) (a0 : Nat) (x1 : Int) (x2 : Int) (x3 : Int) (h : Hp) : EX d 287 19 [(0, .inr (.inr a0)), (1, .inl x1), (2, .inl x2), (3, .inl x3)] [] h = if (wr x3) < 0 then EX d 287 29 [] [] h else EX d 287 23 [(0, .inr (.inr a0)), (1, .inl x1), (2, .inl x2), (3, .inl x3)] [] h := (EX_at bk_Hook_numbers_19 _ _ _).trans rfl
theorem bk_Hook_numbers_23 : blk 287 23 = some (((cd_Hook_numbers.lookup 23).getD ([], 0, []))) := rfl
theorem Hook_numbers_23 (d : Nat) (a0 : Nat) (x1 : Int) (x2 : Int) (x3 : Int) (h : Hp) : EX d 287 23 [(0, .inr (.inr a0)), (1, .inl x1), (2, .inl x2), (3, .inl x3)] [] h = if 40 < (wr x3) then EX d 287 29 [] [] h else EX d 287 32 [(0, .inr (.inr a0)), (1, .inl x1), (2, .inl x2), (3, .inl x3)] [] h := (EX_at bk_Hook_numbers_23 _ _ _).trans rfl
theorem bk_Hook_numbers_29 : blk 287 29 = some (((cd_Hook_numbers.lookup 29).getD ([], 0, []))) := rfl
theorem Hook_numbers_29 (d : Nat) (h : Hp) : EX d 287 29 [] [] h = some (.inl (-3), h) := (EX_at bk_Hook_numbers_29 _ _ _).trans rfl
theorem bk_Hook_numbers_32 : blk 287 32 = some (((cd_Hook_numbers.lookup 32).getD ([], 0, []))) := rfl
theorem Hook_numbers_32 (d : Nat) (a0 : Nat) (x1 : Int) (x2 : Int) (x3 : Int) (h : Hp) : EX d 287 32 [(0, .inr (.inr a0)), (1, .inl x1), (2, .inl x2), (3, .inl x3)] [] h = if sK h a0 = 10 then if okx h (hR h a0 10) 24 x1 then if sK h (hR h (hR h a0 10) (ix x1)) = 7 then bak (EX d 287) 43 [] [] true (cal d 286 [.inr (.inr (hR h (hR h a0 10) (ix x1))), .inl x2, .inl x3] h) else none else none else none := (EX_at bk_Hook_numbers_32 _ _ _).trans rfl
theorem bk_Hook_numbers_43 : blk 287 43 = some (((cd_Hook_numbers.lookup 43).getD ([], 0, []))) := rfl
theorem Hook_numbers_43 (d : Nat) (h : Hp) : EX d 287 43 [] [] h = some (.inl 0, h) := (EX_at bk_Hook_numbers_43 _ _ _).trans rfl
/-! write(IIJ)J of HookOver: method 291 -/
theorem bk_Hook_write_0 : blk 291 0 = some (((cd_Hook_write.lookup 0).getD ([], 0, []))) := rfl
theorem Hook_write_0 (d : Nat) (a0 : Nat) (x1 : Int) (x2 : Int) (y3 : Int) (h : Hp) : EX d 291 0 [(0, .inr (.inr a0)), (1, .inl x1), (2, .inl x2), (3, .inr (.inl y3))] [] h = if sK h a0 = 10 then bak (EX d 291) 5 [(0, .inr (.inr a0)), (1, .inl x1), (2, .inl x2), (3, .inr (.inl y3))] [] false (cal d 169 [.inr (.inr a0), .inl x1] h) else none := (EX_at bk_Hook_write_0 _ _ _).trans rfl
theorem bk_Hook_write_5 : blk 291 5 = some (((cd_Hook_write.lookup 5).getD ([], 0, []))) := rfl
theorem Hook_write_5 (d : Nat) (a0 : Nat) (x1 : Int) (x2 : Int) (y3 : Int) (s0 : Int) (h : Hp) : EX d 291 5 [(0, .inr (.inr a0)), (1, .inl x1), (2, .inl x2), (3, .inr (.inl y3))] [.inl s0] h = if (wr s0) = 0 then EX d 291 16 [(0, .inr (.inr a0)), (1, .inl x1), (2, .inl x2), (3, .inr (.inl y3))] [] h else EX d 291 12 [(5, .inl s0)] [] h := (EX_at bk_Hook_write_5 _ _ _).trans rfl
theorem bk_Hook_write_12 : blk 291 12 = some (((cd_Hook_write.lookup 12).getD ([], 0, []))) := rfl
theorem Hook_write_12 (d : Nat) (x5 : Int) (h : Hp) : EX d 291 12 [(5, .inl x5)] [] h = some (.inr (.inl (wr x5)), h) := (EX_at bk_Hook_write_12 _ _ _).trans rfl
theorem bk_Hook_write_16 : blk 291 16 = some (((cd_Hook_write.lookup 16).getD ([], 0, []))) := rfl
theorem Hook_write_16 (d : Nat) (a0 : Nat) (x1 : Int) (x2 : Int) (y3 : Int) (h : Hp) : EX d 291 16 [(0, .inr (.inr a0)), (1, .inl x1), (2, .inl x2), (3, .inr (.inl y3))] [] h = if sK h a0 = 10 then if okx h (hR h a0 10) 24 x1 then if (wr x2) < 0 then EX d 291 37 [] [] h else EX d 291 28 [(2, .inl x2), (3, .inr (.inl y3)), (6, .inr (.inr (hR h (hR h a0 10) (ix x1))))] [] h else none else none := (EX_at bk_Hook_write_16 _ _ _).trans rfl
theorem bk_Hook_write_28 : blk 291 28 = some (((cd_Hook_write.lookup 28).getD ([], 0, []))) := rfl
theorem Hook_write_28 (d : Nat) (x2 : Int) (y3 : Int) (a6 : Nat) (h : Hp) : EX d 291 28 [(2, .inl x2), (3, .inr (.inl y3)), (6, .inr (.inr a6))] [] h = if sK h a6 = 7 then if (wr x2) < (wr (hI h a6 2)) then EX d 291 41 [(2, .inl x2), (3, .inr (.inl y3)), (6, .inr (.inr a6))] [] h else EX d 291 37 [] [] h else none := (EX_at bk_Hook_write_28 _ _ _).trans rfl
theorem bk_Hook_write_37 : blk 291 37 = some (((cd_Hook_write.lookup 37).getD ([], 0, []))) := rfl
theorem Hook_write_37 (d : Nat) (h : Hp) : EX d 291 37 [] [] h = some (.inr (.inl (-7)), h) := (EX_at bk_Hook_write_37 _ _ _).trans rfl
theorem bk_Hook_write_41 : blk 291 41 = some (((cd_Hook_write.lookup 41).getD ([], 0, []))) := rfl
theorem Hook_write_41 (d : Nat) (x2 : Int) (y3 : Int) (a6 : Nat) (h : Hp) : EX d 291 41 [(2, .inl x2), (3, .inr (.inl y3)), (6, .inr (.inr a6))] [] h = if sK h a6 = 7 then bak (EX d 291) 48 [] [] false (cal d 290 [.inr (.inr a6), .inl x2, .inr (.inl y3)] h) else none := (EX_at bk_Hook_write_41 _ _ _).trans rfl
theorem bk_Hook_write_48 : blk 291 48 = some (((cd_Hook_write.lookup 48).getD ([], 0, []))) := rfl
theorem Hook_write_48 (d : Nat) (t0 : Int) (h : Hp) : EX d 291 48 [] [.inr (.inl t0)] h = some (.inr (.inl t0), h) := (EX_at bk_Hook_write_48 _ _ _).trans rfl
/-! copy(I)I of HookOver: method 295 -/
theorem bk_Hook_copy_0 : blk 295 0 = some (((cd_Hook_copy.lookup 0).getD ([], 0, []))) := rfl
theorem Hook_copy_0 (d : Nat) (a0 : Nat) (x1 : Int) (h : Hp) : EX d 295 0 [(0, .inr (.inr a0)), (1, .inl x1)] [] h = if sK h a0 = 10 then bak (EX d 295) 5 [(0, .inr (.inr a0)), (1, .inl x1)] [] false (cal d 169 [.inr (.inr a0), .inl x1] h) else none := (EX_at bk_Hook_copy_0 _ _ _).trans rfl
theorem bk_Hook_copy_5 : blk 295 5 = some (((cd_Hook_copy.lookup 5).getD ([], 0, []))) := rfl
theorem Hook_copy_5 (d : Nat) (a0 : Nat) (x1 : Int) (s0 : Int) (h : Hp) : EX d 295 5 [(0, .inr (.inr a0)), (1, .inl x1)] [.inl s0] h = if (wr s0) = 0 then EX d 295 12 [(0, .inr (.inr a0)), (1, .inl x1)] [] h else EX d 295 10 [(2, .inl s0)] [] h := (EX_at bk_Hook_copy_5 _ _ _).trans rfl
theorem bk_Hook_copy_10 : blk 295 10 = some (((cd_Hook_copy.lookup 10).getD ([], 0, []))) := rfl
theorem Hook_copy_10 (d : Nat) (x2 : Int) (h : Hp) : EX d 295 10 [(2, .inl x2)] [] h = some (.inl x2, h) := (EX_at bk_Hook_copy_10 _ _ _).trans rfl
theorem bk_Hook_copy_12 : blk 295 12 = some (((cd_Hook_copy.lookup 12).getD ([], 0, []))) := rfl
theorem Hook_copy_12 (d : Nat) (a0 : Nat) (x1 : Int) (h : Hp) : EX d 295 12 [(0, .inr (.inr a0)), (1, .inl x1)] [] h = if sK h a0 = 10 then if okx h (hR h a0 10) 24 x1 then if sK h (hR h (hR h a0 10) (ix x1)) = 7 then if sK h a0 = 10 then if sK h (hR h a0 5) = 9 then bak (EX d 295) 30 [(0, .inr (.inr a0)), (3, .inr (.inr (hR h (hR h a0 10) (ix x1))))] [.inl (hI h (hR h (hR h a0 10) (ix x1)) 2)] false (cal d 265 [.inr (.inr (hR h a0 5))] h) else none else none else none else none else none := (EX_at bk_Hook_copy_12 _ _ _).trans rfl
theorem bk_Hook_copy_30 : blk 295 30 = some (((cd_Hook_copy.lookup 30).getD ([], 0, []))) := rfl
theorem Hook_copy_30 (d : Nat) (a0 : Nat) (a3 : Nat) (s0 : Int) (s1 : Int) (h : Hp) : EX d 295 30 [(0, .inr (.inr a0)), (3, .inr (.inr a3))] [.inl s1, .inl s0] h = bak (EX d 295) 33 [(0, .inr (.inr a0)), (3, .inr (.inr a3))] [] false (cal d 20 [.inl s0, .inl s1] h) := (EX_at bk_Hook_copy_30 _ _ _).trans rfl
theorem bk_Hook_copy_33 : blk 295 33 = some (((cd_Hook_copy.lookup 33).getD ([], 0, []))) := rfl
theorem Hook_copy_33 (d : Nat) (a0 : Nat) (a3 : Nat) (s0 : Int) (h : Hp) : EX d 295 33 [(0, .inr (.inr a0)), (3, .inr (.inr a3))] [.inl s0] h = EX d 295 38 [(0, .inr (.inr a0)), (3, .inr (.inr a3)), (4, .inl s0), (5, .inl 0)] [] h := (EX_at bk_Hook_copy_33 _ _ _).trans rfl
theorem bk_Hook_copy_38 : blk 295 38 = some (((cd_Hook_copy.lookup 38).getD ([], 0, []))) := rfl
theorem Hook_copy_38 (d : Nat) (a0 : Nat) (a3 : Nat) (x4 : Int) (x5 : Int) (h : Hp) : EX d 295 38 [(0, .inr (.inr a0)), (3, .inr (.inr a3)), (4, .inl x4), (5, .inl x5)] [] h = if (wr x5) < (wr x4) then EX d 295 45 [(0, .inr (.inr a0)), (3, .inr (.inr a3)), (4, .inl x4), (5, .inl x5)] [] h else EX d 295 72 [(4, .inl x4)] [] h := (EX_at bk_Hook_copy_38 _ _ _).trans rfl
theorem bk_Hook_copy_45 : blk 295 45 = some (((cd_Hook_copy.lookup 45).getD ([], 0, []))) := rfl
theorem Hook_copy_45 (d : Nat) (a0 : Nat) (a3 : Nat) (x4 : Int) (x5 : Int) (h : Hp) : EX d 295 45 [(0, .inr (.inr a0)), (3, .inr (.inr a3)), (4, .inl x4), (5, .inl x5)] [] h = if sK h a0 = 10 then if sK h a0 = 10 then if sK h (hR h a0 7) = 0 then bak (EX d 295) 61 [(0, .inr (.inr a0)), (3, .inr (.inr a3)), (4, .inl x4), (5, .inl x5)] [.inl x5, .inr (.inr a3)] false (cal d 294 [.inr (.inr (hR h a0 7)), .inr (.inr (hR h a0 5)), .inl x5] h) else none else none else none := (EX_at bk_Hook_copy_45 _ _ _).trans rfl
theorem bk_Hook_copy_61 : blk 295 61 = some (((cd_Hook_copy.lookup 61).getD ([], 0, []))) := rfl
theorem Hook_copy_61 (d : Nat) (a0 : Nat) (a3 : Nat) (x4 : Int) (x5 : Int) (r0 : Nat) (s1 : Int) (s2 : Int) (h : Hp) : EX d 295 61 [(0, .inr (.inr a0)), (3, .inr (.inr a3)), (4, .inl x4), (5, .inl x5)] [.inl s2, .inl s1, .inr (.inr r0)] h = if sK h r0 = 7 then bak (EX d 295) 65 [(0, .inr (.inr a0)), (3, .inr (.inr a3)), (4, .inl x4), (5, .inl x5)] [] false (cal d 290 [.inr (.inr r0), .inl s1, .inr (.inl (wr s2))] h) else none := (EX_at bk_Hook_copy_61 _ _ _).trans rfl
theorem bk_Hook_copy_65 : blk 295 65 = some (((cd_Hook_copy.lookup 65).getD ([], 0, []))) := rfl
theorem Hook_copy_65 (d : Nat) (a0 : Nat) (a3 : Nat) (x4 : Int) (x5 : Int) (t0 : Int) (h : Hp) : EX d 295 65 [(0, .inr (.inr a0)), (3, .inr (.inr a3)), (4, .inl x4), (5, .inl x5)] [.inr (.inl t0)] h = EX d 295 38 [(0, .inr (.inr a0)), (3, .inr (.inr a3)), (4, .inl x4), (5, .inl (x5 + 1))] [] h := (EX_at bk_Hook_copy_65 _ _ _).trans rfl
theorem bk_Hook_copy_72 : blk 295 72 = some (((cd_Hook_copy.lookup 72).getD ([], 0, []))) := rfl
theorem Hook_copy_72 (d : Nat) (x4 : Int) (h : Hp) : EX d 295 72 [(4, .inl x4)] [] h = some (.inl x4, h) := (EX_at bk_Hook_copy_72 _ _ _).trans rfl
/-! image(I)I of HookOver: method 299 -/
theorem bk_Hook_image_0 : blk 299 0 = some (((cd_Hook_image.lookup 0).getD ([], 0, []))) := rfl
theorem Hook_image_0 (d : Nat) (a0 : Nat) (x1 : Int) (h : Hp) : EX d 299 0 [(0, .inr (.inr a0)), (1, .inl x1)] [] h = if (wr x1) < 0 then EX d 299 9 [] [] h else EX d 299 4 [(0, .inr (.inr a0)), (1, .inl x1)] [] h := (EX_at bk_Hook_image_0 _ _ _).trans rfl
theorem bk_Hook_image_4 : blk 299 4 = some (((cd_Hook_image.lookup 4).getD ([], 0, []))) := rfl
theorem Hook_image_4 (d : Nat) (a0 : Nat) (x1 : Int) (h : Hp) : EX d 299 4 [(0, .inr (.inr a0)), (1, .inl x1)] [] h = if (wr x1) < 2 then EX d 299 12 [(0, .inr (.inr a0)), (1, .inl x1)] [] h else EX d 299 9 [] [] h := (EX_at bk_Hook_image_4 _ _ _).trans rfl
theorem bk_Hook_image_9 : blk 299 9 = some (((cd_Hook_image.lookup 9).getD ([], 0, []))) := rfl
theorem Hook_image_9 (d : Nat) (h : Hp) : EX d 299 9 [] [] h = some (.inl (-2), h) := (EX_at bk_Hook_image_9 _ _ _).trans rfl
theorem bk_Hook_image_12 : blk 299 12 = some (((cd_Hook_image.lookup 12).getD ([], 0, []))) := rfl
theorem Hook_image_12 (d : Nat) (a0 : Nat) (x1 : Int) (h : Hp) : EX d 299 12 [(0, .inr (.inr a0)), (1, .inl x1)] [] h = if sK h a0 = 10 then if okx h (hR h a0 11) 25 x1 then if sK h a0 = 10 then if sK h (hR h (hR h a0 11) (ix x1)) = 9 then bak (EX d 299) 25 [(0, .inr (.inr a0)), (1, .inl x1)] [] true (cal d 298 [.inr (.inr (hR h (hR h a0 11) (ix x1))), .inr (.inr (hR h a0 5))] h) else none else none else none else none := (EX_at bk_Hook_image_12 _ _ _).trans rfl
theorem bk_Hook_image_25 : blk 299 25 = some (((cd_Hook_image.lookup 25).getD ([], 0, []))) := rfl
theorem Hook_image_25 (d : Nat) (a0 : Nat) (x1 : Int) (h : Hp) : EX d 299 25 [(0, .inr (.inr a0)), (1, .inl x1)] [] h = if sK h a0 = 10 then if okx h (hR h a0 12) 26 x1 then if sK h a0 = 10 then if sK h (hR h (hR h a0 12) (ix x1)) = 0 then bak (EX d 299) 38 [(0, .inr (.inr a0)), (1, .inl x1)] [] true (cal d 69 [.inr (.inr (hR h (hR h a0 12) (ix x1))), .inr (.inr (hR h a0 7))] h) else none else none else none else none := (EX_at bk_Hook_image_25 _ _ _).trans rfl
theorem bk_Hook_image_38 : blk 299 38 = some (((cd_Hook_image.lookup 38).getD ([], 0, []))) := rfl
theorem Hook_image_38 (d : Nat) (a0 : Nat) (x1 : Int) (h : Hp) : EX d 299 38 [(0, .inr (.inr a0)), (1, .inl x1)] [] h = if sK h a0 = 10 then if (okx h (hR h a0 13) 23 x1 ∧ ((1 : Int) = 0 ∨ (1 : Int) = 1)) then EX d 299 45 [] [] (pI h (hR h a0 13) (ix x1) 1) else none else none := (EX_at bk_Hook_image_38 _ _ _).trans rfl
theorem bk_Hook_image_45 : blk 299 45 = some (((cd_Hook_image.lookup 45).getD ([], 0, []))) := rfl
theorem Hook_image_45 (d : Nat) (h : Hp) : EX d 299 45 [] [] h = some (.inl 0, h) := (EX_at bk_Hook_image_45 _ _ _).trans rfl
/-! restore(I)I of HookOver: method 301 -/
theorem bk_Hook_restore_0 : blk 301 0 = some (((cd_Hook_restore.lookup 0).getD ([], 0, []))) := rfl
theorem Hook_restore_0 (d : Nat) (a0 : Nat) (x1 : Int) (h : Hp) : EX d 301 0 [(0, .inr (.inr a0)), (1, .inl x1)] [] h = if (wr x1) < 0 then EX d 301 9 [] [] h else EX d 301 4 [(0, .inr (.inr a0)), (1, .inl x1)] [] h := (EX_at bk_Hook_restore_0 _ _ _).trans rfl
theorem bk_Hook_restore_4 : blk 301 4 = some (((cd_Hook_restore.lookup 4).getD ([], 0, []))) := rfl
theorem Hook_restore_4 (d : Nat) (a0 : Nat) (x1 : Int) (h : Hp) : EX d 301 4 [(0, .inr (.inr a0)), (1, .inl x1)] [] h = if (wr x1) < 2 then EX d 301 12 [(0, .inr (.inr a0)), (1, .inl x1)] [] h else EX d 301 9 [] [] h := (EX_at bk_Hook_restore_4 _ _ _).trans rfl
theorem bk_Hook_restore_9 : blk 301 9 = some (((cd_Hook_restore.lookup 9).getD ([], 0, []))) := rfl
theorem Hook_restore_9 (d : Nat) (h : Hp) : EX d 301 9 [] [] h = some (.inl (-2), h) := (EX_at bk_Hook_restore_9 _ _ _).trans rfl
theorem bk_Hook_restore_12 : blk 301 12 = some (((cd_Hook_restore.lookup 12).getD ([], 0, []))) := rfl
theorem Hook_restore_12 (d : Nat) (a0 : Nat) (x1 : Int) (h : Hp) : EX d 301 12 [(0, .inr (.inr a0)), (1, .inl x1)] [] h = if sK h a0 = 10 then if okx h (hR h a0 13) 23 x1 then if (wr (hI h (hR h a0 13) (ix x1))) = 0 then EX d 301 21 [] [] h else EX d 301 24 [(0, .inr (.inr a0)), (1, .inl x1)] [] h else none else none := (EX_at bk_Hook_restore_12 _ _ _).trans rfl
theorem bk_Hook_restore_21 : blk 301 21 = some (((cd_Hook_restore.lookup 21).getD ([], 0, []))) := rfl
theorem Hook_restore_21 (d : Nat) (h : Hp) : EX d 301 21 [] [] h = some (.inl (-5), h) := (EX_at bk_Hook_restore_21 _ _ _).trans rfl
theorem bk_Hook_restore_24 : blk 301 24 = some (((cd_Hook_restore.lookup 24).getD ([], 0, []))) := rfl
theorem Hook_restore_24 (d : Nat) (a0 : Nat) (x1 : Int) (h : Hp) : EX d 301 24 [(0, .inr (.inr a0)), (1, .inl x1)] [] h = if sK h a0 = 10 then if sK h a0 = 10 then if okx h (hR h a0 11) 25 x1 then if sK h (hR h a0 5) = 9 then bak (EX d 301) 37 [(0, .inr (.inr a0)), (1, .inl x1)] [] true (cal d 298 [.inr (.inr (hR h a0 5)), .inr (.inr (hR h (hR h a0 11) (ix x1)))] h) else none else none else none else none := (EX_at bk_Hook_restore_24 _ _ _).trans rfl
theorem bk_Hook_restore_37 : blk 301 37 = some (((cd_Hook_restore.lookup 37).getD ([], 0, []))) := rfl
theorem Hook_restore_37 (d : Nat) (a0 : Nat) (x1 : Int) (h : Hp) : EX d 301 37 [(0, .inr (.inr a0)), (1, .inl x1)] [] h = if sK h a0 = 10 then if sK h a0 = 10 then if okx h (hR h a0 12) 26 x1 then if sK h (hR h a0 7) = 0 then bak (EX d 301) 50 [(0, .inr (.inr a0))] [] true (cal d 69 [.inr (.inr (hR h a0 7)), .inr (.inr (hR h (hR h a0 12) (ix x1)))] h) else none else none else none else none := (EX_at bk_Hook_restore_37 _ _ _).trans rfl
theorem bk_Hook_restore_50 : blk 301 50 = some (((cd_Hook_restore.lookup 50).getD ([], 0, []))) := rfl
theorem Hook_restore_50 (d : Nat) (a0 : Nat) (h : Hp) : EX d 301 50 [(0, .inr (.inr a0))] [] h = if sK h a0 = 10 then if sK h (hR h a0 9) = 1 then bak (EX d 301) 57 [(0, .inr (.inr a0))] [] true (cal d 70 [.inr (.inr (hR h a0 9))] h) else none else none := (EX_at bk_Hook_restore_50 _ _ _).trans rfl
theorem bk_Hook_restore_57 : blk 301 57 = some (((cd_Hook_restore.lookup 57).getD ([], 0, []))) := rfl
theorem Hook_restore_57 (d : Nat) (a0 : Nat) (h : Hp) : EX d 301 57 [(0, .inr (.inr a0))] [] h = if sK h a0 = 10 then if sK h (hR h a0 14) = 2 then bak (EX d 301) 64 [] [] true (cal d 71 [.inr (.inr (hR h a0 14))] h) else none else none := (EX_at bk_Hook_restore_57 _ _ _).trans rfl
theorem bk_Hook_restore_64 : blk 301 64 = some (((cd_Hook_restore.lookup 64).getD ([], 0, []))) := rfl
theorem Hook_restore_64 (d : Nat) (h : Hp) : EX d 301 64 [] [] h = some (.inl 0, h) := (EX_at bk_Hook_restore_64 _ _ _).trans rfl
/-! count(I)I of HookOver: method 304 -/
theorem bk_Hook_count_0 : blk 304 0 = some (((cd_Hook_count.lookup 0).getD ([], 0, []))) := rfl
theorem Hook_count_0 (d : Nat) (a0 : Nat) (x1 : Int) (h : Hp) : EX d 304 0 [(0, .inr (.inr a0)), (1, .inl x1)] [] h = if (wr x1) = 0 then EX d 304 64 [(0, .inr (.inr a0))] [] h else if (wr x1) = 1 then EX d 304 72 [(0, .inr (.inr a0))] [] h else if (wr x1) = 2 then EX d 304 80 [(0, .inr (.inr a0))] [] h else if (wr x1) = 3 then EX d 304 91 [(0, .inr (.inr a0))] [] h else if (wr x1) = 4 then EX d 304 99 [(0, .inr (.inr a0))] [] h else if (wr x1) = 5 then EX d 304 107 [(0, .inr (.inr a0))] [] h else if (wr x1) = 6 then EX d 304 115 [(0, .inr (.inr a0))] [] h else if (wr x1) = 7 then EX d 304 123 [(0, .inr (.inr a0))] [] h else if (wr x1) = 8 then EX d 304 131 [(0, .inr (.inr a0))] [] h else if (wr x1) = 9 then EX d 304 139 [(0, .inr (.inr a0))] [] h else if (wr x1) = 10 then EX d 304 147 [(0, .inr (.inr a0))] [] h else if (wr x1) = 11 then EX d 304 152 [(0, .inr (.inr a0))] [] h else EX d 304 160 [(0, .inr (.inr a0))] [] h := (EX_at bk_Hook_count_0 _ _ _).trans rfl
theorem bk_Hook_count_64 : blk 304 64 = some (((cd_Hook_count.lookup 64).getD ([], 0, []))) := rfl
theorem Hook_count_64 (d : Nat) (a0 : Nat) (h : Hp) : EX d 304 64 [(0, .inr (.inr a0))] [] h = if sK h a0 = 10 then if sK h (hR h a0 5) = 9 then some (.inl (hI h (hR h a0 5) 5), h) else none else none := (EX_at bk_Hook_count_64 _ _ _).trans rfl
theorem bk_Hook_count_72 : blk 304 72 = some (((cd_Hook_count.lookup 72).getD ([], 0, []))) := rfl
theorem Hook_count_72 (d : Nat) (a0 : Nat) (h : Hp) : EX d 304 72 [(0, .inr (.inr a0))] [] h = if sK h a0 = 10 then if sK h (hR h a0 5) = 9 then some (.inl (hI h (hR h a0 5) 6), h) else none else none := (EX_at bk_Hook_count_72 _ _ _).trans rfl
theorem bk_Hook_count_80 : blk 304 80 = some (((cd_Hook_count.lookup 80).getD ([], 0, []))) := rfl
theorem Hook_count_80 (d : Nat) (a0 : Nat) (h : Hp) : EX d 304 80 [(0, .inr (.inr a0))] [] h = if sK h a0 = 10 then if sK h (hR h a0 5) = 9 then bak (EX d 304) 90 [] [] false (cal d 303 [.inl (hI h (hR h a0 5) 7)] h) else none else none := (EX_at bk_Hook_count_80 _ _ _).trans rfl
theorem bk_Hook_count_90 : blk 304 90 = some (((cd_Hook_count.lookup 90).getD ([], 0, []))) := rfl
theorem Hook_count_90 (d : Nat) (s0 : Int) (h : Hp) : EX d 304 90 [] [.inl s0] h = some (.inl s0, h) := (EX_at bk_Hook_count_90 _ _ _).trans rfl
theorem bk_Hook_count_91 : blk 304 91 = some (((cd_Hook_count.lookup 91).getD ([], 0, []))) := rfl
theorem Hook_count_91 (d : Nat) (a0 : Nat) (h : Hp) : EX d 304 91 [(0, .inr (.inr a0))] [] h = if sK h a0 = 10 then if sK h (hR h a0 7) = 0 then some (.inl (hI h (hR h a0 7) 2), h) else none else none := (EX_at bk_Hook_count_91 _ _ _).trans rfl
theorem bk_Hook_count_99 : blk 304 99 = some (((cd_Hook_count.lookup 99).getD ([], 0, []))) := rfl
theorem Hook_count_99 (d : Nat) (a0 : Nat) (h : Hp) : EX d 304 99 [(0, .inr (.inr a0))] [] h = if sK h a0 = 10 then if sK h (hR h a0 7) = 0 then some (.inl (hI h (hR h a0 7) 1), h) else none else none := (EX_at bk_Hook_count_99 _ _ _).trans rfl
theorem bk_Hook_count_107 : blk 304 107 = some (((cd_Hook_count.lookup 107).getD ([], 0, []))) := rfl
theorem Hook_count_107 (d : Nat) (a0 : Nat) (h : Hp) : EX d 304 107 [(0, .inr (.inr a0))] [] h = if sK h a0 = 10 then if sK h (hR h a0 9) = 1 then some (.inl (hI h (hR h a0 9) 2), h) else none else none := (EX_at bk_Hook_count_107 _ _ _).trans rfl
theorem bk_Hook_count_115 : blk 304 115 = some (((cd_Hook_count.lookup 115).getD ([], 0, []))) := rfl
theorem Hook_count_115 (d : Nat) (a0 : Nat) (h : Hp) : EX d 304 115 [(0, .inr (.inr a0))] [] h = if sK h a0 = 10 then if sK h (hR h a0 5) = 9 then some (.inl (hI h (hR h a0 5) 8), h) else none else none := (EX_at bk_Hook_count_115 _ _ _).trans rfl
theorem bk_Hook_count_123 : blk 304 123 = some (((cd_Hook_count.lookup 123).getD ([], 0, []))) := rfl
theorem Hook_count_123 (d : Nat) (a0 : Nat) (h : Hp) : EX d 304 123 [(0, .inr (.inr a0))] [] h = if sK h a0 = 10 then if sK h (hR h a0 5) = 9 then some (.inl (hI h (hR h a0 5) 9), h) else none else none := (EX_at bk_Hook_count_123 _ _ _).trans rfl
theorem bk_Hook_count_131 : blk 304 131 = some (((cd_Hook_count.lookup 131).getD ([], 0, []))) := rfl
theorem Hook_count_131 (d : Nat) (a0 : Nat) (h : Hp) : EX d 304 131 [(0, .inr (.inr a0))] [] h = if sK h a0 = 10 then if sK h (hR h a0 5) = 9 then some (.inl (hI h (hR h a0 5) 10), h) else none else none := (EX_at bk_Hook_count_131 _ _ _).trans rfl
theorem bk_Hook_count_139 : blk 304 139 = some (((cd_Hook_count.lookup 139).getD ([], 0, []))) := rfl
theorem Hook_count_139 (d : Nat) (a0 : Nat) (h : Hp) : EX d 304 139 [(0, .inr (.inr a0))] [] h = if sK h a0 = 10 then if sK h (hR h a0 5) = 9 then some (.inl (hI h (hR h a0 5) 11), h) else none else none := (EX_at bk_Hook_count_139 _ _ _).trans rfl
theorem bk_Hook_count_147 : blk 304 147 = some (((cd_Hook_count.lookup 147).getD ([], 0, []))) := rfl
theorem Hook_count_147 (d : Nat) (a0 : Nat) (h : Hp) : EX d 304 147 [(0, .inr (.inr a0))] [] h = if sK h a0 = 10 then some (.inl (hI h a0 1), h) else none := (EX_at bk_Hook_count_147 _ _ _).trans rfl
theorem bk_Hook_count_152 : blk 304 152 = some (((cd_Hook_count.lookup 152).getD ([], 0, []))) := rfl
theorem Hook_count_152 (d : Nat) (a0 : Nat) (h : Hp) : EX d 304 152 [(0, .inr (.inr a0))] [] h = if sK h a0 = 10 then if sK h (hR h a0 5) = 9 then some (.inl (hI h (hR h a0 5) 14), h) else none else none := (EX_at bk_Hook_count_152 _ _ _).trans rfl
theorem bk_Hook_count_160 : blk 304 160 = some (((cd_Hook_count.lookup 160).getD ([], 0, []))) := rfl
theorem Hook_count_160 (d : Nat) (a0 : Nat) (h : Hp) : EX d 304 160 [(0, .inr (.inr a0))] [] h = some (.inl (-1), h) := (EX_at bk_Hook_count_160 _ _ _).trans rfl
