/-! <init>()V of HookOver: method 13 -/
theorem bk_Hook_init_0 : blk 13 0 = some (((cd_Hook_init.lookup 0).getD ([], 0, []))) := rfl
theorem Hook_init_0 (d : Nat) (a0 : Nat) (h : Hp) : EX d 13 0 [(0, .inr (.inr a0))] [] h = if (0 < a0 ∧ 0 ≤ 8) then EX d 13 10 [(0, .inr (.inr a0))] [.inr (.inr ((Prod.fst h).length)), .inr (.inr a0)] (nwH h 22 900) else none := (EX_at bk_Hook_init_0 _ _ _).trans rfl
theorem bk_Hook_init_10 : blk 13 10 = some (((cd_Hook_init.lookup 10).getD ([], 0, []))) := rfl
theorem Hook_init_10 (d : Nat) (a0 : Nat) (r0 : Nat) (r1 : Nat) (h : Hp) : EX d 13 10 [(0, .inr (.inr a0))] [.inr (.inr r1), .inr (.inr r0)] h = if sK h r0 = 10 then EX d 13 13 [(0, .inr (.inr a0))] [] (pR h r0 0 r1) else none := (EX_at bk_Hook_init_10 _ _ _).trans rfl
theorem bk_Hook_init_13 : blk 13 13 = some (((cd_Hook_init.lookup 13).getD ([], 0, []))) := rfl
theorem Hook_init_13 (d : Nat) (a0 : Nat) (h : Hp) : EX d 13 13 [(0, .inr (.inr a0))] [] h = if sK h a0 = 10 then EX d 13 18 [(0, .inr (.inr a0))] [] (pI h a0 1 0) else none := (EX_at bk_Hook_init_13 _ _ _).trans rfl
theorem bk_Hook_init_18 : blk 13 18 = some (((cd_Hook_init.lookup 18).getD ([], 0, []))) := rfl
theorem Hook_init_18 (d : Nat) (a0 : Nat) (h : Hp) : EX d 13 18 [(0, .inr (.inr a0))] [] h = EX d 13 22 [(0, .inr (.inr a0))] [.inr (.inr ((Prod.fst h).length)), .inr (.inr a0)] (nwH h 5 2) := (EX_at bk_Hook_init_18 _ _ _).trans rfl
theorem bk_Hook_init_22 : blk 13 22 = some (((cd_Hook_init.lookup 22).getD ([], 0, []))) := rfl
theorem Hook_init_22 (d : Nat) (a0 : Nat) (r0 : Nat) (r1 : Nat) (h : Hp) : EX d 13 22 [(0, .inr (.inr a0))] [.inr (.inr r1), .inr (.inr r0)] h = if sK h r1 = 5 then bak (EX d 13) 26 [(0, .inr (.inr a0))] [.inr (.inr r1), .inr (.inr r0)] true (cal d 2 [.inr (.inr r1)] h) else none := (EX_at bk_Hook_init_22 _ _ _).trans rfl
theorem bk_Hook_init_26 : blk 13 26 = some (((cd_Hook_init.lookup 26).getD ([], 0, []))) := rfl
theorem Hook_init_26 (d : Nat) (a0 : Nat) (r0 : Nat) (r1 : Nat) (h : Hp) : EX d 13 26 [(0, .inr (.inr a0))] [.inr (.inr r1), .inr (.inr r0)] h = if sK h r0 = 10 then EX d 13 29 [(0, .inr (.inr a0))] [] (pR h r0 2 r1) else none := (EX_at bk_Hook_init_26 _ _ _).trans rfl
theorem bk_Hook_init_29 : blk 13 29 = some (((cd_Hook_init.lookup 29).getD ([], 0, []))) := rfl
theorem Hook_init_29 (d : Nat) (a0 : Nat) (h : Hp) : EX d 13 29 [(0, .inr (.inr a0))] [] h = if sK h a0 = 10 then EX d 13 34 [(0, .inr (.inr a0))] [] (pI h a0 3 0) else none := (EX_at bk_Hook_init_29 _ _ _).trans rfl
theorem bk_Hook_init_34 : blk 13 34 = some (((cd_Hook_init.lookup 34).getD ([], 0, []))) := rfl
theorem Hook_init_34 (d : Nat) (a0 : Nat) (h : Hp) : EX d 13 34 [(0, .inr (.inr a0))] [] h = if sK h a0 = 10 then EX d 13 39 [(0, .inr (.inr a0))] [] (pI h a0 4 (-1)) else none := (EX_at bk_Hook_init_34 _ _ _).trans rfl
theorem bk_Hook_init_39 : blk 13 39 = some (((cd_Hook_init.lookup 39).getD ([], 0, []))) := rfl
theorem Hook_init_39 (d : Nat) (a0 : Nat) (h : Hp) : EX d 13 39 [(0, .inr (.inr a0))] [] h = EX d 13 43 [(0, .inr (.inr a0))] [.inr (.inr ((Prod.fst h).length)), .inr (.inr a0)] (nwH h 9 15) := (EX_at bk_Hook_init_39 _ _ _).trans rfl
theorem bk_Hook_init_43 : blk 13 43 = some (((cd_Hook_init.lookup 43).getD ([], 0, []))) := rfl
theorem Hook_init_43 (d : Nat) (a0 : Nat) (r0 : Nat) (r1 : Nat) (h : Hp) : EX d 13 43 [(0, .inr (.inr a0))] [.inr (.inr r1), .inr (.inr r0)] h = if sK h r1 = 9 then bak (EX d 13) 47 [(0, .inr (.inr a0))] [.inr (.inr r1), .inr (.inr r0)] true (cal d 5 [.inr (.inr r1)] h) else none := (EX_at bk_Hook_init_43 _ _ _).trans rfl
theorem bk_Hook_init_47 : blk 13 47 = some (((cd_Hook_init.lookup 47).getD ([], 0, []))) := rfl
theorem Hook_init_47 (d : Nat) (a0 : Nat) (r0 : Nat) (r1 : Nat) (h : Hp) : EX d 13 47 [(0, .inr (.inr a0))] [.inr (.inr r1), .inr (.inr r0)] h = if sK h r0 = 10 then EX d 13 50 [(0, .inr (.inr a0))] [] (pR h r0 5 r1) else none := (EX_at bk_Hook_init_47 _ _ _).trans rfl
theorem bk_Hook_init_50 : blk 13 50 = some (((cd_Hook_init.lookup 50).getD ([], 0, []))) := rfl
theorem Hook_init_50 (d : Nat) (a0 : Nat) (h : Hp) : EX d 13 50 [(0, .inr (.inr a0))] [] h = EX d 13 54 [(0, .inr (.inr a0))] [.inr (.inr ((Prod.fst h).length)), .inr (.inr a0)] (nwH h 9 15) := (EX_at bk_Hook_init_50 _ _ _).trans rfl
theorem bk_Hook_init_54 : blk 13 54 = some (((cd_Hook_init.lookup 54).getD ([], 0, []))) := rfl
theorem Hook_init_54 (d : Nat) (a0 : Nat) (r0 : Nat) (r1 : Nat) (h : Hp) : EX d 13 54 [(0, .inr (.inr a0))] [.inr (.inr r1), .inr (.inr r0)] h = if sK h r1 = 9 then bak (EX d 13) 58 [(0, .inr (.inr a0))] [.inr (.inr r1), .inr (.inr r0)] true (cal d 5 [.inr (.inr r1)] h) else none := (EX_at bk_Hook_init_54 _ _ _).trans rfl
theorem bk_Hook_init_58 : blk 13 58 = some (((cd_Hook_init.lookup 58).getD ([], 0, []))) := rfl
theorem Hook_init_58 (d : Nat) (a0 : Nat) (r0 : Nat) (r1 : Nat) (h : Hp) : EX d 13 58 [(0, .inr (.inr a0))] [.inr (.inr r1), .inr (.inr r0)] h = if sK h r0 = 10 then EX d 13 61 [(0, .inr (.inr a0))] [] (pR h r0 6 r1) else none := (EX_at bk_Hook_init_58 _ _ _).trans rfl
theorem bk_Hook_init_61 : blk 13 61 = some (((cd_Hook_init.lookup 61).getD ([], 0, []))) := rfl
theorem Hook_init_61 (d : Nat) (a0 : Nat) (h : Hp) : EX d 13 61 [(0, .inr (.inr a0))] [] h = EX d 13 65 [(0, .inr (.inr a0))] [.inr (.inr ((Prod.fst h).length)), .inr (.inr a0)] (nwH h 0 3) := (EX_at bk_Hook_init_61 _ _ _).trans rfl
theorem bk_Hook_init_65 : blk 13 65 = some (((cd_Hook_init.lookup 65).getD ([], 0, []))) := rfl
theorem Hook_init_65 (d : Nat) (a0 : Nat) (r0 : Nat) (r1 : Nat) (h : Hp) : EX d 13 65 [(0, .inr (.inr a0))] [.inr (.inr r1), .inr (.inr r0)] h = if sK h r1 = 0 then bak (EX d 13) 69 [(0, .inr (.inr a0))] [.inr (.inr r1), .inr (.inr r0)] true (cal d 7 [.inr (.inr r1)] h) else none := (EX_at bk_Hook_init_65 _ _ _).trans rfl
theorem bk_Hook_init_69 : blk 13 69 = some (((cd_Hook_init.lookup 69).getD ([], 0, []))) := rfl
theorem Hook_init_69 (d : Nat) (a0 : Nat) (r0 : Nat) (r1 : Nat) (h : Hp) : EX d 13 69 [(0, .inr (.inr a0))] [.inr (.inr r1), .inr (.inr r0)] h = if sK h r0 = 10 then EX d 13 72 [(0, .inr (.inr a0))] [] (pR h r0 7 r1) else none := (EX_at bk_Hook_init_69 _ _ _).trans rfl
theorem bk_Hook_init_72 : blk 13 72 = some (((cd_Hook_init.lookup 72).getD ([], 0, []))) := rfl
theorem Hook_init_72 (d : Nat) (a0 : Nat) (h : Hp) : EX d 13 72 [(0, .inr (.inr a0))] [] h = EX d 13 76 [(0, .inr (.inr a0))] [.inr (.inr ((Prod.fst h).length)), .inr (.inr a0)] (nwH h 0 3) := (EX_at bk_Hook_init_72 _ _ _).trans rfl
theorem bk_Hook_init_76 : blk 13 76 = some (((cd_Hook_init.lookup 76).getD ([], 0, []))) := rfl
theorem Hook_init_76 (d : Nat) (a0 : Nat) (r0 : Nat) (r1 : Nat) (h : Hp) : EX d 13 76 [(0, .inr (.inr a0))] [.inr (.inr r1), .inr (.inr r0)] h = if sK h r1 = 0 then bak (EX d 13) 80 [(0, .inr (.inr a0))] [.inr (.inr r1), .inr (.inr r0)] true (cal d 7 [.inr (.inr r1)] h) else none := (EX_at bk_Hook_init_76 _ _ _).trans rfl
theorem bk_Hook_init_80 : blk 13 80 = some (((cd_Hook_init.lookup 80).getD ([], 0, []))) := rfl
theorem Hook_init_80 (d : Nat) (a0 : Nat) (r0 : Nat) (r1 : Nat) (h : Hp) : EX d 13 80 [(0, .inr (.inr a0))] [.inr (.inr r1), .inr (.inr r0)] h = if sK h r0 = 10 then EX d 13 83 [(0, .inr (.inr a0))] [] (pR h r0 8 r1) else none := (EX_at bk_Hook_init_80 _ _ _).trans rfl
theorem bk_Hook_init_83 : blk 13 83 = some (((cd_Hook_init.lookup 83).getD ([], 0, []))) := rfl
theorem Hook_init_83 (d : Nat) (a0 : Nat) (h : Hp) : EX d 13 83 [(0, .inr (.inr a0))] [] h = EX d 13 87 [(0, .inr (.inr a0))] [.inr (.inr ((Prod.fst h).length)), .inr (.inr a0)] (nwH h 1 3) := (EX_at bk_Hook_init_83 _ _ _).trans rfl
theorem bk_Hook_init_87 : blk 13 87 = some (((cd_Hook_init.lookup 87).getD ([], 0, []))) := rfl
theorem Hook_init_87 (d : Nat) (a0 : Nat) (r0 : Nat) (r1 : Nat) (h : Hp) : EX d 13 87 [(0, .inr (.inr a0))] [.inr (.inr r1), .inr (.inr r0)] h = if sK h r1 = 1 then bak (EX d 13) 91 [(0, .inr (.inr a0))] [.inr (.inr r1), .inr (.inr r0)] true (cal d 8 [.inr (.inr r1)] h) else none := (EX_at bk_Hook_init_87 _ _ _).trans rfl
theorem bk_Hook_init_91 : blk 13 91 = some (((cd_Hook_init.lookup 91).getD ([], 0, []))) := rfl
theorem Hook_init_91 (d : Nat) (a0 : Nat) (r0 : Nat) (r1 : Nat) (h : Hp) : EX d 13 91 [(0, .inr (.inr a0))] [.inr (.inr r1), .inr (.inr r0)] h = if sK h r0 = 10 then EX d 13 94 [(0, .inr (.inr a0))] [] (pR h r0 9 r1) else none := (EX_at bk_Hook_init_91 _ _ _).trans rfl
theorem bk_Hook_init_94 : blk 13 94 = some (((cd_Hook_init.lookup 94).getD ([], 0, []))) := rfl
theorem Hook_init_94 (d : Nat) (a0 : Nat) (h : Hp) : EX d 13 94 [(0, .inr (.inr a0))] [] h = EX d 13 99 [(0, .inr (.inr a0))] [.inr (.inr ((Prod.fst h).length)), .inr (.inr a0)] (nwH h 24 4) := (EX_at bk_Hook_init_94 _ _ _).trans rfl
theorem bk_Hook_init_99 : blk 13 99 = some (((cd_Hook_init.lookup 99).getD ([], 0, []))) := rfl
theorem Hook_init_99 (d : Nat) (a0 : Nat) (r0 : Nat) (r1 : Nat) (h : Hp) : EX d 13 99 [(0, .inr (.inr a0))] [.inr (.inr r1), .inr (.inr r0)] h = if sK h r0 = 10 then EX d 13 102 [(0, .inr (.inr a0))] [] (pR h r0 10 r1) else none := (EX_at bk_Hook_init_99 _ _ _).trans rfl
theorem bk_Hook_init_102 : blk 13 102 = some (((cd_Hook_init.lookup 102).getD ([], 0, []))) := rfl
theorem Hook_init_102 (d : Nat) (a0 : Nat) (h : Hp) : EX d 13 102 [(0, .inr (.inr a0))] [] h = EX d 13 104 [(0, .inr (.inr a0)), (1, .inl 0)] [] h := (EX_at bk_Hook_init_102 _ _ _).trans rfl
theorem bk_Hook_init_104 : blk 13 104 = some (((cd_Hook_init.lookup 104).getD ([], 0, []))) := rfl
theorem Hook_init_104 (d : Nat) (a0 : Nat) (x1 : Int) (h : Hp) : EX d 13 104 [(0, .inr (.inr a0)), (1, .inl x1)] [] h = if (wr x1) < 4 then EX d 13 109 [(0, .inr (.inr a0)), (1, .inl x1)] [] h else EX d 13 128 [(0, .inr (.inr a0))] [] h := (EX_at bk_Hook_init_104 _ _ _).trans rfl
theorem bk_Hook_init_109 : blk 13 109 = some (((cd_Hook_init.lookup 109).getD ([], 0, []))) := rfl
theorem Hook_init_109 (d : Nat) (a0 : Nat) (x1 : Int) (h : Hp) : EX d 13 109 [(0, .inr (.inr a0)), (1, .inl x1)] [] h = if sK h a0 = 10 then EX d 13 117 [(0, .inr (.inr a0)), (1, .inl x1)] [.inr (.inr ((Prod.fst h).length)), .inl x1, .inr (.inr (hR h a0 10))] (nwH h 7 3) else none := (EX_at bk_Hook_init_109 _ _ _).trans rfl
theorem bk_Hook_init_117 : blk 13 117 = some (((cd_Hook_init.lookup 117).getD ([], 0, []))) := rfl
theorem Hook_init_117 (d : Nat) (a0 : Nat) (x1 : Int) (r0 : Nat) (s1 : Int) (r2 : Nat) (h : Hp) : EX d 13 117 [(0, .inr (.inr a0)), (1, .inl x1)] [.inr (.inr r2), .inl s1, .inr (.inr r0)] h = if sK h r2 = 7 then bak (EX d 13) 121 [(0, .inr (.inr a0)), (1, .inl x1)] [.inr (.inr r2), .inl s1, .inr (.inr r0)] true (cal d 9 [.inr (.inr r2)] h) else none := (EX_at bk_Hook_init_117 _ _ _).trans rfl
theorem bk_Hook_init_121 : blk 13 121 = some (((cd_Hook_init.lookup 121).getD ([], 0, []))) := rfl
theorem Hook_init_121 (d : Nat) (a0 : Nat) (x1 : Int) (r0 : Nat) (s1 : Int) (r2 : Nat) (h : Hp) : EX d 13 121 [(0, .inr (.inr a0)), (1, .inl x1)] [.inr (.inr r2), .inl s1, .inr (.inr r0)] h = if (okx h r0 24 s1 ∧ sK h r2 = 7) then EX d 13 122 [(0, .inr (.inr a0)), (1, .inl x1)] [] (pR h r0 (ix s1) r2) else none := (EX_at bk_Hook_init_121 _ _ _).trans rfl
theorem bk_Hook_init_122 : blk 13 122 = some (((cd_Hook_init.lookup 122).getD ([], 0, []))) := rfl
theorem Hook_init_122 (d : Nat) (a0 : Nat) (x1 : Int) (h : Hp) : EX d 13 122 [(0, .inr (.inr a0)), (1, .inl x1)] [] h = EX d 13 104 [(0, .inr (.inr a0)), (1, .inl (x1 + 1))] [] h := (EX_at bk_Hook_init_122 _ _ _).trans rfl
theorem bk_Hook_init_128 : blk 13 128 = some (((cd_Hook_init.lookup 128).getD ([], 0, []))) := rfl
theorem Hook_init_128 (d : Nat) (a0 : Nat) (h : Hp) : EX d 13 128 [(0, .inr (.inr a0))] [] h = EX d 13 133 [(0, .inr (.inr a0))] [.inr (.inr ((Prod.fst h).length)), .inr (.inr a0)] (nwH h 25 2) := (EX_at bk_Hook_init_128 _ _ _).trans rfl
theorem bk_Hook_init_133 : blk 13 133 = some (((cd_Hook_init.lookup 133).getD ([], 0, []))) := rfl
theorem Hook_init_133 (d : Nat) (a0 : Nat) (r0 : Nat) (r1 : Nat) (h : Hp) : EX d 13 133 [(0, .inr (.inr a0))] [.inr (.inr r1), .inr (.inr r0)] h = if sK h r0 = 10 then EX d 13 136 [(0, .inr (.inr a0))] [] (pR h r0 11 r1) else none := (EX_at bk_Hook_init_133 _ _ _).trans rfl
theorem bk_Hook_init_136 : blk 13 136 = some (((cd_Hook_init.lookup 136).getD ([], 0, []))) := rfl
theorem Hook_init_136 (d : Nat) (a0 : Nat) (h : Hp) : EX d 13 136 [(0, .inr (.inr a0))] [] h = EX d 13 141 [(0, .inr (.inr a0))] [.inr (.inr ((Prod.fst h).length)), .inr (.inr a0)] (nwH h 26 2) := (EX_at bk_Hook_init_136 _ _ _).trans rfl
theorem bk_Hook_init_141 : blk 13 141 = some (((cd_Hook_init.lookup 141).getD ([], 0, []))) := rfl
theorem Hook_init_141 (d : Nat) (a0 : Nat) (r0 : Nat) (r1 : Nat) (h : Hp) : EX d 13 141 [(0, .inr (.inr a0))] [.inr (.inr r1), .inr (.inr r0)] h = if sK h r0 = 10 then EX d 13 144 [(0, .inr (.inr a0))] [] (pR h r0 12 r1) else none := (EX_at bk_Hook_init_141 _ _ _).trans rfl
theorem bk_Hook_init_144 : blk 13 144 = some (((cd_Hook_init.lookup 144).getD ([], 0, []))) := rfl
theorem Hook_init_144 (d : Nat) (a0 : Nat) (h : Hp) : EX d 13 144 [(0, .inr (.inr a0))] [] h = EX d 13 148 [(0, .inr (.inr a0))] [.inr (.inr ((Prod.fst h).length)), .inr (.inr a0)] (nwH h 23 2) := (EX_at bk_Hook_init_144 _ _ _).trans rfl
theorem bk_Hook_init_148 : blk 13 148 = some (((cd_Hook_init.lookup 148).getD ([], 0, []))) := rfl
theorem Hook_init_148 (d : Nat) (a0 : Nat) (r0 : Nat) (r1 : Nat) (h : Hp) : EX d 13 148 [(0, .inr (.inr a0))] [.inr (.inr r1), .inr (.inr r0)] h = if sK h r0 = 10 then EX d 13 151 [(0, .inr (.inr a0))] [] (pR h r0 13 r1) else none := (EX_at bk_Hook_init_148 _ _ _).trans rfl
theorem bk_Hook_init_151 : blk 13 151 = some (((cd_Hook_init.lookup 151).getD ([], 0, []))) := rfl
theorem Hook_init_151 (d : Nat) (a0 : Nat) (h : Hp) : EX d 13 151 [(0, .inr (.inr a0))] [] h = EX d 13 153 [(0, .inr (.inr a0)), (1, .inl 0)] [] h := (EX_at bk_Hook_init_151 _ _ _).trans rfl
theorem bk_Hook_init_153 : blk 13 153 = some (((cd_Hook_init.lookup 153).getD ([], 0, []))) := rfl
theorem Hook_init_153 (d : Nat) (a0 : Nat) (x1 : Int) (h : Hp) : EX d 13 153 [(0, .inr (.inr a0)), (1, .inl x1)] [] h = if (wr x1) < 2 then EX d 13 158 [(0, .inr (.inr a0)), (1, .inl x1)] [] h else EX d 13 190 [(0, .inr (.inr a0))] [] h := (EX_at bk_Hook_init_153 _ _ _).trans rfl
theorem bk_Hook_init_158 : blk 13 158 = some (((cd_Hook_init.lookup 158).getD ([], 0, []))) := rfl
theorem Hook_init_158 (d : Nat) (a0 : Nat) (x1 : Int) (h : Hp) : EX d 13 158 [(0, .inr (.inr a0)), (1, .inl x1)] [] h = if sK h a0 = 10 then EX d 13 166 [(0, .inr (.inr a0)), (1, .inl x1)] [.inr (.inr ((Prod.fst h).length)), .inl x1, .inr (.inr (hR h a0 11))] (nwH h 9 15) else none := (EX_at bk_Hook_init_158 _ _ _).trans rfl
theorem bk_Hook_init_166 : blk 13 166 = some (((cd_Hook_init.lookup 166).getD ([], 0, []))) := rfl
theorem Hook_init_166 (d : Nat) (a0 : Nat) (x1 : Int) (r0 : Nat) (s1 : Int) (r2 : Nat) (h : Hp) : EX d 13 166 [(0, .inr (.inr a0)), (1, .inl x1)] [.inr (.inr r2), .inl s1, .inr (.inr r0)] h = if sK h r2 = 9 then bak (EX d 13) 170 [(0, .inr (.inr a0)), (1, .inl x1)] [.inr (.inr r2), .inl s1, .inr (.inr r0)] true (cal d 5 [.inr (.inr r2)] h) else none := (EX_at bk_Hook_init_166 _ _ _).trans rfl
theorem bk_Hook_init_170 : blk 13 170 = some (((cd_Hook_init.lookup 170).getD ([], 0, []))) := rfl
theorem Hook_init_170 (d : Nat) (a0 : Nat) (x1 : Int) (r0 : Nat) (s1 : Int) (r2 : Nat) (h : Hp) : EX d 13 170 [(0, .inr (.inr a0)), (1, .inl x1)] [.inr (.inr r2), .inl s1, .inr (.inr r0)] h = if (okx h r0 25 s1 ∧ sK h r2 = 9) then EX d 13 171 [(0, .inr (.inr a0)), (1, .inl x1)] [] (pR h r0 (ix s1) r2) else none := (EX_at bk_Hook_init_170 _ _ _).trans rfl
theorem bk_Hook_init_171 : blk 13 171 = some (((cd_Hook_init.lookup 171).getD ([], 0, []))) := rfl
theorem Hook_init_171 (d : Nat) (a0 : Nat) (x1 : Int) (h : Hp) : EX d 13 171 [(0, .inr (.inr a0)), (1, .inl x1)] [] h = if sK h a0 = 10 then EX d 13 179 [(0, .inr (.inr a0)), (1, .inl x1)] [.inr (.inr ((Prod.fst h).length)), .inl x1, .inr (.inr (hR h a0 12))] (nwH h 0 3) else none := (EX_at bk_Hook_init_171 _ _ _).trans rfl
theorem bk_Hook_init_179 : blk 13 179 = some (((cd_Hook_init.lookup 179).getD ([], 0, []))) := rfl
theorem Hook_init_179 (d : Nat) (a0 : Nat) (x1 : Int) (r0 : Nat) (s1 : Int) (r2 : Nat) (h : Hp) : EX d 13 179 [(0, .inr (.inr a0)), (1, .inl x1)] [.inr (.inr r2), .inl s1, .inr (.inr r0)] h = if sK h r2 = 0 then bak (EX d 13) 183 [(0, .inr (.inr a0)), (1, .inl x1)] [.inr (.inr r2), .inl s1, .inr (.inr r0)] true (cal d 7 [.inr (.inr r2)] h) else none := (EX_at bk_Hook_init_179 _ _ _).trans rfl
theorem bk_Hook_init_183 : blk 13 183 = some (((cd_Hook_init.lookup 183).getD ([], 0, []))) := rfl
theorem Hook_init_183 (d : Nat) (a0 : Nat) (x1 : Int) (r0 : Nat) (s1 : Int) (r2 : Nat) (h : Hp) : EX d 13 183 [(0, .inr (.inr a0)), (1, .inl x1)] [.inr (.inr r2), .inl s1, .inr (.inr r0)] h = if (okx h r0 26 s1 ∧ sK h r2 = 0) then EX d 13 184 [(0, .inr (.inr a0)), (1, .inl x1)] [] (pR h r0 (ix s1) r2) else none := (EX_at bk_Hook_init_183 _ _ _).trans rfl
theorem bk_Hook_init_184 : blk 13 184 = some (((cd_Hook_init.lookup 184).getD ([], 0, []))) := rfl
theorem Hook_init_184 (d : Nat) (a0 : Nat) (x1 : Int) (h : Hp) : EX d 13 184 [(0, .inr (.inr a0)), (1, .inl x1)] [] h = EX d 13 153 [(0, .inr (.inr a0)), (1, .inl (x1 + 1))] [] h := (EX_at bk_Hook_init_184 _ _ _).trans rfl
theorem bk_Hook_init_190 : blk 13 190 = some (((cd_Hook_init.lookup 190).getD ([], 0, []))) := rfl
theorem Hook_init_190 (d : Nat) (a0 : Nat) (h : Hp) : EX d 13 190 [(0, .inr (.inr a0))] [] h = EX d 13 194 [(0, .inr (.inr a0))] [.inr (.inr ((Prod.fst h).length)), .inr (.inr a0)] (nwH h 2 8) := (EX_at bk_Hook_init_190 _ _ _).trans rfl
theorem bk_Hook_init_194 : blk 13 194 = some (((cd_Hook_init.lookup 194).getD ([], 0, []))) := rfl
theorem Hook_init_194 (d : Nat) (a0 : Nat) (r0 : Nat) (r1 : Nat) (h : Hp) : EX d 13 194 [(0, .inr (.inr a0))] [.inr (.inr r1), .inr (.inr r0)] h = if sK h r1 = 2 then bak (EX d 13) 198 [(0, .inr (.inr a0))] [.inr (.inr r1), .inr (.inr r0)] true (cal d 10 [.inr (.inr r1)] h) else none := (EX_at bk_Hook_init_194 _ _ _).trans rfl
theorem bk_Hook_init_198 : blk 13 198 = some (((cd_Hook_init.lookup 198).getD ([], 0, []))) := rfl
theorem Hook_init_198 (d : Nat) (a0 : Nat) (r0 : Nat) (r1 : Nat) (h : Hp) : EX d 13 198 [(0, .inr (.inr a0))] [.inr (.inr r1), .inr (.inr r0)] h = if sK h r0 = 10 then EX d 13 201 [(0, .inr (.inr a0))] [] (pR h r0 14 r1) else none := (EX_at bk_Hook_init_198 _ _ _).trans rfl
theorem bk_Hook_init_201 : blk 13 201 = some (((cd_Hook_init.lookup 201).getD ([], 0, []))) := rfl
theorem Hook_init_201 (d : Nat) (a0 : Nat) (h : Hp) : EX d 13 201 [(0, .inr (.inr a0))] [] h = EX d 13 205 [(0, .inr (.inr a0))] [.inr (.inr ((Prod.fst h).length)), .inr (.inr a0)] (nwH h 4 5) := (EX_at bk_Hook_init_201 _ _ _).trans rfl
theorem bk_Hook_init_205 : blk 13 205 = some (((cd_Hook_init.lookup 205).getD ([], 0, []))) := rfl
theorem Hook_init_205 (d : Nat) (a0 : Nat) (r0 : Nat) (r1 : Nat) (h : Hp) : EX d 13 205 [(0, .inr (.inr a0))] [.inr (.inr r1), .inr (.inr r0)] h = if sK h r1 = 4 then bak (EX d 13) 209 [(0, .inr (.inr a0))] [.inr (.inr r1), .inr (.inr r0)] true (cal d 11 [.inr (.inr r1)] h) else none := (EX_at bk_Hook_init_205 _ _ _).trans rfl
theorem bk_Hook_init_209 : blk 13 209 = some (((cd_Hook_init.lookup 209).getD ([], 0, []))) := rfl
theorem Hook_init_209 (d : Nat) (a0 : Nat) (r0 : Nat) (r1 : Nat) (h : Hp) : EX d 13 209 [(0, .inr (.inr a0))] [.inr (.inr r1), .inr (.inr r0)] h = if sK h r0 = 10 then EX d 13 212 [(0, .inr (.inr a0))] [] (pR h r0 15 r1) else none := (EX_at bk_Hook_init_209 _ _ _).trans rfl
theorem bk_Hook_init_212 : blk 13 212 = some (((cd_Hook_init.lookup 212).getD ([], 0, []))) := rfl
theorem Hook_init_212 (d : Nat) (a0 : Nat) (h : Hp) : EX d 13 212 [(0, .inr (.inr a0))] [] h = EX d 13 216 [(0, .inr (.inr a0))] [.inr (.inr ((Prod.fst h).length)), .inr (.inr a0)] (nwH h 8 3) := (EX_at bk_Hook_init_212 _ _ _).trans rfl
theorem bk_Hook_init_216 : blk 13 216 = some (((cd_Hook_init.lookup 216).getD ([], 0, []))) := rfl
theorem Hook_init_216 (d : Nat) (a0 : Nat) (r0 : Nat) (r1 : Nat) (h : Hp) : EX d 13 216 [(0, .inr (.inr a0))] [.inr (.inr r1), .inr (.inr r0)] h = if sK h r1 = 8 then bak (EX d 13) 220 [(0, .inr (.inr a0))] [.inr (.inr r1), .inr (.inr r0)] true (cal d 12 [.inr (.inr r1)] h) else none := (EX_at bk_Hook_init_216 _ _ _).trans rfl
theorem bk_Hook_init_220 : blk 13 220 = some (((cd_Hook_init.lookup 220).getD ([], 0, []))) := rfl
theorem Hook_init_220 (d : Nat) (a0 : Nat) (r0 : Nat) (r1 : Nat) (h : Hp) : EX d 13 220 [(0, .inr (.inr a0))] [.inr (.inr r1), .inr (.inr r0)] h = if sK h r0 = 10 then EX d 13 223 [(0, .inr (.inr a0))] [] (pR h r0 16 r1) else none := (EX_at bk_Hook_init_220 _ _ _).trans rfl
theorem bk_Hook_init_223 : blk 13 223 = some (((cd_Hook_init.lookup 223).getD ([], 0, []))) := rfl
theorem Hook_init_223 (d : Nat) (a0 : Nat) (h : Hp) : EX d 13 223 [(0, .inr (.inr a0))] [] h = EX d 13 229 [(0, .inr (.inr a0))] [.inr (.inr ((Prod.fst h).length)), .inr (.inr a0)] (nwH h 20 3456) := (EX_at bk_Hook_init_223 _ _ _).trans rfl
theorem bk_Hook_init_229 : blk 13 229 = some (((cd_Hook_init.lookup 229).getD ([], 0, []))) := rfl
theorem Hook_init_229 (d : Nat) (a0 : Nat) (r0 : Nat) (r1 : Nat) (h : Hp) : EX d 13 229 [(0, .inr (.inr a0))] [.inr (.inr r1), .inr (.inr r0)] h = if sK h r0 = 10 then EX d 13 232 [(0, .inr (.inr a0))] [] (pR h r0 17 r1) else none := (EX_at bk_Hook_init_229 _ _ _).trans rfl
theorem bk_Hook_init_232 : blk 13 232 = some (((cd_Hook_init.lookup 232).getD ([], 0, []))) := rfl
theorem Hook_init_232 (d : Nat) (a0 : Nat) (h : Hp) : EX d 13 232 [(0, .inr (.inr a0))] [] h = EX d 13 237 [] [.inr (.inr ((Prod.fst h).length)), .inr (.inr a0)] (nwH h 20 8) := (EX_at bk_Hook_init_232 _ _ _).trans rfl
theorem bk_Hook_init_237 : blk 13 237 = some (((cd_Hook_init.lookup 237).getD ([], 0, []))) := rfl
theorem Hook_init_237 (d : Nat) (r0 : Nat) (r1 : Nat) (h : Hp) : EX d 13 237 [] [.inr (.inr r1), .inr (.inr r0)] h = if sK h r0 = 10 then EX d 13 240 [] [] (pR h r0 18 r1) else none := (EX_at bk_Hook_init_237 _ _ _).trans rfl
theorem bk_Hook_init_240 : blk 13 240 = some (((cd_Hook_init.lookup 240).getD ([], 0, []))) := rfl
theorem Hook_init_240 (d : Nat) (h : Hp) : EX d 13 240 [] [] h = some (.inl 0, h) := (EX_at bk_Hook_init_240 _ _ _).trans rfl
/-! putOnTape(I)V of HookOver: method 16 -/
theorem bk_Hook_putOnTape_0 : blk 16 0 = some (((cd_Hook_putOnTape.lookup 0).getD ([], 0, []))) := rfl
theorem Hook_putOnTape_0 (d : Nat) (a0 : Nat) (x1 : Int) (h : Hp) : EX d 16 0 [(0, .inr (.inr a0)), (1, .inl x1)] [] h = EX d 16 3 [(0, .inr (.inr a0)), (1, .inl x1), (2, .inl 24)] [] h := (EX_at bk_Hook_putOnTape_0 _ _ _).trans rfl
theorem bk_Hook_putOnTape_3 : blk 16 3 = some (((cd_Hook_putOnTape.lookup 3).getD ([], 0, []))) := rfl
theorem Hook_putOnTape_3 (d : Nat) (a0 : Nat) (x1 : Int) (x2 : Int) (h : Hp) : EX d 16 3 [(0, .inr (.inr a0)), (1, .inl x1), (2, .inl x2)] [] h = if (wr x2) < 0 then EX d 16 46 [] [] h else EX d 16 7 [(0, .inr (.inr a0)), (1, .inl x1), (2, .inl x2)] [] h := (EX_at bk_Hook_putOnTape_3 _ _ _).trans rfl
theorem bk_Hook_putOnTape_7 : blk 16 7 = some (((cd_Hook_putOnTape.lookup 7).getD ([], 0, []))) := rfl
theorem Hook_putOnTape_7 (d : Nat) (a0 : Nat) (x1 : Int) (x2 : Int) (h : Hp) : EX d 16 7 [(0, .inr (.inr a0)), (1, .inl x1), (2, .inl x2)] [] h = if sK h a0 = 10 then if (wr (hI h a0 1)) < 900 then EX d 16 17 [(0, .inr (.inr a0)), (1, .inl x1), (2, .inl x2)] [] h else EX d 16 46 [] [] h else none := (EX_at bk_Hook_putOnTape_7 _ _ _).trans rfl
theorem bk_Hook_putOnTape_17 : blk 16 17 = some (((cd_Hook_putOnTape.lookup 17).getD ([], 0, []))) := rfl
theorem Hook_putOnTape_17 (d : Nat) (a0 : Nat) (x1 : Int) (x2 : Int) (h : Hp) : EX d 16 17 [(0, .inr (.inr a0)), (1, .inl x1), (2, .inl x2)] [] h = if sK h a0 = 10 then if sK h a0 = 10 then if okx h (hR h a0 0) 22 (hI h a0 1) then EX d 16 30 [(0, .inr (.inr a0)), (1, .inl x1), (2, .inl x2)] [] (pI h (hR h a0 0) (ix (hI h a0 1)) (bI2b (bI2b (bUshr x1 x2)))) else none else none else none := (EX_at bk_Hook_putOnTape_17 _ _ _).trans rfl
theorem bk_Hook_putOnTape_30 : blk 16 30 = some (((cd_Hook_putOnTape.lookup 30).getD ([], 0, []))) := rfl
theorem Hook_putOnTape_30 (d : Nat) (a0 : Nat) (x1 : Int) (x2 : Int) (h : Hp) : EX d 16 30 [(0, .inr (.inr a0)), (1, .inl x1), (2, .inl x2)] [] h = if sK h a0 = 10 then if sK h a0 = 10 then EX d 16 40 [(0, .inr (.inr a0)), (1, .inl x1), (2, .inl x2)] [] (pI h a0 1 ((hI h a0 1) + 1)) else none else none := (EX_at bk_Hook_putOnTape_30 _ _ _).trans rfl
theorem bk_Hook_putOnTape_40 : blk 16 40 = some (((cd_Hook_putOnTape.lookup 40).getD ([], 0, []))) := rfl
theorem Hook_putOnTape_40 (d : Nat) (a0 : Nat) (x1 : Int) (x2 : Int) (h : Hp) : EX d 16 40 [(0, .inr (.inr a0)), (1, .inl x1), (2, .inl x2)] [] h = EX d 16 3 [(0, .inr (.inr a0)), (1, .inl x1), (2, .inl (x2 + (-8)))] [] h := (EX_at bk_Hook_putOnTape_40 _ _ _).trans rfl
theorem bk_Hook_putOnTape_46 : blk 16 46 = some (((cd_Hook_putOnTape.lookup 46).getD ([], 0, []))) := rfl
theorem Hook_putOnTape_46 (d : Nat) (h : Hp) : EX d 16 46 [] [] h = some (.inl 0, h) := (EX_at bk_Hook_putOnTape_46 _ _ _).trans rfl
/-! feed(IIIII)I of HookOver: method 17 -/
theorem bk_Hook_feed_0 : blk 17 0 = some (((cd_Hook_feed.lookup 0).getD ([], 0, []))) := rfl
theorem Hook_feed_0 (d : Nat) (a0 : Nat) (x1 : Int) (x2 : Int) (x3 : Int) (x4 : Int) (x5 : Int) (h : Hp) : EX d 17 0 [(0, .inr (.inr a0)), (1, .inl x1), (2, .inl x2), (3, .inl x3), (4, .inl x4), (5, .inl x5)] [] h = if sK h a0 = 10 then if 900 < (wr ((hI h a0 1) + 20)) then EX d 17 13 [] [] h else EX d 17 16 [(0, .inr (.inr a0)), (1, .inl x1), (2, .inl x2), (3, .inl x3), (4, .inl x4), (5, .inl x5)] [] h else none := (EX_at bk_Hook_feed_0 _ _ _).trans rfl
theorem bk_Hook_feed_13 : blk 17 13 = some (((cd_Hook_feed.lookup 13).getD ([], 0, []))) := rfl
theorem Hook_feed_13 (d : Nat) (h : Hp) : EX d 17 13 [] [] h = some (.inl (-5), h) := (EX_at bk_Hook_feed_13 _ _ _).trans rfl
theorem bk_Hook_feed_16 : blk 17 16 = some (((cd_Hook_feed.lookup 16).getD ([], 0, []))) := rfl
theorem Hook_feed_16 (d : Nat) (a0 : Nat) (x1 : Int) (x2 : Int) (x3 : Int) (x4 : Int) (x5 : Int) (h : Hp) : EX d 17 16 [(0, .inr (.inr a0)), (1, .inl x1), (2, .inl x2), (3, .inl x3), (4, .inl x4), (5, .inl x5)] [] h = if sK h a0 = 10 then bak (EX d 17) 21 [(0, .inr (.inr a0)), (2, .inl x2), (3, .inl x3), (4, .inl x4), (5, .inl x5)] [] true (cal d 16 [.inr (.inr a0), .inl x1] h) else none := (EX_at bk_Hook_feed_16 _ _ _).trans rfl
theorem bk_Hook_feed_21 : blk 17 21 = some (((cd_Hook_feed.lookup 21).getD ([], 0, []))) := rfl
theorem Hook_feed_21 (d : Nat) (a0 : Nat) (x2 : Int) (x3 : Int) (x4 : Int) (x5 : Int) (h : Hp) : EX d 17 21 [(0, .inr (.inr a0)), (2, .inl x2), (3, .inl x3), (4, .inl x4), (5, .inl x5)] [] h = if sK h a0 = 10 then bak (EX d 17) 26 [(0, .inr (.inr a0)), (3, .inl x3), (4, .inl x4), (5, .inl x5)] [] true (cal d 16 [.inr (.inr a0), .inl x2] h) else none := (EX_at bk_Hook_feed_21 _ _ _).trans rfl
theorem bk_Hook_feed_26 : blk 17 26 = some (((cd_Hook_feed.lookup 26).getD ([], 0, []))) := rfl
theorem Hook_feed_26 (d : Nat) (a0 : Nat) (x3 : Int) (x4 : Int) (x5 : Int) (h : Hp) : EX d 17 26 [(0, .inr (.inr a0)), (3, .inl x3), (4, .inl x4), (5, .inl x5)] [] h = if sK h a0 = 10 then bak (EX d 17) 31 [(0, .inr (.inr a0)), (4, .inl x4), (5, .inl x5)] [] true (cal d 16 [.inr (.inr a0), .inl x3] h) else none := (EX_at bk_Hook_feed_26 _ _ _).trans rfl
theorem bk_Hook_feed_31 : blk 17 31 = some (((cd_Hook_feed.lookup 31).getD ([], 0, []))) := rfl
theorem Hook_feed_31 (d : Nat) (a0 : Nat) (x4 : Int) (x5 : Int) (h : Hp) : EX d 17 31 [(0, .inr (.inr a0)), (4, .inl x4), (5, .inl x5)] [] h = if sK h a0 = 10 then bak (EX d 17) 37 [(0, .inr (.inr a0)), (5, .inl x5)] [] true (cal d 16 [.inr (.inr a0), .inl x4] h) else none := (EX_at bk_Hook_feed_31 _ _ _).trans rfl
theorem bk_Hook_feed_37 : blk 17 37 = some (((cd_Hook_feed.lookup 37).getD ([], 0, []))) := rfl
theorem Hook_feed_37 (d : Nat) (a0 : Nat) (x5 : Int) (h : Hp) : EX d 17 37 [(0, .inr (.inr a0)), (5, .inl x5)] [] h = if sK h a0 = 10 then bak (EX d 17) 43 [(0, .inr (.inr a0))] [] true (cal d 16 [.inr (.inr a0), .inl x5] h) else none := (EX_at bk_Hook_feed_37 _ _ _).trans rfl
theorem bk_Hook_feed_43 : blk 17 43 = some (((cd_Hook_feed.lookup 43).getD ([], 0, []))) := rfl
theorem Hook_feed_43 (d : Nat) (a0 : Nat) (h : Hp) : EX d 17 43 [(0, .inr (.inr a0))] [] h = if sK h a0 = 10 then some (.inl (hI h a0 1), h) else none := (EX_at bk_Hook_feed_43 _ _ _).trans rfl
/-! window(I)I of HookOver: method 70 -/
theorem bk_Hook_window_0 : blk 70 0 = some (((cd_Hook_window.lookup 0).getD ([], 0, []))) := rfl
theorem Hook_window_0 (d : Nat) (a0 : Nat) (x1 : Int) (h : Hp) : EX d 70 0 [(0, .inr (.inr a0)), (1, .inl x1)] [] h = if (wr x1) < 0 then EX d 70 12 [] [] h else EX d 70 4 [(0, .inr (.inr a0)), (1, .inl x1)] [] h := (EX_at bk_Hook_window_0 _ _ _).trans rfl
theorem bk_Hook_window_4 : blk 70 4 = some (((cd_Hook_window.lookup 4).getD ([], 0, []))) := rfl
theorem Hook_window_4 (d : Nat) (a0 : Nat) (x1 : Int) (h : Hp) : EX d 70 4 [(0, .inr (.inr a0)), (1, .inl x1)] [] h = if sK h a0 = 10 then if (wr (hI h a0 1)) < (wr x1) then EX d 70 12 [] [] h else EX d 70 15 [(0, .inr (.inr a0)), (1, .inl x1)] [] h else none := (EX_at bk_Hook_window_4 _ _ _).trans rfl
theorem bk_Hook_window_12 : blk 70 12 = some (((cd_Hook_window.lookup 12).getD ([], 0, []))) := rfl
theorem Hook_window_12 (d : Nat) (h : Hp) : EX d 70 12 [] [] h = some (.inl (-3), h) := (EX_at bk_Hook_window_12 _ _ _).trans rfl
theorem bk_Hook_window_15 : blk 70 15 = some (((cd_Hook_window.lookup 15).getD ([], 0, []))) := rfl
theorem Hook_window_15 (d : Nat) (a0 : Nat) (x1 : Int) (h : Hp) : EX d 70 15 [(0, .inr (.inr a0)), (1, .inl x1)] [] h = if sK h a0 = 10 then EX d 70 20 [(0, .inr (.inr a0)), (1, .inl x1)] [] (pI h a0 1 0) else none := (EX_at bk_Hook_window_15 _ _ _).trans rfl
theorem bk_Hook_window_20 : blk 70 20 = some (((cd_Hook_window.lookup 20).getD ([], 0, []))) := rfl
theorem Hook_window_20 (d : Nat) (a0 : Nat) (x1 : Int) (h : Hp) : EX d 70 20 [(0, .inr (.inr a0)), (1, .inl x1)] [] h = if sK h a0 = 10 then if sK h a0 = 10 then if sK h a0 = 10 then if sK h a0 = 10 then if sK h (hR h a0 2) = 5 then bak (EX d 70) 40 [(0, .inr (.inr a0))] [] true (cal d 64 [.inr (.inr (hR h a0 2)), .inr (.inr (hR h a0 0)), .inl x1, .inr (.inr (hR h a0 6)), .inr (.inr (hR h a0 8))] h) else none else none else none else none else none := (EX_at bk_Hook_window_20 _ _ _).trans rfl
theorem bk_Hook_window_40 : blk 70 40 = some (((cd_Hook_window.lookup 40).getD ([], 0, []))) := rfl
theorem Hook_window_40 (d : Nat) (a0 : Nat) (h : Hp) : EX d 70 40 [(0, .inr (.inr a0))] [] h = if sK h a0 = 10 then if sK h (hR h a0 2) = 5 then bak (EX d 70) 48 [(0, .inr (.inr a0))] [.inr (.inr a0)] false (cal d 65 [.inr (.inr (hR h a0 2))] h) else none else none := (EX_at bk_Hook_window_40 _ _ _).trans rfl
theorem bk_Hook_window_48 : blk 70 48 = some (((cd_Hook_window.lookup 48).getD ([], 0, []))) := rfl
theorem Hook_window_48 (d : Nat) (a0 : Nat) (r0 : Nat) (s1 : Int) (h : Hp) : EX d 70 48 [(0, .inr (.inr a0))] [.inl s1, .inr (.inr r0)] h = if sK h r0 = 10 then EX d 70 51 [(0, .inr (.inr a0))] [] (pI h r0 3 s1) else none := (EX_at bk_Hook_window_48 _ _ _).trans rfl
theorem bk_Hook_window_51 : blk 70 51 = some (((cd_Hook_window.lookup 51).getD ([], 0, []))) := rfl
theorem Hook_window_51 (d : Nat) (a0 : Nat) (h : Hp) : EX d 70 51 [(0, .inr (.inr a0))] [] h = if sK h a0 = 10 then if sK h (hR h a0 2) = 5 then bak (EX d 70) 59 [(0, .inr (.inr a0))] [.inr (.inr a0)] false (cal d 66 [.inr (.inr (hR h a0 2))] h) else none else none := (EX_at bk_Hook_window_51 _ _ _).trans rfl
theorem bk_Hook_window_59 : blk 70 59 = some (((cd_Hook_window.lookup 59).getD ([], 0, []))) := rfl
theorem Hook_window_59 (d : Nat) (a0 : Nat) (r0 : Nat) (s1 : Int) (h : Hp) : EX d 70 59 [(0, .inr (.inr a0))] [.inl s1, .inr (.inr r0)] h = if sK h r0 = 10 then EX d 70 62 [(0, .inr (.inr a0))] [] (pI h r0 4 s1) else none := (EX_at bk_Hook_window_59 _ _ _).trans rfl
theorem bk_Hook_window_62 : blk 70 62 = some (((cd_Hook_window.lookup 62).getD ([], 0, []))) := rfl
theorem Hook_window_62 (d : Nat) (a0 : Nat) (h : Hp) : EX d 70 62 [(0, .inr (.inr a0))] [] h = if sK h a0 = 10 then if (wr (hI h a0 3)) = 0 then EX d 70 77 [(0, .inr (.inr a0))] [] h else EX d 70 69 [(0, .inr (.inr a0))] [] h else none := (EX_at bk_Hook_window_62 _ _ _).trans rfl
theorem bk_Hook_window_69 : blk 70 69 = some (((cd_Hook_window.lookup 69).getD ([], 0, []))) := rfl
theorem Hook_window_69 (d : Nat) (a0 : Nat) (h : Hp) : EX d 70 69 [(0, .inr (.inr a0))] [] h = if sK h a0 = 10 then some (.inl ((-30) - (hI h a0 3)), h) else none := (EX_at bk_Hook_window_69 _ _ _).trans rfl
theorem bk_Hook_window_77 : blk 70 77 = some (((cd_Hook_window.lookup 77).getD ([], 0, []))) := rfl
theorem Hook_window_77 (d : Nat) (a0 : Nat) (h : Hp) : EX d 70 77 [(0, .inr (.inr a0))] [] h = if sK h a0 = 10 then if sK h a0 = 10 then if sK h a0 = 10 then EX d 70 90 [(0, .inr (.inr a0)), (2, .inr (.inr (hR h a0 5)))] [] (pR h a0 5 (hR h a0 6)) else none else none else none := (EX_at bk_Hook_window_77 _ _ _).trans rfl
theorem bk_Hook_window_90 : blk 70 90 = some (((cd_Hook_window.lookup 90).getD ([], 0, []))) := rfl
theorem Hook_window_90 (d : Nat) (a0 : Nat) (a2 : Nat) (h : Hp) : EX d 70 90 [(0, .inr (.inr a0)), (2, .inr (.inr a2))] [] h = if sK h a0 = 10 then EX d 70 95 [(0, .inr (.inr a0))] [] (pR h a0 6 a2) else none := (EX_at bk_Hook_window_90 _ _ _).trans rfl
theorem bk_Hook_window_95 : blk 70 95 = some (((cd_Hook_window.lookup 95).getD ([], 0, []))) := rfl
theorem Hook_window_95 (d : Nat) (a0 : Nat) (h : Hp) : EX d 70 95 [(0, .inr (.inr a0))] [] h = if sK h a0 = 10 then if sK h a0 = 10 then if sK h (hR h a0 7) = 0 then bak (EX d 70) 106 [(0, .inr (.inr a0))] [] true (cal d 67 [.inr (.inr (hR h a0 7)), .inr (.inr (hR h a0 8))] h) else none else none else none := (EX_at bk_Hook_window_95 _ _ _).trans rfl
theorem bk_Hook_window_106 : blk 70 106 = some (((cd_Hook_window.lookup 106).getD ([], 0, []))) := rfl
theorem Hook_window_106 (d : Nat) (a0 : Nat) (h : Hp) : EX d 70 106 [(0, .inr (.inr a0))] [] h = if sK h a0 = 10 then if sK h (hR h a0 9) = 1 then bak (EX d 70) 113 [(0, .inr (.inr a0))] [] true (cal d 68 [.inr (.inr (hR h a0 9))] h) else none else none := (EX_at bk_Hook_window_106 _ _ _).trans rfl
theorem bk_Hook_window_113 : blk 70 113 = some (((cd_Hook_window.lookup 113).getD ([], 0, []))) := rfl
theorem Hook_window_113 (d : Nat) (a0 : Nat) (h : Hp) : EX d 70 113 [(0, .inr (.inr a0))] [] h = if sK h a0 = 10 then if sK h (hR h a0 14) = 2 then bak (EX d 70) 120 [(0, .inr (.inr a0))] [] true (cal d 69 [.inr (.inr (hR h a0 14))] h) else none else none := (EX_at bk_Hook_window_113 _ _ _).trans rfl
theorem bk_Hook_window_120 : blk 70 120 = some (((cd_Hook_window.lookup 120).getD ([], 0, []))) := rfl
theorem Hook_window_120 (d : Nat) (a0 : Nat) (h : Hp) : EX d 70 120 [(0, .inr (.inr a0))] [] h = if sK h a0 = 10 then if sK h (hR h a0 5) = 9 then some (.inl (hI h (hR h a0 5) 14), h) else none else none := (EX_at bk_Hook_window_120 _ _ _).trans rfl
/-! fault(I)I of HookOver: method 102 -/
theorem bk_Hook_fault_0 : blk 102 0 = some (((cd_Hook_fault.lookup 0).getD ([], 0, []))) := rfl
theorem Hook_fault_0 (d : Nat) (a0 : Nat) (x1 : Int) (h : Hp) : EX d 102 0 [(0, .inr (.inr a0)), (1, .inl x1)] [] h = if (wr x1) = 0 then EX d 102 4 [(0, .inr (.inr a0))] [] h else EX d 102 9 [(0, .inr (.inr a0)), (1, .inl x1)] [] h := (EX_at bk_Hook_fault_0 _ _ _).trans rfl
theorem bk_Hook_fault_4 : blk 102 4 = some (((cd_Hook_fault.lookup 4).getD ([], 0, []))) := rfl
theorem Hook_fault_4 (d : Nat) (a0 : Nat) (h : Hp) : EX d 102 4 [(0, .inr (.inr a0))] [] h = if sK h a0 = 10 then some (.inl (hI h a0 3), h) else none := (EX_at bk_Hook_fault_4 _ _ _).trans rfl
theorem bk_Hook_fault_9 : blk 102 9 = some (((cd_Hook_fault.lookup 9).getD ([], 0, []))) := rfl
theorem Hook_fault_9 (d : Nat) (a0 : Nat) (x1 : Int) (h : Hp) : EX d 102 9 [(0, .inr (.inr a0)), (1, .inl x1)] [] h = if (wr x1) = 1 then EX d 102 14 [(0, .inr (.inr a0))] [] h else EX d 102 21 [] [] h := (EX_at bk_Hook_fault_9 _ _ _).trans rfl
theorem bk_Hook_fault_14 : blk 102 14 = some (((cd_Hook_fault.lookup 14).getD ([], 0, []))) := rfl
theorem Hook_fault_14 (d : Nat) (a0 : Nat) (h : Hp) : EX d 102 14 [(0, .inr (.inr a0))] [] h = if sK h a0 = 10 then EX d 102 22 [] [.inl (hI h a0 4)] h else none := (EX_at bk_Hook_fault_14 _ _ _).trans rfl
theorem bk_Hook_fault_21 : blk 102 21 = some (((cd_Hook_fault.lookup 21).getD ([], 0, []))) := rfl
theorem Hook_fault_21 (d : Nat) (h : Hp) : EX d 102 21 [] [] h = EX d 102 22 [] [.inl (-1)] h := (EX_at bk_Hook_fault_21 _ _ _).trans rfl
theorem bk_Hook_fault_22 : blk 102 22 = some (((cd_Hook_fault.lookup 22).getD ([], 0, []))) := rfl
theorem Hook_fault_22 (d : Nat) (s0 : Int) (h : Hp) : EX d 102 22 [] [.inl s0] h = some (.inl s0, h) := (EX_at bk_Hook_fault_22 _ _ _).trans rfl
/-! hook(II)I of HookOver: method 107 -/
theorem bk_Hook_hook_0 : blk 107 0 = some (((cd_Hook_hook.lookup 0).getD ([], 0, []))) := rfl
theorem Hook_hook_0 (d : Nat) (a0 : Nat) (x1 : Int) (x2 : Int) (h : Hp) : EX d 107 0 [(0, .inr (.inr a0)), (1, .inl x1), (2, .inl x2)] [] h = if sK h a0 = 10 then if sK h (hR h a0 5) = 9 then bak (EX d 107) 8 [(0, .inr (.inr a0)), (1, .inl x1), (2, .inl x2)] [] false (cal d 35 [.inr (.inr (hR h a0 5)), .inl x1] h) else none else none := (EX_at bk_Hook_hook_0 _ _ _).trans rfl
theorem bk_Hook_hook_8 : blk 107 8 = some (((cd_Hook_hook.lookup 8).getD ([], 0, []))) := rfl
theorem Hook_hook_8 (d : Nat) (a0 : Nat) (x1 : Int) (x2 : Int) (s0 : Int) (h : Hp) : EX d 107 8 [(0, .inr (.inr a0)), (1, .inl x1), (2, .inl x2)] [.inl s0] h = if (wr s0) = 0 then EX d 107 11 [] [] h else EX d 107 14 [(0, .inr (.inr a0)), (1, .inl x1), (2, .inl x2)] [] h := (EX_at bk_Hook_hook_8 _ _ _).trans rfl
theorem bk_Hook_hook_11 : blk 107 11 = some (((cd_Hook_hook.lookup 11).getD ([], 0, []))) := rfl
theorem Hook_hook_11 (d : Nat) (h : Hp) : EX d 107 11 [] [] h = some (.inl (-2), h) := (EX_at bk_Hook_hook_11 _ _ _).trans rfl
theorem bk_Hook_hook_14 : blk 107 14 = some (((cd_Hook_hook.lookup 14).getD ([], 0, []))) := rfl
theorem Hook_hook_14 (d : Nat) (a0 : Nat) (x1 : Int) (x2 : Int) (h : Hp) : EX d 107 14 [(0, .inr (.inr a0)), (1, .inl x1), (2, .inl x2)] [] h = if (wr x2) = 0 then EX d 107 48 [(0, .inr (.inr a0)), (1, .inl x1)] [] h else if (wr x2) = 1 then EX d 107 58 [(0, .inr (.inr a0)), (1, .inl x1)] [] h else if (wr x2) = 2 then EX d 107 68 [(0, .inr (.inr a0)), (1, .inl x1)] [] h else if (wr x2) = 3 then EX d 107 107 [(0, .inr (.inr a0)), (1, .inl x1)] [] h else if (wr x2) = 4 then EX d 107 120 [(0, .inr (.inr a0)), (1, .inl x1)] [] h else EX d 107 141 [(0, .inr (.inr a0)), (1, .inl x1)] [] h := (EX_at bk_Hook_hook_14 _ _ _).trans rfl
theorem bk_Hook_hook_48 : blk 107 48 = some (((cd_Hook_hook.lookup 48).getD ([], 0, []))) := rfl
theorem Hook_hook_48 (d : Nat) (a0 : Nat) (x1 : Int) (h : Hp) : EX d 107 48 [(0, .inr (.inr a0)), (1, .inl x1)] [] h = if sK h a0 = 10 then if sK h (hR h a0 7) = 0 then if okx h (hR h (hR h a0 7) 0) 20 x1 then some (.inl (hI h (hR h (hR h a0 7) 0) (ix x1)), h) else none else none else none := (EX_at bk_Hook_hook_48 _ _ _).trans rfl
theorem bk_Hook_hook_58 : blk 107 58 = some (((cd_Hook_hook.lookup 58).getD ([], 0, []))) := rfl
theorem Hook_hook_58 (d : Nat) (a0 : Nat) (x1 : Int) (h : Hp) : EX d 107 58 [(0, .inr (.inr a0)), (1, .inl x1)] [] h = if sK h a0 = 10 then if sK h (hR h a0 5) = 9 then if okx h (hR h (hR h a0 5) 2) 20 x1 then some (.inl (hI h (hR h (hR h a0 5) 2) (ix x1)), h) else none else none else none := (EX_at bk_Hook_hook_58 _ _ _).trans rfl
theorem bk_Hook_hook_68 : blk 107 68 = some (((cd_Hook_hook.lookup 68).getD ([], 0, []))) := rfl
theorem Hook_hook_68 (d : Nat) (a0 : Nat) (x1 : Int) (h : Hp) : EX d 107 68 [(0, .inr (.inr a0)), (1, .inl x1)] [] h = if sK h a0 = 10 then if sK h (hR h a0 5) = 9 then if (wr (x1 + 1)) < (wr (hI h (hR h a0 5) 5)) then EX d 107 81 [(0, .inr (.inr a0)), (1, .inl x1)] [] h else EX d 107 105 [] [] h else none else none := (EX_at bk_Hook_hook_68 _ _ _).trans rfl
theorem bk_Hook_hook_81 : blk 107 81 = some (((cd_Hook_hook.lookup 81).getD ([], 0, []))) := rfl
theorem Hook_hook_81 (d : Nat) (a0 : Nat) (x1 : Int) (h : Hp) : EX d 107 81 [(0, .inr (.inr a0)), (1, .inl x1)] [] h = if sK h a0 = 10 then if sK h (hR h a0 5) = 9 then if okx h (hR h (hR h a0 5) 0) 20 (x1 + 1) then if sK h a0 = 10 then if sK h (hR h a0 5) = 9 then if okx h (hR h (hR h a0 5) 0) 20 x1 then EX d 107 106 [] [.inl ((hI h (hR h (hR h a0 5) 0) (ix (x1 + 1))) - (hI h (hR h (hR h a0 5) 0) (ix x1)))] h else none else none else none else none else none else none := (EX_at bk_Hook_hook_81 _ _ _).trans rfl
theorem bk_Hook_hook_105 : blk 107 105 = some (((cd_Hook_hook.lookup 105).getD ([], 0, []))) := rfl
theorem Hook_hook_105 (d : Nat) (h : Hp) : EX d 107 105 [] [] h = EX d 107 106 [] [.inl (-1)] h := (EX_at bk_Hook_hook_105 _ _ _).trans rfl
theorem bk_Hook_hook_106 : blk 107 106 = some (((cd_Hook_hook.lookup 106).getD ([], 0, []))) := rfl
theorem Hook_hook_106 (d : Nat) (s0 : Int) (h : Hp) : EX d 107 106 [] [.inl s0] h = some (.inl s0, h) := (EX_at bk_Hook_hook_106 _ _ _).trans rfl
theorem bk_Hook_hook_107 : blk 107 107 = some (((cd_Hook_hook.lookup 107).getD ([], 0, []))) := rfl
theorem Hook_hook_107 (d : Nat) (a0 : Nat) (x1 : Int) (h : Hp) : EX d 107 107 [(0, .inr (.inr a0)), (1, .inl x1)] [] h = if sK h a0 = 10 then if sK h a0 = 10 then if sK h (hR h a0 7) = 0 then bak (EX d 107) 119 [] [] false (cal d 104 [.inr (.inr (hR h a0 7)), .inr (.inr (hR h a0 5)), .inl x1] h) else none else none else none := (EX_at bk_Hook_hook_107 _ _ _).trans rfl
theorem bk_Hook_hook_119 : blk 107 119 = some (((cd_Hook_hook.lookup 119).getD ([], 0, []))) := rfl
theorem Hook_hook_119 (d : Nat) (s0 : Int) (h : Hp) : EX d 107 119 [] [.inl s0] h = some (.inl s0, h) := (EX_at bk_Hook_hook_119 _ _ _).trans rfl
theorem bk_Hook_hook_120 : blk 107 120 = some (((cd_Hook_hook.lookup 120).getD ([], 0, []))) := rfl
theorem Hook_hook_120 (d : Nat) (a0 : Nat) (x1 : Int) (h : Hp) : EX d 107 120 [(0, .inr (.inr a0)), (1, .inl x1)] [] h = if sK h a0 = 10 then if sK h a0 = 10 then if sK h (hR h a0 7) = 0 then bak (EX d 107) 132 [] [] false (cal d 106 [.inr (.inr (hR h a0 7)), .inr (.inr (hR h a0 5)), .inl x1] h) else none else none else none := (EX_at bk_Hook_hook_120 _ _ _).trans rfl
theorem bk_Hook_hook_132 : blk 107 132 = some (((cd_Hook_hook.lookup 132).getD ([], 0, []))) := rfl
theorem Hook_hook_132 (d : Nat) (s0 : Int) (h : Hp) : EX d 107 132 [] [.inl s0] h = if (wr s0) = 0 then EX d 107 139 [] [] h else EX d 107 135 [] [] h := (EX_at bk_Hook_hook_132 _ _ _).trans rfl
theorem bk_Hook_hook_135 : blk 107 135 = some (((cd_Hook_hook.lookup 135).getD ([], 0, []))) := rfl
theorem Hook_hook_135 (d : Nat) (h : Hp) : EX d 107 135 [] [] h = EX d 107 140 [] [.inl 1] h := (EX_at bk_Hook_hook_135 _ _ _).trans rfl
theorem bk_Hook_hook_139 : blk 107 139 = some (((cd_Hook_hook.lookup 139).getD ([], 0, []))) := rfl
theorem Hook_hook_139 (d : Nat) (h : Hp) : EX d 107 139 [] [] h = EX d 107 140 [] [.inl 0] h := (EX_at bk_Hook_hook_139 _ _ _).trans rfl
theorem bk_Hook_hook_140 : blk 107 140 = some (((cd_Hook_hook.lookup 140).getD ([], 0, []))) := rfl
theorem Hook_hook_140 (d : Nat) (s0 : Int) (h : Hp) : EX d 107 140 [] [.inl s0] h = some (.inl s0, h) := (EX_at bk_Hook_hook_140 _ _ _).trans rfl
theorem bk_Hook_hook_141 : blk 107 141 = some (((cd_Hook_hook.lookup 141).getD ([], 0, []))) := rfl
theorem Hook_hook_141 (d : Nat) (a0 : Nat) (x1 : Int) (h : Hp) : EX d 107 141 [(0, .inr (.inr a0)), (1, .inl x1)] [] h = some (.inl (-2), h) := (EX_at bk_Hook_hook_141 _ _ _).trans rfl
/-! ring(II)I of HookOver: method 116 -/
theorem bk_Hook_ring_0 : blk 116 0 = some (((cd_Hook_ring.lookup 0).getD ([], 0, []))) := rfl
theorem Hook_ring_0 (d : Nat) (a0 : Nat) (x1 : Int) (x2 : Int) (h : Hp) : EX d 116 0 [(0, .inr (.inr a0)), (1, .inl x1), (2, .inl x2)] [] h = if sK h a0 = 10 then if sK h (hR h a0 5) = 9 then bak (EX d 116) 8 [(0, .inr (.inr a0)), (1, .inl x1), (2, .inl x2)] [] false (cal d 36 [.inr (.inr (hR h a0 5)), .inl x1] h) else none else none := (EX_at bk_Hook_ring_0 _ _ _).trans rfl
theorem bk_Hook_ring_8 : blk 116 8 = some (((cd_Hook_ring.lookup 8).getD ([], 0, []))) := rfl
theorem Hook_ring_8 (d : Nat) (a0 : Nat) (x1 : Int) (x2 : Int) (s0 : Int) (h : Hp) : EX d 116 8 [(0, .inr (.inr a0)), (1, .inl x1), (2, .inl x2)] [.inl s0] h = if (wr s0) = 0 then EX d 116 11 [] [] h else EX d 116 14 [(0, .inr (.inr a0)), (1, .inl x1), (2, .inl x2)] [] h := (EX_at bk_Hook_ring_8 _ _ _).trans rfl
theorem bk_Hook_ring_11 : blk 116 11 = some (((cd_Hook_ring.lookup 11).getD ([], 0, []))) := rfl
theorem Hook_ring_11 (d : Nat) (h : Hp) : EX d 116 11 [] [] h = some (.inl (-2), h) := (EX_at bk_Hook_ring_11 _ _ _).trans rfl
theorem bk_Hook_ring_14 : blk 116 14 = some (((cd_Hook_ring.lookup 14).getD ([], 0, []))) := rfl
theorem Hook_ring_14 (d : Nat) (a0 : Nat) (x1 : Int) (x2 : Int) (h : Hp) : EX d 116 14 [(0, .inr (.inr a0)), (1, .inl x1), (2, .inl x2)] [] h = if (wr x2) = 0 then EX d 116 44 [(0, .inr (.inr a0)), (1, .inl x1)] [] h else if (wr x2) = 1 then EX d 116 57 [(0, .inr (.inr a0)), (1, .inl x1)] [] h else if (wr x2) = 2 then EX d 116 67 [(0, .inr (.inr a0)), (1, .inl x1)] [] h else if (wr x2) = 3 then EX d 116 106 [(0, .inr (.inr a0)), (1, .inl x1)] [] h else EX d 116 123 [(0, .inr (.inr a0)), (1, .inl x1)] [] h := (EX_at bk_Hook_ring_14 _ _ _).trans rfl
theorem bk_Hook_ring_44 : blk 116 44 = some (((cd_Hook_ring.lookup 44).getD ([], 0, []))) := rfl
theorem Hook_ring_44 (d : Nat) (a0 : Nat) (x1 : Int) (h : Hp) : EX d 116 44 [(0, .inr (.inr a0)), (1, .inl x1)] [] h = if sK h a0 = 10 then if sK h a0 = 10 then if sK h (hR h a0 7) = 0 then bak (EX d 116) 56 [] [] false (cal d 39 [.inr (.inr (hR h a0 7)), .inr (.inr (hR h a0 5)), .inl x1] h) else none else none else none := (EX_at bk_Hook_ring_44 _ _ _).trans rfl
theorem bk_Hook_ring_56 : blk 116 56 = some (((cd_Hook_ring.lookup 56).getD ([], 0, []))) := rfl
theorem Hook_ring_56 (d : Nat) (s0 : Int) (h : Hp) : EX d 116 56 [] [.inl s0] h = some (.inl s0, h) := (EX_at bk_Hook_ring_56 _ _ _).trans rfl
theorem bk_Hook_ring_57 : blk 116 57 = some (((cd_Hook_ring.lookup 57).getD ([], 0, []))) := rfl
theorem Hook_ring_57 (d : Nat) (a0 : Nat) (x1 : Int) (h : Hp) : EX d 116 57 [(0, .inr (.inr a0)), (1, .inl x1)] [] h = if sK h a0 = 10 then if sK h (hR h a0 5) = 9 then if okx h (hR h (hR h a0 5) 3) 20 x1 then some (.inl (hI h (hR h (hR h a0 5) 3) (ix x1)), h) else none else none else none := (EX_at bk_Hook_ring_57 _ _ _).trans rfl
theorem bk_Hook_ring_67 : blk 116 67 = some (((cd_Hook_ring.lookup 67).getD ([], 0, []))) := rfl
theorem Hook_ring_67 (d : Nat) (a0 : Nat) (x1 : Int) (h : Hp) : EX d 116 67 [(0, .inr (.inr a0)), (1, .inl x1)] [] h = if sK h a0 = 10 then if sK h (hR h a0 5) = 9 then if (wr (x1 + 1)) < (wr (hI h (hR h a0 5) 6)) then EX d 116 80 [(0, .inr (.inr a0)), (1, .inl x1)] [] h else EX d 116 104 [] [] h else none else none := (EX_at bk_Hook_ring_67 _ _ _).trans rfl
theorem bk_Hook_ring_80 : blk 116 80 = some (((cd_Hook_ring.lookup 80).getD ([], 0, []))) := rfl
theorem Hook_ring_80 (d : Nat) (a0 : Nat) (x1 : Int) (h : Hp) : EX d 116 80 [(0, .inr (.inr a0)), (1, .inl x1)] [] h = if sK h a0 = 10 then if sK h (hR h a0 5) = 9 then if okx h (hR h (hR h a0 5) 1) 20 (x1 + 1) then if sK h a0 = 10 then if sK h (hR h a0 5) = 9 then if okx h (hR h (hR h a0 5) 1) 20 x1 then EX d 116 105 [] [.inl ((hI h (hR h (hR h a0 5) 1) (ix (x1 + 1))) - (hI h (hR h (hR h a0 5) 1) (ix x1)))] h else none else none else none else none else none else none := (EX_at bk_Hook_ring_80 _ _ _).trans rfl
theorem bk_Hook_ring_104 : blk 116 104 = some (((cd_Hook_ring.lookup 104).getD ([], 0, []))) := rfl
theorem Hook_ring_104 (d : Nat) (h : Hp) : EX d 116 104 [] [] h = EX d 116 105 [] [.inl (-1)] h := (EX_at bk_Hook_ring_104 _ _ _).trans rfl
theorem bk_Hook_ring_105 : blk 116 105 = some (((cd_Hook_ring.lookup 105).getD ([], 0, []))) := rfl
theorem Hook_ring_105 (d : Nat) (s0 : Int) (h : Hp) : EX d 116 105 [] [.inl s0] h = some (.inl s0, h) := (EX_at bk_Hook_ring_105 _ _ _).trans rfl
theorem bk_Hook_ring_106 : blk 116 106 = some (((cd_Hook_ring.lookup 106).getD ([], 0, []))) := rfl
theorem Hook_ring_106 (d : Nat) (a0 : Nat) (x1 : Int) (h : Hp) : EX d 116 106 [(0, .inr (.inr a0)), (1, .inl x1)] [] h = if sK h a0 = 10 then if sK h (hR h a0 5) = 9 then bak (EX d 116) 114 [] [] false (cal d 38 [.inr (.inr (hR h a0 5)), .inl x1] h) else none else none := (EX_at bk_Hook_ring_106 _ _ _).trans rfl
theorem bk_Hook_ring_114 : blk 116 114 = some (((cd_Hook_ring.lookup 114).getD ([], 0, []))) := rfl
theorem Hook_ring_114 (d : Nat) (s0 : Int) (h : Hp) : EX d 116 114 [] [.inl s0] h = if (wr s0) = 0 then EX d 116 121 [] [] h else EX d 116 117 [] [] h := (EX_at bk_Hook_ring_114 _ _ _).trans rfl
theorem bk_Hook_ring_117 : blk 116 117 = some (((cd_Hook_ring.lookup 117).getD ([], 0, []))) := rfl
theorem Hook_ring_117 (d : Nat) (h : Hp) : EX d 116 117 [] [] h = EX d 116 122 [] [.inl 1] h := (EX_at bk_Hook_ring_117 _ _ _).trans rfl
theorem bk_Hook_ring_121 : blk 116 121 = some (((cd_Hook_ring.lookup 121).getD ([], 0, []))) := rfl
theorem Hook_ring_121 (d : Nat) (h : Hp) : EX d 116 121 [] [] h = EX d 116 122 [] [.inl 0] h := (EX_at bk_Hook_ring_121 _ _ _).trans rfl
theorem bk_Hook_ring_122 : blk 116 122 = some (((cd_Hook_ring.lookup 122).getD ([], 0, []))) := rfl
theorem Hook_ring_122 (d : Nat) (s0 : Int) (h : Hp) : EX d 116 122 [] [.inl s0] h = some (.inl s0, h) := (EX_at bk_Hook_ring_122 _ _ _).trans rfl
theorem bk_Hook_ring_123 : blk 116 123 = some (((cd_Hook_ring.lookup 123).getD ([], 0, []))) := rfl
theorem Hook_ring_123 (d : Nat) (a0 : Nat) (x1 : Int) (h : Hp) : EX d 116 123 [(0, .inr (.inr a0)), (1, .inl x1)] [] h = some (.inl (-2), h) := (EX_at bk_Hook_ring_123 _ _ _).trans rfl
/-! belongs(II)I of HookOver: method 119 -/
theorem bk_Hook_belongs_0 : blk 119 0 = some (((cd_Hook_belongs.lookup 0).getD ([], 0, []))) := rfl
theorem Hook_belongs_0 (d : Nat) (a0 : Nat) (x1 : Int) (x2 : Int) (h : Hp) : EX d 119 0 [(0, .inr (.inr a0)), (1, .inl x1), (2, .inl x2)] [] h = if sK h a0 = 10 then if sK h (hR h a0 5) = 9 then bak (EX d 119) 8 [(0, .inr (.inr a0)), (1, .inl x1), (2, .inl x2)] [] false (cal d 35 [.inr (.inr (hR h a0 5)), .inl x1] h) else none else none := (EX_at bk_Hook_belongs_0 _ _ _).trans rfl
theorem bk_Hook_belongs_8 : blk 119 8 = some (((cd_Hook_belongs.lookup 8).getD ([], 0, []))) := rfl
theorem Hook_belongs_8 (d : Nat) (a0 : Nat) (x1 : Int) (x2 : Int) (s0 : Int) (h : Hp) : EX d 119 8 [(0, .inr (.inr a0)), (1, .inl x1), (2, .inl x2)] [.inl s0] h = if (wr s0) = 0 then EX d 119 22 [] [] h else EX d 119 11 [(0, .inr (.inr a0)), (1, .inl x1), (2, .inl x2)] [] h := (EX_at bk_Hook_belongs_8 _ _ _).trans rfl
theorem bk_Hook_belongs_11 : blk 119 11 = some (((cd_Hook_belongs.lookup 11).getD ([], 0, []))) := rfl
theorem Hook_belongs_11 (d : Nat) (a0 : Nat) (x1 : Int) (x2 : Int) (h : Hp) : EX d 119 11 [(0, .inr (.inr a0)), (1, .inl x1), (2, .inl x2)] [] h = if sK h a0 = 10 then if sK h (hR h a0 5) = 9 then bak (EX d 119) 19 [(0, .inr (.inr a0)), (1, .inl x1), (2, .inl x2)] [] false (cal d 36 [.inr (.inr (hR h a0 5)), .inl x2] h) else none else none := (EX_at bk_Hook_belongs_11 _ _ _).trans rfl
theorem bk_Hook_belongs_19 : blk 119 19 = some (((cd_Hook_belongs.lookup 19).getD ([], 0, []))) := rfl
theorem Hook_belongs_19 (d : Nat) (a0 : Nat) (x1 : Int) (x2 : Int) (s0 : Int) (h : Hp) : EX d 119 19 [(0, .inr (.inr a0)), (1, .inl x1), (2, .inl x2)] [.inl s0] h = if (wr s0) = 0 then EX d 119 22 [] [] h else EX d 119 25 [(0, .inr (.inr a0)), (1, .inl x1), (2, .inl x2)] [] h := (EX_at bk_Hook_belongs_19 _ _ _).trans rfl
theorem bk_Hook_belongs_22 : blk 119 22 = some (((cd_Hook_belongs.lookup 22).getD ([], 0, []))) := rfl
theorem Hook_belongs_22 (d : Nat) (h : Hp) : EX d 119 22 [] [] h = some (.inl (-2), h) := (EX_at bk_Hook_belongs_22 _ _ _).trans rfl
theorem bk_Hook_belongs_25 : blk 119 25 = some (((cd_Hook_belongs.lookup 25).getD ([], 0, []))) := rfl
theorem Hook_belongs_25 (d : Nat) (a0 : Nat) (x1 : Int) (x2 : Int) (h : Hp) : EX d 119 25 [(0, .inr (.inr a0)), (1, .inl x1), (2, .inl x2)] [] h = if sK h a0 = 10 then if sK h (hR h a0 5) = 9 then bak (EX d 119) 34 [] [] false (cal d 105 [.inr (.inr (hR h a0 5)), .inl x1, .inl x2] h) else none else none := (EX_at bk_Hook_belongs_25 _ _ _).trans rfl
theorem bk_Hook_belongs_34 : blk 119 34 = some (((cd_Hook_belongs.lookup 34).getD ([], 0, []))) := rfl
theorem Hook_belongs_34 (d : Nat) (s0 : Int) (h : Hp) : EX d 119 34 [] [.inl s0] h = if (wr s0) = 0 then EX d 119 41 [] [] h else EX d 119 37 [] [] h := (EX_at bk_Hook_belongs_34 _ _ _).trans rfl
theorem bk_Hook_belongs_37 : blk 119 37 = some (((cd_Hook_belongs.lookup 37).getD ([], 0, []))) := rfl
theorem Hook_belongs_37 (d : Nat) (h : Hp) : EX d 119 37 [] [] h = EX d 119 42 [] [.inl 1] h := (EX_at bk_Hook_belongs_37 _ _ _).trans rfl
theorem bk_Hook_belongs_41 : blk 119 41 = some (((cd_Hook_belongs.lookup 41).getD ([], 0, []))) := rfl
theorem Hook_belongs_41 (d : Nat) (h : Hp) : EX d 119 41 [] [] h = EX d 119 42 [] [.inl 0] h := (EX_at bk_Hook_belongs_41 _ _ _).trans rfl
theorem bk_Hook_belongs_42 : blk 119 42 = some (((cd_Hook_belongs.lookup 42).getD ([], 0, []))) := rfl
theorem Hook_belongs_42 (d : Nat) (s0 : Int) (h : Hp) : EX d 119 42 [] [.inl s0] h = some (.inl s0, h) := (EX_at bk_Hook_belongs_42 _ _ _).trans rfl
/-! sags(I)I of HookOver: method 125 -/
theorem bk_Hook_sags_0 : blk 125 0 = some (((cd_Hook_sags.lookup 0).getD ([], 0, []))) := rfl
theorem Hook_sags_0 (d : Nat) (a0 : Nat) (x1 : Int) (h : Hp) : EX d 125 0 [(0, .inr (.inr a0)), (1, .inl x1)] [] h = if (wr x1) = 0 then EX d 125 36 [(0, .inr (.inr a0))] [] h else if (wr x1) = 1 then EX d 125 48 [(0, .inr (.inr a0))] [] h else if (wr x1) = 2 then EX d 125 60 [(0, .inr (.inr a0))] [] h else if (wr x1) = 3 then EX d 125 72 [(0, .inr (.inr a0))] [] h else if (wr x1) = 4 then EX d 125 85 [(0, .inr (.inr a0))] [] h else EX d 125 98 [(0, .inr (.inr a0))] [] h := (EX_at bk_Hook_sags_0 _ _ _).trans rfl
theorem bk_Hook_sags_36 : blk 125 36 = some (((cd_Hook_sags.lookup 36).getD ([], 0, []))) := rfl
theorem Hook_sags_36 (d : Nat) (a0 : Nat) (h : Hp) : EX d 125 36 [(0, .inr (.inr a0))] [] h = if sK h a0 = 10 then if sK h a0 = 10 then if sK h (hR h a0 7) = 0 then bak (EX d 125) 47 [] [] false (cal d 121 [.inr (.inr (hR h a0 7)), .inr (.inr (hR h a0 5))] h) else none else none else none := (EX_at bk_Hook_sags_36 _ _ _).trans rfl
theorem bk_Hook_sags_47 : blk 125 47 = some (((cd_Hook_sags.lookup 47).getD ([], 0, []))) := rfl
theorem Hook_sags_47 (d : Nat) (s0 : Int) (h : Hp) : EX d 125 47 [] [.inl s0] h = some (.inl s0, h) := (EX_at bk_Hook_sags_47 _ _ _).trans rfl
theorem bk_Hook_sags_48 : blk 125 48 = some (((cd_Hook_sags.lookup 48).getD ([], 0, []))) := rfl
theorem Hook_sags_48 (d : Nat) (a0 : Nat) (h : Hp) : EX d 125 48 [(0, .inr (.inr a0))] [] h = if sK h a0 = 10 then if sK h a0 = 10 then if sK h (hR h a0 7) = 0 then bak (EX d 125) 59 [] [] false (cal d 122 [.inr (.inr (hR h a0 7)), .inr (.inr (hR h a0 5))] h) else none else none else none := (EX_at bk_Hook_sags_48 _ _ _).trans rfl
theorem bk_Hook_sags_59 : blk 125 59 = some (((cd_Hook_sags.lookup 59).getD ([], 0, []))) := rfl
theorem Hook_sags_59 (d : Nat) (s0 : Int) (h : Hp) : EX d 125 59 [] [.inl s0] h = some (.inl s0, h) := (EX_at bk_Hook_sags_59 _ _ _).trans rfl
theorem bk_Hook_sags_60 : blk 125 60 = some (((cd_Hook_sags.lookup 60).getD ([], 0, []))) := rfl
theorem Hook_sags_60 (d : Nat) (a0 : Nat) (h : Hp) : EX d 125 60 [(0, .inr (.inr a0))] [] h = if sK h a0 = 10 then if sK h a0 = 10 then if sK h (hR h a0 7) = 0 then bak (EX d 125) 71 [] [] false (cal d 123 [.inr (.inr (hR h a0 7)), .inr (.inr (hR h a0 5))] h) else none else none else none := (EX_at bk_Hook_sags_60 _ _ _).trans rfl
theorem bk_Hook_sags_71 : blk 125 71 = some (((cd_Hook_sags.lookup 71).getD ([], 0, []))) := rfl
theorem Hook_sags_71 (d : Nat) (s0 : Int) (h : Hp) : EX d 125 71 [] [.inl s0] h = some (.inl s0, h) := (EX_at bk_Hook_sags_71 _ _ _).trans rfl
theorem bk_Hook_sags_72 : blk 125 72 = some (((cd_Hook_sags.lookup 72).getD ([], 0, []))) := rfl
theorem Hook_sags_72 (d : Nat) (a0 : Nat) (h : Hp) : EX d 125 72 [(0, .inr (.inr a0))] [] h = if sK h a0 = 10 then if sK h a0 = 10 then if sK h (hR h a0 7) = 0 then bak (EX d 125) 84 [] [] false (cal d 124 [.inr (.inr (hR h a0 7)), .inr (.inr (hR h a0 5)), .inl 0] h) else none else none else none := (EX_at bk_Hook_sags_72 _ _ _).trans rfl
theorem bk_Hook_sags_84 : blk 125 84 = some (((cd_Hook_sags.lookup 84).getD ([], 0, []))) := rfl
theorem Hook_sags_84 (d : Nat) (s0 : Int) (h : Hp) : EX d 125 84 [] [.inl s0] h = some (.inl s0, h) := (EX_at bk_Hook_sags_84 _ _ _).trans rfl
theorem bk_Hook_sags_85 : blk 125 85 = some (((cd_Hook_sags.lookup 85).getD ([], 0, []))) := rfl
theorem Hook_sags_85 (d : Nat) (a0 : Nat) (h : Hp) : EX d 125 85 [(0, .inr (.inr a0))] [] h = if sK h a0 = 10 then if sK h a0 = 10 then if sK h (hR h a0 7) = 0 then bak (EX d 125) 97 [] [] false (cal d 124 [.inr (.inr (hR h a0 7)), .inr (.inr (hR h a0 5)), .inl 1] h) else none else none else none := (EX_at bk_Hook_sags_85 _ _ _).trans rfl
theorem bk_Hook_sags_97 : blk 125 97 = some (((cd_Hook_sags.lookup 97).getD ([], 0, []))) := rfl
theorem Hook_sags_97 (d : Nat) (s0 : Int) (h : Hp) : EX d 125 97 [] [.inl s0] h = some (.inl s0, h) := (EX_at bk_Hook_sags_97 _ _ _).trans rfl
theorem bk_Hook_sags_98 : blk 125 98 = some (((cd_Hook_sags.lookup 98).getD ([], 0, []))) := rfl
theorem Hook_sags_98 (d : Nat) (a0 : Nat) (h : Hp) : EX d 125 98 [(0, .inr (.inr a0))] [] h = some (.inl (-2), h) := (EX_at bk_Hook_sags_98 _ _ _).trans rfl
/-! why(II)I of HookOver: method 128 -/
theorem bk_Hook_why_0 : blk 128 0 = some (((cd_Hook_why.lookup 0).getD ([], 0, []))) := rfl
theorem Hook_why_0 (d : Nat) (a0 : Nat) (x1 : Int) (x2 : Int) (h : Hp) : EX d 128 0 [(0, .inr (.inr a0)), (1, .inl x1), (2, .inl x2)] [] h = if sK h a0 = 10 then if sK h a0 = 10 then if sK h (hR h a0 7) = 0 then bak (EX d 128) 13 [] [] false (cal d 43 [.inr (.inr (hR h a0 7)), .inr (.inr (hR h a0 5)), .inl x1, .inl x2] h) else none else none else none := (EX_at bk_Hook_why_0 _ _ _).trans rfl
theorem bk_Hook_why_13 : blk 128 13 = some (((cd_Hook_why.lookup 13).getD ([], 0, []))) := rfl
theorem Hook_why_13 (d : Nat) (s0 : Int) (h : Hp) : EX d 128 13 [] [.inl s0] h = some (.inl s0, h) := (EX_at bk_Hook_why_13 _ _ _).trans rfl
/-! join(II)I of HookOver: method 136 -/
theorem bk_Hook_join_0 : blk 136 0 = some (((cd_Hook_join.lookup 0).getD ([], 0, []))) := rfl
theorem Hook_join_0 (d : Nat) (a0 : Nat) (x1 : Int) (x2 : Int) (h : Hp) : EX d 136 0 [(0, .inr (.inr a0)), (1, .inl x1), (2, .inl x2)] [] h = if sK h a0 = 10 then if sK h a0 = 10 then if sK h (hR h a0 7) = 0 then bak (EX d 136) 13 [(0, .inr (.inr a0)), (1, .inl x1), (2, .inl x2)] [] false (cal d 43 [.inr (.inr (hR h a0 7)), .inr (.inr (hR h a0 5)), .inl x1, .inl x2] h) else none else none else none := (EX_at bk_Hook_join_0 _ _ _).trans rfl
theorem bk_Hook_join_13 : blk 136 13 = some (((cd_Hook_join.lookup 13).getD ([], 0, []))) := rfl
theorem Hook_join_13 (d : Nat) (a0 : Nat) (x1 : Int) (x2 : Int) (s0 : Int) (h : Hp) : EX d 136 13 [(0, .inr (.inr a0)), (1, .inl x1), (2, .inl x2)] [.inl s0] h = if (wr s0) = 0 then EX d 136 23 [(0, .inr (.inr a0)), (1, .inl x1), (2, .inl x2)] [] h else EX d 136 18 [(3, .inl s0)] [] h := (EX_at bk_Hook_join_13 _ _ _).trans rfl
theorem bk_Hook_join_18 : blk 136 18 = some (((cd_Hook_join.lookup 18).getD ([], 0, []))) := rfl
theorem Hook_join_18 (d : Nat) (x3 : Int) (h : Hp) : EX d 136 18 [(3, .inl x3)] [] h = some (.inl ((-10) - x3), h) := (EX_at bk_Hook_join_18 _ _ _).trans rfl
theorem bk_Hook_join_23 : blk 136 23 = some (((cd_Hook_join.lookup 23).getD ([], 0, []))) := rfl
theorem Hook_join_23 (d : Nat) (a0 : Nat) (x1 : Int) (x2 : Int) (h : Hp) : EX d 136 23 [(0, .inr (.inr a0)), (1, .inl x1), (2, .inl x2)] [] h = if sK h a0 = 10 then if sK h a0 = 10 then if sK h (hR h a0 9) = 1 then bak (EX d 136) 34 [(0, .inr (.inr a0)), (1, .inl x1), (2, .inl x2)] [] true (cal d 130 [.inr (.inr (hR h a0 9)), .inr (.inr (hR h a0 7))] h) else none else none else none := (EX_at bk_Hook_join_23 _ _ _).trans rfl
theorem bk_Hook_join_34 : blk 136 34 = some (((cd_Hook_join.lookup 34).getD ([], 0, []))) := rfl
theorem Hook_join_34 (d : Nat) (a0 : Nat) (x1 : Int) (x2 : Int) (h : Hp) : EX d 136 34 [(0, .inr (.inr a0)), (1, .inl x1), (2, .inl x2)] [] h = if sK h a0 = 10 then if sK h a0 = 10 then if sK h (hR h a0 7) = 0 then bak (EX d 136) 47 [] [] false (cal d 135 [.inr (.inr (hR h a0 7)), .inr (.inr (hR h a0 5)), .inl x1, .inl x2] h) else none else none else none := (EX_at bk_Hook_join_34 _ _ _).trans rfl
theorem bk_Hook_join_47 : blk 136 47 = some (((cd_Hook_join.lookup 47).getD ([], 0, []))) := rfl
theorem Hook_join_47 (d : Nat) (s0 : Int) (h : Hp) : EX d 136 47 [] [.inl s0] h = some (.inl s0, h) := (EX_at bk_Hook_join_47 _ _ _).trans rfl
/-! unhook(I)I of HookOver: method 146 -/
theorem bk_Hook_unhook_0 : blk 146 0 = some (((cd_Hook_unhook.lookup 0).getD ([], 0, []))) := rfl
theorem Hook_unhook_0 (d : Nat) (a0 : Nat) (x1 : Int) (h : Hp) : EX d 146 0 [(0, .inr (.inr a0)), (1, .inl x1)] [] h = if sK h a0 = 10 then if sK h a0 = 10 then if sK h (hR h a0 7) = 0 then bak (EX d 146) 12 [(0, .inr (.inr a0)), (1, .inl x1)] [] false (cal d 144 [.inr (.inr (hR h a0 7)), .inr (.inr (hR h a0 5)), .inl x1] h) else none else none else none := (EX_at bk_Hook_unhook_0 _ _ _).trans rfl
theorem bk_Hook_unhook_12 : blk 146 12 = some (((cd_Hook_unhook.lookup 12).getD ([], 0, []))) := rfl
theorem Hook_unhook_12 (d : Nat) (a0 : Nat) (x1 : Int) (s0 : Int) (h : Hp) : EX d 146 12 [(0, .inr (.inr a0)), (1, .inl x1)] [.inl s0] h = if (wr s0) = 0 then EX d 146 22 [(0, .inr (.inr a0)), (1, .inl x1)] [] h else EX d 146 17 [(2, .inl s0)] [] h := (EX_at bk_Hook_unhook_12 _ _ _).trans rfl
theorem bk_Hook_unhook_17 : blk 146 17 = some (((cd_Hook_unhook.lookup 17).getD ([], 0, []))) := rfl
theorem Hook_unhook_17 (d : Nat) (x2 : Int) (h : Hp) : EX d 146 17 [(2, .inl x2)] [] h = some (.inl ((-10) - x2), h) := (EX_at bk_Hook_unhook_17 _ _ _).trans rfl
theorem bk_Hook_unhook_22 : blk 146 22 = some (((cd_Hook_unhook.lookup 22).getD ([], 0, []))) := rfl
theorem Hook_unhook_22 (d : Nat) (a0 : Nat) (x1 : Int) (h : Hp) : EX d 146 22 [(0, .inr (.inr a0)), (1, .inl x1)] [] h = if sK h a0 = 10 then if sK h a0 = 10 then if sK h (hR h a0 9) = 1 then bak (EX d 146) 33 [(0, .inr (.inr a0)), (1, .inl x1)] [] true (cal d 130 [.inr (.inr (hR h a0 9)), .inr (.inr (hR h a0 7))] h) else none else none else none := (EX_at bk_Hook_unhook_22 _ _ _).trans rfl
theorem bk_Hook_unhook_33 : blk 146 33 = some (((cd_Hook_unhook.lookup 33).getD ([], 0, []))) := rfl
theorem Hook_unhook_33 (d : Nat) (a0 : Nat) (x1 : Int) (h : Hp) : EX d 146 33 [(0, .inr (.inr a0)), (1, .inl x1)] [] h = if sK h a0 = 10 then if sK h a0 = 10 then if sK h (hR h a0 7) = 0 then bak (EX d 146) 45 [] [] false (cal d 145 [.inr (.inr (hR h a0 7)), .inr (.inr (hR h a0 5)), .inl x1] h) else none else none else none := (EX_at bk_Hook_unhook_33 _ _ _).trans rfl
theorem bk_Hook_unhook_45 : blk 146 45 = some (((cd_Hook_unhook.lookup 45).getD ([], 0, []))) := rfl
theorem Hook_unhook_45 (d : Nat) (s0 : Int) (h : Hp) : EX d 146 45 [] [.inl s0] h = some (.inl s0, h) := (EX_at bk_Hook_unhook_45 _ _ _).trans rfl
/-! undo(I)I of HookOver: method 152 -/
theorem bk_Hook_undo_0 : blk 152 0 = some (((cd_Hook_undo.lookup 0).getD ([], 0, []))) := rfl
theorem Hook_undo_0 (d : Nat) (a0 : Nat) (x1 : Int) (h : Hp) : EX d 152 0 [(0, .inr (.inr a0)), (1, .inl x1)] [] h = if (wr x1) < 1 then EX d 152 22 [] [] h else EX d 152 5 [(0, .inr (.inr a0)), (1, .inl x1)] [] h := (EX_at bk_Hook_undo_0 _ _ _).trans rfl
theorem bk_Hook_undo_5 : blk 152 5 = some (((cd_Hook_undo.lookup 5).getD ([], 0, []))) := rfl
theorem Hook_undo_5 (d : Nat) (a0 : Nat) (x1 : Int) (h : Hp) : EX d 152 5 [(0, .inr (.inr a0)), (1, .inl x1)] [] h = if 10 < (wr x1) then EX d 152 22 [] [] h else EX d 152 11 [(0, .inr (.inr a0)), (1, .inl x1)] [] h := (EX_at bk_Hook_undo_5 _ _ _).trans rfl
theorem bk_Hook_undo_11 : blk 152 11 = some (((cd_Hook_undo.lookup 11).getD ([], 0, []))) := rfl
theorem Hook_undo_11 (d : Nat) (a0 : Nat) (x1 : Int) (h : Hp) : EX d 152 11 [(0, .inr (.inr a0)), (1, .inl x1)] [] h = if sK h a0 = 10 then if sK h (hR h a0 9) = 1 then if (wr (hI h (hR h a0 9) 2)) < (wr x1) then EX d 152 22 [] [] h else EX d 152 25 [(0, .inr (.inr a0)), (1, .inl x1)] [] h else none else none := (EX_at bk_Hook_undo_11 _ _ _).trans rfl
theorem bk_Hook_undo_22 : blk 152 22 = some (((cd_Hook_undo.lookup 22).getD ([], 0, []))) := rfl
theorem Hook_undo_22 (d : Nat) (h : Hp) : EX d 152 22 [] [] h = some (.inl (-3), h) := (EX_at bk_Hook_undo_22 _ _ _).trans rfl
theorem bk_Hook_undo_25 : blk 152 25 = some (((cd_Hook_undo.lookup 25).getD ([], 0, []))) := rfl
theorem Hook_undo_25 (d : Nat) (a0 : Nat) (x1 : Int) (h : Hp) : EX d 152 25 [(0, .inr (.inr a0)), (1, .inl x1)] [] h = if sK h a0 = 10 then if sK h a0 = 10 then if sK h (hR h a0 9) = 1 then bak (EX d 152) 37 [(0, .inr (.inr a0))] [] true (cal d 151 [.inr (.inr (hR h a0 9)), .inl x1, .inr (.inr (hR h a0 7))] h) else none else none else none := (EX_at bk_Hook_undo_25 _ _ _).trans rfl
theorem bk_Hook_undo_37 : blk 152 37 = some (((cd_Hook_undo.lookup 37).getD ([], 0, []))) := rfl
theorem Hook_undo_37 (d : Nat) (a0 : Nat) (h : Hp) : EX d 152 37 [(0, .inr (.inr a0))] [] h = if sK h a0 = 10 then if sK h (hR h a0 9) = 1 then some (.inl (hI h (hR h a0 9) 2), h) else none else none := (EX_at bk_Hook_undo_37 _ _ _).trans rfl
/-! isTray(I)Z of HookOver: method 154 -/
theorem bk_Hook_isTray_0 : blk 154 0 = some (((cd_Hook_isTray.lookup 0).getD ([], 0, []))) := rfl
theorem Hook_isTray_0 (d : Nat) (x0 : Int) (h : Hp) : EX d 154 0 [(0, .inl x0)] [] h = if (wr x0) < 0 then EX d 154 13 [] [] h else EX d 154 4 [(0, .inl x0)] [] h := (EX_at bk_Hook_isTray_0 _ _ _).trans rfl
theorem bk_Hook_isTray_4 : blk 154 4 = some (((cd_Hook_isTray.lookup 4).getD ([], 0, []))) := rfl
theorem Hook_isTray_4 (d : Nat) (x0 : Int) (h : Hp) : EX d 154 4 [(0, .inl x0)] [] h = if (wr x0) < 4 then EX d 154 9 [] [] h else EX d 154 13 [] [] h := (EX_at bk_Hook_isTray_4 _ _ _).trans rfl
theorem bk_Hook_isTray_9 : blk 154 9 = some (((cd_Hook_isTray.lookup 9).getD ([], 0, []))) := rfl
theorem Hook_isTray_9 (d : Nat) (h : Hp) : EX d 154 9 [] [] h = EX d 154 14 [] [.inl 1] h := (EX_at bk_Hook_isTray_9 _ _ _).trans rfl
theorem bk_Hook_isTray_13 : blk 154 13 = some (((cd_Hook_isTray.lookup 13).getD ([], 0, []))) := rfl
theorem Hook_isTray_13 (d : Nat) (h : Hp) : EX d 154 13 [] [] h = EX d 154 14 [] [.inl 0] h := (EX_at bk_Hook_isTray_13 _ _ _).trans rfl
theorem bk_Hook_isTray_14 : blk 154 14 = some (((cd_Hook_isTray.lookup 14).getD ([], 0, []))) := rfl
theorem Hook_isTray_14 (d : Nat) (s0 : Int) (h : Hp) : EX d 154 14 [] [.inl s0] h = if ((s0 : Int) = 0 ∨ (s0 : Int) = 1) then some (.inl s0, h) else none := (EX_at bk_Hook_isTray_14 _ _ _).trans rfl
/-! judge(II)I of HookOver: method 161 -/
theorem bk_Hook_judge_0 : blk 161 0 = some (((cd_Hook_judge.lookup 0).getD ([], 0, []))) := rfl
theorem Hook_judge_0 (d : Nat) (a0 : Nat) (x1 : Int) (x2 : Int) (h : Hp) : EX d 161 0 [(0, .inr (.inr a0)), (1, .inl x1), (2, .inl x2)] [] h = bak (EX d 161) 4 [(0, .inr (.inr a0)), (1, .inl x1), (2, .inl x2)] [] false (cal d 154 [.inl x1] h) := (EX_at bk_Hook_judge_0 _ _ _).trans rfl
theorem bk_Hook_judge_4 : blk 161 4 = some (((cd_Hook_judge.lookup 4).getD ([], 0, []))) := rfl
theorem Hook_judge_4 (d : Nat) (a0 : Nat) (x1 : Int) (x2 : Int) (s0 : Int) (h : Hp) : EX d 161 4 [(0, .inr (.inr a0)), (1, .inl x1), (2, .inl x2)] [.inl s0] h = if (wr s0) = 0 then EX d 161 16 [] [] h else EX d 161 7 [(0, .inr (.inr a0)), (1, .inl x1), (2, .inl x2)] [] h := (EX_at bk_Hook_judge_4 _ _ _).trans rfl
theorem bk_Hook_judge_7 : blk 161 7 = some (((cd_Hook_judge.lookup 7).getD ([], 0, []))) := rfl
theorem Hook_judge_7 (d : Nat) (a0 : Nat) (x1 : Int) (x2 : Int) (h : Hp) : EX d 161 7 [(0, .inr (.inr a0)), (1, .inl x1), (2, .inl x2)] [] h = if (wr x2) < 0 then EX d 161 16 [] [] h else EX d 161 11 [(0, .inr (.inr a0)), (1, .inl x1), (2, .inl x2)] [] h := (EX_at bk_Hook_judge_7 _ _ _).trans rfl
theorem bk_Hook_judge_11 : blk 161 11 = some (((cd_Hook_judge.lookup 11).getD ([], 0, []))) := rfl
theorem Hook_judge_11 (d : Nat) (a0 : Nat) (x1 : Int) (x2 : Int) (h : Hp) : EX d 161 11 [(0, .inr (.inr a0)), (1, .inl x1), (2, .inl x2)] [] h = if 3 < (wr x2) then EX d 161 16 [] [] h else EX d 161 19 [(0, .inr (.inr a0)), (1, .inl x1), (2, .inl x2)] [] h := (EX_at bk_Hook_judge_11 _ _ _).trans rfl
theorem bk_Hook_judge_16 : blk 161 16 = some (((cd_Hook_judge.lookup 16).getD ([], 0, []))) := rfl
theorem Hook_judge_16 (d : Nat) (h : Hp) : EX d 161 16 [] [] h = some (.inl (-2), h) := (EX_at bk_Hook_judge_16 _ _ _).trans rfl
theorem bk_Hook_judge_19 : blk 161 19 = some (((cd_Hook_judge.lookup 19).getD ([], 0, []))) := rfl
theorem Hook_judge_19 (d : Nat) (a0 : Nat) (x1 : Int) (x2 : Int) (h : Hp) : EX d 161 19 [(0, .inr (.inr a0)), (1, .inl x1), (2, .inl x2)] [] h = if sK h a0 = 10 then if okx h (hR h a0 10) 24 x1 then if sK h (hR h (hR h a0 10) (ix x1)) = 7 then bak (EX d 161) 30 [(0, .inr (.inr a0)), (2, .inl x2), (3, .inr (.inr (hR h (hR h a0 10) (ix x1))))] [] false (cal d 155 [.inr (.inr (hR h (hR h a0 10) (ix x1)))] h) else none else none else none := (EX_at bk_Hook_judge_19 _ _ _).trans rfl
theorem bk_Hook_judge_30 : blk 161 30 = some (((cd_Hook_judge.lookup 30).getD ([], 0, []))) := rfl
theorem Hook_judge_30 (d : Nat) (a0 : Nat) (x2 : Int) (a3 : Nat) (s0 : Int) (h : Hp) : EX d 161 30 [(0, .inr (.inr a0)), (2, .inl x2), (3, .inr (.inr a3))] [.inl s0] h = if (wr s0) = 0 then EX d 161 36 [(0, .inr (.inr a0)), (2, .inl x2), (3, .inr (.inr a3))] [] h else EX d 161 33 [] [] h := (EX_at bk_Hook_judge_30 _ _ _).trans rfl
theorem bk_Hook_judge_33 : blk 161 33 = some (((cd_Hook_judge.lookup 33).getD ([], 0, []))) := rfl
theorem Hook_judge_33 (d : Nat) (h : Hp) : EX d 161 33 [] [] h = some (.inl (-6), h) := (EX_at bk_Hook_judge_33 _ _ _).trans rfl
theorem bk_Hook_judge_36 : blk 161 36 = some (((cd_Hook_judge.lookup 36).getD ([], 0, []))) := rfl
theorem Hook_judge_36 (d : Nat) (a0 : Nat) (x2 : Int) (a3 : Nat) (h : Hp) : EX d 161 36 [(0, .inr (.inr a0)), (2, .inl x2), (3, .inr (.inr a3))] [] h = if sK h a0 = 10 then if sK h a0 = 10 then if sK h (hR h a0 8) = 0 then bak (EX d 161) 47 [(0, .inr (.inr a0)), (2, .inl x2), (3, .inr (.inr a3))] [] true (cal d 67 [.inr (.inr (hR h a0 8)), .inr (.inr (hR h a0 7))] h) else none else none else none := (EX_at bk_Hook_judge_36 _ _ _).trans rfl
theorem bk_Hook_judge_47 : blk 161 47 = some (((cd_Hook_judge.lookup 47).getD ([], 0, []))) := rfl
theorem Hook_judge_47 (d : Nat) (a0 : Nat) (x2 : Int) (a3 : Nat) (h : Hp) : EX d 161 47 [(0, .inr (.inr a0)), (2, .inl x2), (3, .inr (.inr a3))] [] h = if sK h a0 = 10 then if sK h a0 = 10 then if sK h (hR h a0 8) = 0 then bak (EX d 161) 59 [(0, .inr (.inr a0)), (2, .inl x2), (3, .inr (.inr a3))] [] false (cal d 160 [.inr (.inr (hR h a0 8)), .inr (.inr (hR h a0 5)), .inr (.inr a3)] h) else none else none else none := (EX_at bk_Hook_judge_47 _ _ _).trans rfl
theorem bk_Hook_judge_59 : blk 161 59 = some (((cd_Hook_judge.lookup 59).getD ([], 0, []))) := rfl
theorem Hook_judge_59 (d : Nat) (a0 : Nat) (x2 : Int) (a3 : Nat) (s0 : Int) (h : Hp) : EX d 161 59 [(0, .inr (.inr a0)), (2, .inl x2), (3, .inr (.inr a3))] [.inl s0] h = if sK h a3 = 7 then if (wr s0) < (wr (hI h a3 2)) then EX d 161 70 [(0, .inr (.inr a0)), (2, .inl x2), (3, .inr (.inr a3)), (4, .inl s0)] [] h else EX d 161 74 [(0, .inr (.inr a0)), (2, .inl x2), (3, .inr (.inr a3)), (4, .inl s0)] [] h else none := (EX_at bk_Hook_judge_59 _ _ _).trans rfl
theorem bk_Hook_judge_70 : blk 161 70 = some (((cd_Hook_judge.lookup 70).getD ([], 0, []))) := rfl
theorem Hook_judge_70 (d : Nat) (a0 : Nat) (x2 : Int) (a3 : Nat) (x4 : Int) (h : Hp) : EX d 161 70 [(0, .inr (.inr a0)), (2, .inl x2), (3, .inr (.inr a3)), (4, .inl x4)] [] h = EX d 161 75 [(0, .inr (.inr a0)), (2, .inl x2), (3, .inr (.inr a3)), (4, .inl x4)] [.inl 1] h := (EX_at bk_Hook_judge_70 _ _ _).trans rfl
theorem bk_Hook_judge_74 : blk 161 74 = some (((cd_Hook_judge.lookup 74).getD ([], 0, []))) := rfl
theorem Hook_judge_74 (d : Nat) (a0 : Nat) (x2 : Int) (a3 : Nat) (x4 : Int) (h : Hp) : EX d 161 74 [(0, .inr (.inr a0)), (2, .inl x2), (3, .inr (.inr a3)), (4, .inl x4)] [] h = EX d 161 75 [(0, .inr (.inr a0)), (2, .inl x2), (3, .inr (.inr a3)), (4, .inl x4)] [.inl 0] h := (EX_at bk_Hook_judge_74 _ _ _).trans rfl
theorem bk_Hook_judge_75 : blk 161 75 = some (((cd_Hook_judge.lookup 75).getD ([], 0, []))) := rfl
theorem Hook_judge_75 (d : Nat) (a0 : Nat) (x2 : Int) (a3 : Nat) (x4 : Int) (s0 : Int) (h : Hp) : EX d 161 75 [(0, .inr (.inr a0)), (2, .inl x2), (3, .inr (.inr a3)), (4, .inl x4)] [.inl s0] h = if (wr x2) = 0 then EX d 161 104 [(0, .inr (.inr a0)), (3, .inr (.inr a3)), (4, .inl x4), (5, .inl s0)] [] h else if (wr x2) = 1 then EX d 161 116 [(0, .inr (.inr a0)), (3, .inr (.inr a3)), (4, .inl x4), (5, .inl s0)] [] h else if (wr x2) = 2 then EX d 161 143 [(0, .inr (.inr a0)), (3, .inr (.inr a3)), (4, .inl x4), (5, .inl s0)] [] h else EX d 161 159 [(0, .inr (.inr a0)), (3, .inr (.inr a3)), (4, .inl x4), (5, .inl s0)] [] h := (EX_at bk_Hook_judge_75 _ _ _).trans rfl
theorem bk_Hook_judge_104 : blk 161 104 = some (((cd_Hook_judge.lookup 104).getD ([], 0, []))) := rfl
theorem Hook_judge_104 (d : Nat) (a0 : Nat) (a3 : Nat) (x4 : Int) (x5 : Int) (h : Hp) : EX d 161 104 [(0, .inr (.inr a0)), (3, .inr (.inr a3)), (4, .inl x4), (5, .inl x5)] [] h = if (wr x5) = 0 then EX d 161 114 [] [] h else EX d 161 109 [(4, .inl x4)] [] h := (EX_at bk_Hook_judge_104 _ _ _).trans rfl
theorem bk_Hook_judge_109 : blk 161 109 = some (((cd_Hook_judge.lookup 109).getD ([], 0, []))) := rfl
theorem Hook_judge_109 (d : Nat) (x4 : Int) (h : Hp) : EX d 161 109 [(4, .inl x4)] [] h = EX d 161 115 [] [.inl x4] h := (EX_at bk_Hook_judge_109 _ _ _).trans rfl
theorem bk_Hook_judge_114 : blk 161 114 = some (((cd_Hook_judge.lookup 114).getD ([], 0, []))) := rfl
theorem Hook_judge_114 (d : Nat) (h : Hp) : EX d 161 114 [] [] h = EX d 161 115 [] [.inl (-1)] h := (EX_at bk_Hook_judge_114 _ _ _).trans rfl
theorem bk_Hook_judge_115 : blk 161 115 = some (((cd_Hook_judge.lookup 115).getD ([], 0, []))) := rfl
theorem Hook_judge_115 (d : Nat) (s0 : Int) (h : Hp) : EX d 161 115 [] [.inl s0] h = some (.inl s0, h) := (EX_at bk_Hook_judge_115 _ _ _).trans rfl
theorem bk_Hook_judge_116 : blk 161 116 = some (((cd_Hook_judge.lookup 116).getD ([], 0, []))) := rfl
theorem Hook_judge_116 (d : Nat) (a0 : Nat) (a3 : Nat) (x4 : Int) (x5 : Int) (h : Hp) : EX d 161 116 [(0, .inr (.inr a0)), (3, .inr (.inr a3)), (4, .inl x4), (5, .inl x5)] [] h = if (wr x5) = 0 then EX d 161 141 [] [] h else EX d 161 121 [(0, .inr (.inr a0)), (3, .inr (.inr a3)), (4, .inl x4)] [] h := (EX_at bk_Hook_judge_116 _ _ _).trans rfl
theorem bk_Hook_judge_121 : blk 161 121 = some (((cd_Hook_judge.lookup 121).getD ([], 0, []))) := rfl
theorem Hook_judge_121 (d : Nat) (a0 : Nat) (a3 : Nat) (x4 : Int) (h : Hp) : EX d 161 121 [(0, .inr (.inr a0)), (3, .inr (.inr a3)), (4, .inl x4)] [] h = if sK h a0 = 10 then if sK h a0 = 10 then if sK h a3 = 7 then bak (EX d 161) 135 [] [.inr (.inr (hR h a0 5)), .inr (.inr (hR h a0 8))] false (cal d 156 [.inr (.inr a3), .inl x4] h) else none else none else none := (EX_at bk_Hook_judge_121 _ _ _).trans rfl
theorem bk_Hook_judge_135 : blk 161 135 = some (((cd_Hook_judge.lookup 135).getD ([], 0, []))) := rfl
theorem Hook_judge_135 (d : Nat) (r0 : Nat) (r1 : Nat) (t2 : Int) (h : Hp) : EX d 161 135 [] [.inr (.inl t2), .inr (.inr r1), .inr (.inr r0)] h = if sK h r0 = 0 then bak (EX d 161) 138 [] [] false (cal d 159 [.inr (.inr r0), .inr (.inr r1), .inr (.inl t2)] h) else none := (EX_at bk_Hook_judge_135 _ _ _).trans rfl
theorem bk_Hook_judge_138 : blk 161 138 = some (((cd_Hook_judge.lookup 138).getD ([], 0, []))) := rfl
theorem Hook_judge_138 (d : Nat) (s0 : Int) (h : Hp) : EX d 161 138 [] [.inl s0] h = EX d 161 142 [] [.inl s0] h := (EX_at bk_Hook_judge_138 _ _ _).trans rfl
theorem bk_Hook_judge_141 : blk 161 141 = some (((cd_Hook_judge.lookup 141).getD ([], 0, []))) := rfl
theorem Hook_judge_141 (d : Nat) (h : Hp) : EX d 161 141 [] [] h = EX d 161 142 [] [.inl 0] h := (EX_at bk_Hook_judge_141 _ _ _).trans rfl
theorem bk_Hook_judge_142 : blk 161 142 = some (((cd_Hook_judge.lookup 142).getD ([], 0, []))) := rfl
theorem Hook_judge_142 (d : Nat) (s0 : Int) (h : Hp) : EX d 161 142 [] [.inl s0] h = some (.inl s0, h) := (EX_at bk_Hook_judge_142 _ _ _).trans rfl
theorem bk_Hook_judge_143 : blk 161 143 = some (((cd_Hook_judge.lookup 143).getD ([], 0, []))) := rfl
theorem Hook_judge_143 (d : Nat) (a0 : Nat) (a3 : Nat) (x4 : Int) (x5 : Int) (h : Hp) : EX d 161 143 [(0, .inr (.inr a0)), (3, .inr (.inr a3)), (4, .inl x4), (5, .inl x5)] [] h = if sK h a0 = 10 then if sK h (hR h a0 8) = 0 then if sK h a0 = 10 then if sK h (hR h a0 7) = 0 then some (.inl ((hI h (hR h a0 8) 2) - (hI h (hR h a0 7) 2)), h) else none else none else none else none := (EX_at bk_Hook_judge_143 _ _ _).trans rfl
theorem bk_Hook_judge_159 : blk 161 159 = some (((cd_Hook_judge.lookup 159).getD ([], 0, []))) := rfl
theorem Hook_judge_159 (d : Nat) (a0 : Nat) (a3 : Nat) (x4 : Int) (x5 : Int) (h : Hp) : EX d 161 159 [(0, .inr (.inr a0)), (3, .inr (.inr a3)), (4, .inl x4), (5, .inl x5)] [] h = if sK h a0 = 10 then if sK h a0 = 10 then if sK h (hR h a0 8) = 0 then bak (EX d 161) 170 [] [] false (cal d 121 [.inr (.inr (hR h a0 8)), .inr (.inr (hR h a0 5))] h) else none else none else none := (EX_at bk_Hook_judge_159 _ _ _).trans rfl
theorem bk_Hook_judge_170 : blk 161 170 = some (((cd_Hook_judge.lookup 170).getD ([], 0, []))) := rfl
theorem Hook_judge_170 (d : Nat) (s0 : Int) (h : Hp) : EX d 161 170 [] [.inl s0] h = some (.inl s0, h) := (EX_at bk_Hook_judge_170 _ _ _).trans rfl
/-! trayCode(I)I of HookOver: method 167 -/
theorem bk_Hook_trayCode_0 : blk 167 0 = some (((cd_Hook_trayCode.lookup 0).getD ([], 0, []))) := rfl
theorem Hook_trayCode_0 (d : Nat) (a0 : Nat) (x1 : Int) (h : Hp) : EX d 167 0 [(0, .inr (.inr a0)), (1, .inl x1)] [] h = bak (EX d 167) 4 [(0, .inr (.inr a0)), (1, .inl x1)] [] false (cal d 154 [.inl x1] h) := (EX_at bk_Hook_trayCode_0 _ _ _).trans rfl
theorem bk_Hook_trayCode_4 : blk 167 4 = some (((cd_Hook_trayCode.lookup 4).getD ([], 0, []))) := rfl
theorem Hook_trayCode_4 (d : Nat) (a0 : Nat) (x1 : Int) (s0 : Int) (h : Hp) : EX d 167 4 [(0, .inr (.inr a0)), (1, .inl x1)] [.inl s0] h = if (wr s0) = 0 then EX d 167 7 [] [] h else EX d 167 10 [(0, .inr (.inr a0)), (1, .inl x1)] [] h := (EX_at bk_Hook_trayCode_4 _ _ _).trans rfl
theorem bk_Hook_trayCode_7 : blk 167 7 = some (((cd_Hook_trayCode.lookup 7).getD ([], 0, []))) := rfl
theorem Hook_trayCode_7 (d : Nat) (h : Hp) : EX d 167 7 [] [] h = some (.inl (-2), h) := (EX_at bk_Hook_trayCode_7 _ _ _).trans rfl
theorem bk_Hook_trayCode_10 : blk 167 10 = some (((cd_Hook_trayCode.lookup 10).getD ([], 0, []))) := rfl
theorem Hook_trayCode_10 (d : Nat) (a0 : Nat) (x1 : Int) (h : Hp) : EX d 167 10 [(0, .inr (.inr a0)), (1, .inl x1)] [] h = if sK h a0 = 10 then if okx h (hR h a0 10) 24 x1 then if sK h (hR h (hR h a0 10) (ix x1)) = 7 then bak (EX d 167) 19 [] [] false (cal d 155 [.inr (.inr (hR h (hR h a0 10) (ix x1)))] h) else none else none else none := (EX_at bk_Hook_trayCode_10 _ _ _).trans rfl
theorem bk_Hook_trayCode_19 : blk 167 19 = some (((cd_Hook_trayCode.lookup 19).getD ([], 0, []))) := rfl
theorem Hook_trayCode_19 (d : Nat) (s0 : Int) (h : Hp) : EX d 167 19 [] [.inl s0] h = if (wr s0) = 0 then EX d 167 27 [] [] h else EX d 167 22 [] [] h := (EX_at bk_Hook_trayCode_19 _ _ _).trans rfl
theorem bk_Hook_trayCode_22 : blk 167 22 = some (((cd_Hook_trayCode.lookup 22).getD ([], 0, []))) := rfl
theorem Hook_trayCode_22 (d : Nat) (h : Hp) : EX d 167 22 [] [] h = EX d 167 28 [] [.inl (-6)] h := (EX_at bk_Hook_trayCode_22 _ _ _).trans rfl
theorem bk_Hook_trayCode_27 : blk 167 27 = some (((cd_Hook_trayCode.lookup 27).getD ([], 0, []))) := rfl
theorem Hook_trayCode_27 (d : Nat) (h : Hp) : EX d 167 27 [] [] h = EX d 167 28 [] [.inl 0] h := (EX_at bk_Hook_trayCode_27 _ _ _).trans rfl
theorem bk_Hook_trayCode_28 : blk 167 28 = some (((cd_Hook_trayCode.lookup 28).getD ([], 0, []))) := rfl
theorem Hook_trayCode_28 (d : Nat) (s0 : Int) (h : Hp) : EX d 167 28 [] [.inl s0] h = some (.inl s0, h) := (EX_at bk_Hook_trayCode_28 _ _ _).trans rfl
/-! perform(I)I of HookOver: method 168 -/
theorem bk_Hook_perform_0 : blk 168 0 = some (((cd_Hook_perform.lookup 0).getD ([], 0, []))) := rfl
theorem Hook_perform_0 (d : Nat) (a0 : Nat) (x1 : Int) (h : Hp) : EX d 168 0 [(0, .inr (.inr a0)), (1, .inl x1)] [] h = if sK h a0 = 10 then bak (EX d 168) 5 [(0, .inr (.inr a0)), (1, .inl x1)] [] false (cal d 167 [.inr (.inr a0), .inl x1] h) else none := (EX_at bk_Hook_perform_0 _ _ _).trans rfl
theorem bk_Hook_perform_5 : blk 168 5 = some (((cd_Hook_perform.lookup 5).getD ([], 0, []))) := rfl
theorem Hook_perform_5 (d : Nat) (a0 : Nat) (x1 : Int) (s0 : Int) (h : Hp) : EX d 168 5 [(0, .inr (.inr a0)), (1, .inl x1)] [.inl s0] h = if (wr s0) = 0 then EX d 168 12 [(0, .inr (.inr a0)), (1, .inl x1)] [] h else EX d 168 10 [(2, .inl s0)] [] h := (EX_at bk_Hook_perform_5 _ _ _).trans rfl
theorem bk_Hook_perform_10 : blk 168 10 = some (((cd_Hook_perform.lookup 10).getD ([], 0, []))) := rfl
theorem Hook_perform_10 (d : Nat) (x2 : Int) (h : Hp) : EX d 168 10 [(2, .inl x2)] [] h = some (.inl x2, h) := (EX_at bk_Hook_perform_10 _ _ _).trans rfl
theorem bk_Hook_perform_12 : blk 168 12 = some (((cd_Hook_perform.lookup 12).getD ([], 0, []))) := rfl
theorem Hook_perform_12 (d : Nat) (a0 : Nat) (x1 : Int) (h : Hp) : EX d 168 12 [(0, .inr (.inr a0)), (1, .inl x1)] [] h = if sK h a0 = 10 then if sK h a0 = 10 then if sK h (hR h a0 8) = 0 then bak (EX d 168) 23 [(0, .inr (.inr a0)), (1, .inl x1)] [] true (cal d 67 [.inr (.inr (hR h a0 8)), .inr (.inr (hR h a0 7))] h) else none else none else none := (EX_at bk_Hook_perform_12 _ _ _).trans rfl
theorem bk_Hook_perform_23 : blk 168 23 = some (((cd_Hook_perform.lookup 23).getD ([], 0, []))) := rfl
theorem Hook_perform_23 (d : Nat) (a0 : Nat) (x1 : Int) (h : Hp) : EX d 168 23 [(0, .inr (.inr a0)), (1, .inl x1)] [] h = if sK h a0 = 10 then if sK h a0 = 10 then if sK h a0 = 10 then if okx h (hR h a0 10) 24 x1 then if sK h (hR h a0 7) = 0 then bak (EX d 168) 40 [(0, .inr (.inr a0))] [] false (cal d 160 [.inr (.inr (hR h a0 7)), .inr (.inr (hR h a0 5)), .inr (.inr (hR h (hR h a0 10) (ix x1)))] h) else none else none else none else none else none := (EX_at bk_Hook_perform_23 _ _ _).trans rfl
theorem bk_Hook_perform_40 : blk 168 40 = some (((cd_Hook_perform.lookup 40).getD ([], 0, []))) := rfl
theorem Hook_perform_40 (d : Nat) (a0 : Nat) (s0 : Int) (h : Hp) : EX d 168 40 [(0, .inr (.inr a0))] [.inl s0] h = if 0 < (wr s0) then EX d 168 45 [(0, .inr (.inr a0)), (3, .inl s0)] [] h else EX d 168 56 [(3, .inl s0)] [] h := (EX_at bk_Hook_perform_40 _ _ _).trans rfl
theorem bk_Hook_perform_45 : blk 168 45 = some (((cd_Hook_perform.lookup 45).getD ([], 0, []))) := rfl
theorem Hook_perform_45 (d : Nat) (a0 : Nat) (x3 : Int) (h : Hp) : EX d 168 45 [(0, .inr (.inr a0)), (3, .inl x3)] [] h = if sK h a0 = 10 then if sK h a0 = 10 then if sK h (hR h a0 9) = 1 then bak (EX d 168) 56 [(3, .inl x3)] [] true (cal d 130 [.inr (.inr (hR h a0 9)), .inr (.inr (hR h a0 8))] h) else none else none else none := (EX_at bk_Hook_perform_45 _ _ _).trans rfl
theorem bk_Hook_perform_56 : blk 168 56 = some (((cd_Hook_perform.lookup 56).getD ([], 0, []))) := rfl
theorem Hook_perform_56 (d : Nat) (x3 : Int) (h : Hp) : EX d 168 56 [(3, .inl x3)] [] h = some (.inl x3, h) := (EX_at bk_Hook_perform_56 _ _ _).trans rfl
/-! day(II)I of HookOver: method 172 -/
theorem bk_Hook_day_0 : blk 172 0 = some (((cd_Hook_day.lookup 0).getD ([], 0, []))) := rfl
theorem Hook_day_0 (d : Nat) (a0 : Nat) (x1 : Int) (x2 : Int) (h : Hp) : EX d 172 0 [(0, .inr (.inr a0)), (1, .inl x1), (2, .inl x2)] [] h = if (wr x2) < 1 then EX d 172 11 [] [] h else EX d 172 5 [(0, .inr (.inr a0)), (1, .inl x1), (2, .inl x2)] [] h := (EX_at bk_Hook_day_0 _ _ _).trans rfl
theorem bk_Hook_day_5 : blk 172 5 = some (((cd_Hook_day.lookup 5).getD ([], 0, []))) := rfl
theorem Hook_day_5 (d : Nat) (a0 : Nat) (x1 : Int) (x2 : Int) (h : Hp) : EX d 172 5 [(0, .inr (.inr a0)), (1, .inl x1), (2, .inl x2)] [] h = if 60 < (wr x2) then EX d 172 11 [] [] h else EX d 172 14 [(0, .inr (.inr a0)), (1, .inl x1), (2, .inl x2)] [] h := (EX_at bk_Hook_day_5 _ _ _).trans rfl
theorem bk_Hook_day_11 : blk 172 11 = some (((cd_Hook_day.lookup 11).getD ([], 0, []))) := rfl
theorem Hook_day_11 (d : Nat) (h : Hp) : EX d 172 11 [] [] h = some (.inl (-3), h) := (EX_at bk_Hook_day_11 _ _ _).trans rfl
theorem bk_Hook_day_14 : blk 172 14 = some (((cd_Hook_day.lookup 14).getD ([], 0, []))) := rfl
theorem Hook_day_14 (d : Nat) (a0 : Nat) (x1 : Int) (x2 : Int) (h : Hp) : EX d 172 14 [(0, .inr (.inr a0)), (1, .inl x1), (2, .inl x2)] [] h = if sK h a0 = 10 then if sK h (hR h a0 5) = 9 then if (wr (hI h (hR h a0 5) 5)) = 0 then EX d 172 34 [] [] h else EX d 172 24 [(0, .inr (.inr a0)), (1, .inl x1), (2, .inl x2)] [] h else none else none := (EX_at bk_Hook_day_14 _ _ _).trans rfl
theorem bk_Hook_day_24 : blk 172 24 = some (((cd_Hook_day.lookup 24).getD ([], 0, []))) := rfl
theorem Hook_day_24 (d : Nat) (a0 : Nat) (x1 : Int) (x2 : Int) (h : Hp) : EX d 172 24 [(0, .inr (.inr a0)), (1, .inl x1), (2, .inl x2)] [] h = if sK h a0 = 10 then if sK h (hR h a0 5) = 9 then if (wr (hI h (hR h a0 5) 6)) = 0 then EX d 172 34 [] [] h else EX d 172 37 [(0, .inr (.inr a0)), (1, .inl x1), (2, .inl x2)] [] h else none else none := (EX_at bk_Hook_day_24 _ _ _).trans rfl
theorem bk_Hook_day_34 : blk 172 34 = some (((cd_Hook_day.lookup 34).getD ([], 0, []))) := rfl
theorem Hook_day_34 (d : Nat) (h : Hp) : EX d 172 34 [] [] h = some (.inl (-5), h) := (EX_at bk_Hook_day_34 _ _ _).trans rfl
theorem bk_Hook_day_37 : blk 172 37 = some (((cd_Hook_day.lookup 37).getD ([], 0, []))) := rfl
theorem Hook_day_37 (d : Nat) (a0 : Nat) (x1 : Int) (x2 : Int) (h : Hp) : EX d 172 37 [(0, .inr (.inr a0)), (1, .inl x1), (2, .inl x2)] [] h = if sK h a0 = 10 then if sK h a0 = 10 then if sK h (hR h a0 8) = 0 then bak (EX d 172) 48 [(0, .inr (.inr a0)), (1, .inl x1), (2, .inl x2)] [] true (cal d 67 [.inr (.inr (hR h a0 8)), .inr (.inr (hR h a0 7))] h) else none else none else none := (EX_at bk_Hook_day_37 _ _ _).trans rfl
theorem bk_Hook_day_48 : blk 172 48 = some (((cd_Hook_day.lookup 48).getD ([], 0, []))) := rfl
theorem Hook_day_48 (d : Nat) (a0 : Nat) (x1 : Int) (x2 : Int) (h : Hp) : EX d 172 48 [(0, .inr (.inr a0)), (1, .inl x1), (2, .inl x2)] [] h = if sK h a0 = 10 then if sK h a0 = 10 then if sK h (hR h a0 7) = 0 then bak (EX d 172) 61 [(0, .inr (.inr a0))] [] false (cal d 171 [.inr (.inr (hR h a0 7)), .inr (.inr (hR h a0 5)), .inl x1, .inl x2] h) else none else none else none := (EX_at bk_Hook_day_48 _ _ _).trans rfl
theorem bk_Hook_day_61 : blk 172 61 = some (((cd_Hook_day.lookup 61).getD ([], 0, []))) := rfl
theorem Hook_day_61 (d : Nat) (a0 : Nat) (s0 : Int) (h : Hp) : EX d 172 61 [(0, .inr (.inr a0))] [.inl s0] h = if 0 < (wr s0) then EX d 172 66 [(0, .inr (.inr a0)), (3, .inl s0)] [] h else EX d 172 77 [(3, .inl s0)] [] h := (EX_at bk_Hook_day_61 _ _ _).trans rfl
theorem bk_Hook_day_66 : blk 172 66 = some (((cd_Hook_day.lookup 66).getD ([], 0, []))) := rfl
theorem Hook_day_66 (d : Nat) (a0 : Nat) (x3 : Int) (h : Hp) : EX d 172 66 [(0, .inr (.inr a0)), (3, .inl x3)] [] h = if sK h a0 = 10 then if sK h a0 = 10 then if sK h (hR h a0 9) = 1 then bak (EX d 172) 77 [(3, .inl x3)] [] true (cal d 130 [.inr (.inr (hR h a0 9)), .inr (.inr (hR h a0 8))] h) else none else none else none := (EX_at bk_Hook_day_66 _ _ _).trans rfl
theorem bk_Hook_day_77 : blk 172 77 = some (((cd_Hook_day.lookup 77).getD ([], 0, []))) := rfl
theorem Hook_day_77 (d : Nat) (x3 : Int) (h : Hp) : EX d 172 77 [(3, .inl x3)] [] h = some (.inl x3, h) := (EX_at bk_Hook_day_77 _ _ _).trans rfl
/-! undoing(I)I of HookOver: method 176 -/
theorem bk_Hook_undoing_0 : blk 176 0 = some (((cd_Hook_undoing.lookup 0).getD ([], 0, []))) := rfl
theorem Hook_undoing_0 (d : Nat) (a0 : Nat) (x1 : Int) (h : Hp) : EX d 176 0 [(0, .inr (.inr a0)), (1, .inl x1)] [] h = EX d 176 2 [(0, .inr (.inr a0)), (1, .inl x1), (2, .inl 0)] [] h := (EX_at bk_Hook_undoing_0 _ _ _).trans rfl
theorem bk_Hook_undoing_2 : blk 176 2 = some (((cd_Hook_undoing.lookup 2).getD ([], 0, []))) := rfl
theorem Hook_undoing_2 (d : Nat) (a0 : Nat) (x1 : Int) (x2 : Int) (h : Hp) : EX d 176 2 [(0, .inr (.inr a0)), (1, .inl x1), (2, .inl x2)] [] h = if (wr x2) < 32 then EX d 176 8 [(0, .inr (.inr a0)), (1, .inl x1), (2, .inl x2)] [] h else EX d 176 57 [(0, .inr (.inr a0)), (1, .inl x1)] [] h := (EX_at bk_Hook_undoing_2 _ _ _).trans rfl
theorem bk_Hook_undoing_8 : blk 176 8 = some (((cd_Hook_undoing.lookup 8).getD ([], 0, []))) := rfl
theorem Hook_undoing_8 (d : Nat) (a0 : Nat) (x1 : Int) (x2 : Int) (h : Hp) : EX d 176 8 [(0, .inr (.inr a0)), (1, .inl x1), (2, .inl x2)] [] h = if (wr (bAnd (bUshr x1 x2) 1)) = 0 then EX d 176 20 [(0, .inr (.inr a0)), (1, .inl x1), (2, .inl x2)] [] h else EX d 176 16 [(0, .inr (.inr a0)), (1, .inl x1), (2, .inl x2)] [] h := (EX_at bk_Hook_undoing_8 _ _ _).trans rfl
theorem bk_Hook_undoing_16 : blk 176 16 = some (((cd_Hook_undoing.lookup 16).getD ([], 0, []))) := rfl
theorem Hook_undoing_16 (d : Nat) (a0 : Nat) (x1 : Int) (x2 : Int) (h : Hp) : EX d 176 16 [(0, .inr (.inr a0)), (1, .inl x1), (2, .inl x2)] [] h = EX d 176 21 [(0, .inr (.inr a0)), (1, .inl x1), (2, .inl x2)] [.inl 1] h := (EX_at bk_Hook_undoing_16 _ _ _).trans rfl
theorem bk_Hook_undoing_20 : blk 176 20 = some (((cd_Hook_undoing.lookup 20).getD ([], 0, []))) := rfl
theorem Hook_undoing_20 (d : Nat) (a0 : Nat) (x1 : Int) (x2 : Int) (h : Hp) : EX d 176 20 [(0, .inr (.inr a0)), (1, .inl x1), (2, .inl x2)] [] h = EX d 176 21 [(0, .inr (.inr a0)), (1, .inl x1), (2, .inl x2)] [.inl 0] h := (EX_at bk_Hook_undoing_20 _ _ _).trans rfl
theorem bk_Hook_undoing_21 : blk 176 21 = some (((cd_Hook_undoing.lookup 21).getD ([], 0, []))) := rfl
theorem Hook_undoing_21 (d : Nat) (a0 : Nat) (x1 : Int) (x2 : Int) (s0 : Int) (h : Hp) : EX d 176 21 [(0, .inr (.inr a0)), (1, .inl x1), (2, .inl x2)] [.inl s0] h = if (wr s0) = 0 then EX d 176 51 [(0, .inr (.inr a0)), (1, .inl x1), (2, .inl x2)] [] h else EX d 176 26 [(0, .inr (.inr a0)), (1, .inl x1), (2, .inl x2)] [] h := (EX_at bk_Hook_undoing_21 _ _ _).trans rfl
theorem bk_Hook_undoing_26 : blk 176 26 = some (((cd_Hook_undoing.lookup 26).getD ([], 0, []))) := rfl
theorem Hook_undoing_26 (d : Nat) (a0 : Nat) (x1 : Int) (x2 : Int) (h : Hp) : EX d 176 26 [(0, .inr (.inr a0)), (1, .inl x1), (2, .inl x2)] [] h = if sK h a0 = 10 then if sK h (hR h a0 5) = 9 then bak (EX d 176) 34 [(0, .inr (.inr a0)), (1, .inl x1), (2, .inl x2)] [] false (cal d 35 [.inr (.inr (hR h a0 5)), .inl x2] h) else none else none := (EX_at bk_Hook_undoing_26 _ _ _).trans rfl
theorem bk_Hook_undoing_34 : blk 176 34 = some (((cd_Hook_undoing.lookup 34).getD ([], 0, []))) := rfl
theorem Hook_undoing_34 (d : Nat) (a0 : Nat) (x1 : Int) (x2 : Int) (s0 : Int) (h : Hp) : EX d 176 34 [(0, .inr (.inr a0)), (1, .inl x1), (2, .inl x2)] [.inl s0] h = if (wr s0) = 0 then EX d 176 48 [] [] h else EX d 176 37 [(0, .inr (.inr a0)), (1, .inl x1), (2, .inl x2)] [] h := (EX_at bk_Hook_undoing_34 _ _ _).trans rfl
theorem bk_Hook_undoing_37 : blk 176 37 = some (((cd_Hook_undoing.lookup 37).getD ([], 0, []))) := rfl
theorem Hook_undoing_37 (d : Nat) (a0 : Nat) (x1 : Int) (x2 : Int) (h : Hp) : EX d 176 37 [(0, .inr (.inr a0)), (1, .inl x1), (2, .inl x2)] [] h = if sK h a0 = 10 then if sK h (hR h a0 7) = 0 then bak (EX d 176) 45 [(0, .inr (.inr a0)), (1, .inl x1), (2, .inl x2)] [] false (cal d 37 [.inr (.inr (hR h a0 7)), .inl x2] h) else none else none := (EX_at bk_Hook_undoing_37 _ _ _).trans rfl
theorem bk_Hook_undoing_45 : blk 176 45 = some (((cd_Hook_undoing.lookup 45).getD ([], 0, []))) := rfl
theorem Hook_undoing_45 (d : Nat) (a0 : Nat) (x1 : Int) (x2 : Int) (s0 : Int) (h : Hp) : EX d 176 45 [(0, .inr (.inr a0)), (1, .inl x1), (2, .inl x2)] [.inl s0] h = if (wr s0) = 0 then EX d 176 48 [] [] h else EX d 176 51 [(0, .inr (.inr a0)), (1, .inl x1), (2, .inl x2)] [] h := (EX_at bk_Hook_undoing_45 _ _ _).trans rfl
theorem bk_Hook_undoing_48 : blk 176 48 = some (((cd_Hook_undoing.lookup 48).getD ([], 0, []))) := rfl
theorem Hook_undoing_48 (d : Nat) (h : Hp) : EX d 176 48 [] [] h = some (.inl (-3), h) := (EX_at bk_Hook_undoing_48 _ _ _).trans rfl
theorem bk_Hook_undoing_51 : blk 176 51 = some (((cd_Hook_undoing.lookup 51).getD ([], 0, []))) := rfl
theorem Hook_undoing_51 (d : Nat) (a0 : Nat) (x1 : Int) (x2 : Int) (h : Hp) : EX d 176 51 [(0, .inr (.inr a0)), (1, .inl x1), (2, .inl x2)] [] h = EX d 176 2 [(0, .inr (.inr a0)), (1, .inl x1), (2, .inl (x2 + 1))] [] h := (EX_at bk_Hook_undoing_51 _ _ _).trans rfl
theorem bk_Hook_undoing_57 : blk 176 57 = some (((cd_Hook_undoing.lookup 57).getD ([], 0, []))) := rfl
theorem Hook_undoing_57 (d : Nat) (a0 : Nat) (x1 : Int) (h : Hp) : EX d 176 57 [(0, .inr (.inr a0)), (1, .inl x1)] [] h = if sK h a0 = 10 then if sK h a0 = 10 then if sK h (hR h a0 7) = 0 then bak (EX d 176) 70 [(0, .inr (.inr a0)), (1, .inl x1)] [] false (cal d 175 [.inr (.inr (hR h a0 7)), .inr (.inr (hR h a0 5)), .inl x1, .inl 0] h) else none else none else none := (EX_at bk_Hook_undoing_57 _ _ _).trans rfl
theorem bk_Hook_undoing_70 : blk 176 70 = some (((cd_Hook_undoing.lookup 70).getD ([], 0, []))) := rfl
theorem Hook_undoing_70 (d : Nat) (a0 : Nat) (x1 : Int) (s0 : Int) (h : Hp) : EX d 176 70 [(0, .inr (.inr a0)), (1, .inl x1)] [.inl s0] h = if sK h a0 = 10 then if sK h a0 = 10 then if sK h (hR h a0 7) = 0 then bak (EX d 176) 83 [] [.inl s0] false (cal d 175 [.inr (.inr (hR h a0 7)), .inr (.inr (hR h a0 5)), .inl x1, .inl 1] h) else none else none else none := (EX_at bk_Hook_undoing_70 _ _ _).trans rfl
theorem bk_Hook_undoing_83 : blk 176 83 = some (((cd_Hook_undoing.lookup 83).getD ([], 0, []))) := rfl
theorem Hook_undoing_83 (d : Nat) (s0 : Int) (s1 : Int) (h : Hp) : EX d 176 83 [] [.inl s1, .inl s0] h = bak (EX d 176) 86 [] [] false (cal d 20 [.inl s0, .inl s1] h) := (EX_at bk_Hook_undoing_83 _ _ _).trans rfl
theorem bk_Hook_undoing_86 : blk 176 86 = some (((cd_Hook_undoing.lookup 86).getD ([], 0, []))) := rfl
theorem Hook_undoing_86 (d : Nat) (s0 : Int) (h : Hp) : EX d 176 86 [] [.inl s0] h = some (.inl s0, h) := (EX_at bk_Hook_undoing_86 _ _ _).trans rfl
/-! rowOf(II)I of HookOver: method 178 -/
theorem bk_Hook_rowOf_0 : blk 178 0 = some (((cd_Hook_rowOf.lookup 0).getD ([], 0, []))) := rfl
theorem Hook_rowOf_0 (d : Nat) (x0 : Int) (x1 : Int) (h : Hp) : EX d 178 0 [(0, .inl x0), (1, .inl x1)] [] h = some (.inl (((x0 * 12) + x1) * 12), h) := (EX_at bk_Hook_rowOf_0 _ _ _).trans rfl
/-! joinings(I)J of HookOver: method 182 -/
theorem bk_Hook_joinings_0 : blk 182 0 = some (((cd_Hook_joinings.lookup 0).getD ([], 0, []))) := rfl
theorem Hook_joinings_0 (d : Nat) (a0 : Nat) (x1 : Int) (h : Hp) : EX d 182 0 [(0, .inr (.inr a0)), (1, .inl x1)] [] h = if (wr x1) < 0 then EX d 182 10 [] [] h else EX d 182 4 [(0, .inr (.inr a0)), (1, .inl x1)] [] h := (EX_at bk_Hook_joinings_0 _ _ _).trans rfl
theorem bk_Hook_joinings_4 : blk 182 4 = some (((cd_Hook_joinings.lookup 4).getD ([], 0, []))) := rfl
theorem Hook_joinings_4 (d : Nat) (a0 : Nat) (x1 : Int) (h : Hp) : EX d 182 4 [(0, .inr (.inr a0)), (1, .inl x1)] [] h = if 12 < (wr x1) then EX d 182 10 [] [] h else EX d 182 14 [(0, .inr (.inr a0)), (1, .inl x1)] [] h := (EX_at bk_Hook_joinings_4 _ _ _).trans rfl
theorem bk_Hook_joinings_10 : blk 182 10 = some (((cd_Hook_joinings.lookup 10).getD ([], 0, []))) := rfl
theorem Hook_joinings_10 (d : Nat) (h : Hp) : EX d 182 10 [] [] h = some (.inr (.inl (-3)), h) := (EX_at bk_Hook_joinings_10 _ _ _).trans rfl
theorem bk_Hook_joinings_14 : blk 182 14 = some (((cd_Hook_joinings.lookup 14).getD ([], 0, []))) := rfl
theorem Hook_joinings_14 (d : Nat) (a0 : Nat) (x1 : Int) (h : Hp) : EX d 182 14 [(0, .inr (.inr a0)), (1, .inl x1)] [] h = if sK h a0 = 10 then if sK h a0 = 10 then if sK h (hR h a0 14) = 2 then bak (EX d 182) 25 [(0, .inr (.inr a0)), (1, .inl x1)] [] true (cal d 181 [.inr (.inr (hR h a0 14)), .inr (.inr (hR h a0 5))] h) else none else none else none := (EX_at bk_Hook_joinings_14 _ _ _).trans rfl
theorem bk_Hook_joinings_25 : blk 182 25 = some (((cd_Hook_joinings.lookup 25).getD ([], 0, []))) := rfl
theorem Hook_joinings_25 (d : Nat) (a0 : Nat) (x1 : Int) (h : Hp) : EX d 182 25 [(0, .inr (.inr a0)), (1, .inl x1)] [] h = if sK h a0 = 10 then if sK h (hR h a0 14) = 2 then if okx h (hR h (hR h a0 14) 1) 20 x1 then some (.inr (.inl (wr (hI h (hR h (hR h a0 14) 1) (ix x1)))), h) else none else none else none := (EX_at bk_Hook_joinings_25 _ _ _).trans rfl
/-! full()I of HookOver: method 190 -/
theorem bk_Hook_full_0 : blk 190 0 = some (((cd_Hook_full.lookup 0).getD ([], 0, []))) := rfl
theorem Hook_full_0 (d : Nat) (a0 : Nat) (h : Hp) : EX d 190 0 [(0, .inr (.inr a0))] [] h = if sK h a0 = 10 then if sK h a0 = 10 then if sK h (hR h a0 14) = 2 then bak (EX d 190) 11 [(0, .inr (.inr a0))] [] true (cal d 181 [.inr (.inr (hR h a0 14)), .inr (.inr (hR h a0 5))] h) else none else none else none := (EX_at bk_Hook_full_0 _ _ _).trans rfl
theorem bk_Hook_full_11 : blk 190 11 = some (((cd_Hook_full.lookup 11).getD ([], 0, []))) := rfl
theorem Hook_full_11 (d : Nat) (a0 : Nat) (h : Hp) : EX d 190 11 [(0, .inr (.inr a0))] [] h = if sK h a0 = 10 then if sK h (hR h a0 14) = 2 then some (.inl (hI h (hR h a0 14) 2), h) else none else none := (EX_at bk_Hook_full_11 _ _ _).trans rfl
/-! mended(I)I of HookOver: method 201 -/
theorem bk_Hook_mended_0 : blk 201 0 = some (((cd_Hook_mended.lookup 0).getD ([], 0, []))) := rfl
theorem Hook_mended_0 (d : Nat) (a0 : Nat) (x1 : Int) (h : Hp) : EX d 201 0 [(0, .inr (.inr a0)), (1, .inl x1)] [] h = if (wr x1) < 10 then EX d 201 24 [(0, .inr (.inr a0)), (1, .inl x1)] [] h else EX d 201 6 [(0, .inr (.inr a0)), (1, .inl x1)] [] h := (EX_at bk_Hook_mended_0 _ _ _).trans rfl
theorem bk_Hook_mended_6 : blk 201 6 = some (((cd_Hook_mended.lookup 6).getD ([], 0, []))) := rfl
theorem Hook_mended_6 (d : Nat) (a0 : Nat) (x1 : Int) (h : Hp) : EX d 201 6 [(0, .inr (.inr a0)), (1, .inl x1)] [] h = if sK h a0 = 10 then if sK h (hR h a0 5) = 9 then bak (EX d 201) 17 [(0, .inr (.inr a0)), (1, .inl x1)] [] false (cal d 35 [.inr (.inr (hR h a0 5)), .inl (x1 - 10)] h) else none else none := (EX_at bk_Hook_mended_6 _ _ _).trans rfl
theorem bk_Hook_mended_17 : blk 201 17 = some (((cd_Hook_mended.lookup 17).getD ([], 0, []))) := rfl
theorem Hook_mended_17 (d : Nat) (a0 : Nat) (x1 : Int) (s0 : Int) (h : Hp) : EX d 201 17 [(0, .inr (.inr a0)), (1, .inl x1)] [.inl s0] h = if (wr s0) = 0 then EX d 201 24 [(0, .inr (.inr a0)), (1, .inl x1)] [] h else EX d 201 20 [(0, .inr (.inr a0)), (1, .inl x1)] [] h := (EX_at bk_Hook_mended_17 _ _ _).trans rfl
theorem bk_Hook_mended_20 : blk 201 20 = some (((cd_Hook_mended.lookup 20).getD ([], 0, []))) := rfl
theorem Hook_mended_20 (d : Nat) (a0 : Nat) (x1 : Int) (h : Hp) : EX d 201 20 [(0, .inr (.inr a0)), (1, .inl x1)] [] h = EX d 201 25 [(0, .inr (.inr a0)), (1, .inl x1)] [.inl 1] h := (EX_at bk_Hook_mended_20 _ _ _).trans rfl
theorem bk_Hook_mended_24 : blk 201 24 = some (((cd_Hook_mended.lookup 24).getD ([], 0, []))) := rfl
theorem Hook_mended_24 (d : Nat) (a0 : Nat) (x1 : Int) (h : Hp) : EX d 201 24 [(0, .inr (.inr a0)), (1, .inl x1)] [] h = EX d 201 25 [(0, .inr (.inr a0)), (1, .inl x1)] [.inl 0] h := (EX_at bk_Hook_mended_24 _ _ _).trans rfl
theorem bk_Hook_mended_25 : blk 201 25 = some (((cd_Hook_mended.lookup 25).getD ([], 0, []))) := rfl
theorem Hook_mended_25 (d : Nat) (a0 : Nat) (x1 : Int) (s0 : Int) (h : Hp) : EX d 201 25 [(0, .inr (.inr a0)), (1, .inl x1)] [.inl s0] h = if (wr x1) = 0 then EX d 201 42 [(0, .inr (.inr a0)), (1, .inl x1), (2, .inl s0)] [] h else EX d 201 30 [(0, .inr (.inr a0)), (1, .inl x1), (2, .inl s0)] [] h := (EX_at bk_Hook_mended_25 _ _ _).trans rfl
theorem bk_Hook_mended_30 : blk 201 30 = some (((cd_Hook_mended.lookup 30).getD ([], 0, []))) := rfl
theorem Hook_mended_30 (d : Nat) (a0 : Nat) (x1 : Int) (x2 : Int) (h : Hp) : EX d 201 30 [(0, .inr (.inr a0)), (1, .inl x1), (2, .inl x2)] [] h = if (wr x1) = 1 then EX d 201 42 [(0, .inr (.inr a0)), (1, .inl x1), (2, .inl x2)] [] h else EX d 201 35 [(0, .inr (.inr a0)), (1, .inl x1), (2, .inl x2)] [] h := (EX_at bk_Hook_mended_30 _ _ _).trans rfl
theorem bk_Hook_mended_35 : blk 201 35 = some (((cd_Hook_mended.lookup 35).getD ([], 0, []))) := rfl
theorem Hook_mended_35 (d : Nat) (a0 : Nat) (x1 : Int) (x2 : Int) (h : Hp) : EX d 201 35 [(0, .inr (.inr a0)), (1, .inl x1), (2, .inl x2)] [] h = if (wr x2) = 0 then EX d 201 39 [] [] h else EX d 201 42 [(0, .inr (.inr a0)), (1, .inl x1), (2, .inl x2)] [] h := (EX_at bk_Hook_mended_35 _ _ _).trans rfl
theorem bk_Hook_mended_39 : blk 201 39 = some (((cd_Hook_mended.lookup 39).getD ([], 0, []))) := rfl
theorem Hook_mended_39 (d : Nat) (h : Hp) : EX d 201 39 [] [] h = some (.inl (-2), h) := (EX_at bk_Hook_mended_39 _ _ _).trans rfl
theorem bk_Hook_mended_42 : blk 201 42 = some (((cd_Hook_mended.lookup 42).getD ([], 0, []))) := rfl
theorem Hook_mended_42 (d : Nat) (a0 : Nat) (x1 : Int) (x2 : Int) (h : Hp) : EX d 201 42 [(0, .inr (.inr a0)), (1, .inl x1), (2, .inl x2)] [] h = if sK h a0 = 10 then if sK h a0 = 10 then if sK h a0 = 10 then if sK h (hR h a0 15) = 4 then bak (EX d 201) 57 [(0, .inr (.inr a0)), (1, .inl x1), (2, .inl x2)] [] true (cal d 200 [.inr (.inr (hR h a0 15)), .inr (.inr (hR h a0 5)), .inr (.inr (hR h a0 7))] h) else none else none else none else none := (EX_at bk_Hook_mended_42 _ _ _).trans rfl
theorem bk_Hook_mended_57 : blk 201 57 = some (((cd_Hook_mended.lookup 57).getD ([], 0, []))) := rfl
theorem Hook_mended_57 (d : Nat) (a0 : Nat) (x1 : Int) (x2 : Int) (h : Hp) : EX d 201 57 [(0, .inr (.inr a0)), (1, .inl x1), (2, .inl x2)] [] h = if (wr x2) = 0 then EX d 201 74 [(0, .inr (.inr a0)), (1, .inl x1)] [] h else EX d 201 61 [(0, .inr (.inr a0)), (1, .inl x1)] [] h := (EX_at bk_Hook_mended_57 _ _ _).trans rfl
theorem bk_Hook_mended_61 : blk 201 61 = some (((cd_Hook_mended.lookup 61).getD ([], 0, []))) := rfl
theorem Hook_mended_61 (d : Nat) (a0 : Nat) (x1 : Int) (h : Hp) : EX d 201 61 [(0, .inr (.inr a0)), (1, .inl x1)] [] h = if sK h a0 = 10 then if sK h (hR h a0 15) = 4 then if okx h (hR h (hR h a0 15) 0) 20 (x1 - 10) then some (.inl (hI h (hR h (hR h a0 15) 0) (ix (x1 - 10))), h) else none else none else none := (EX_at bk_Hook_mended_61 _ _ _).trans rfl
theorem bk_Hook_mended_74 : blk 201 74 = some (((cd_Hook_mended.lookup 74).getD ([], 0, []))) := rfl
theorem Hook_mended_74 (d : Nat) (a0 : Nat) (x1 : Int) (h : Hp) : EX d 201 74 [(0, .inr (.inr a0)), (1, .inl x1)] [] h = if (wr x1) = 0 then EX d 201 78 [(0, .inr (.inr a0))] [] h else EX d 201 88 [(0, .inr (.inr a0))] [] h := (EX_at bk_Hook_mended_74 _ _ _).trans rfl
theorem bk_Hook_mended_78 : blk 201 78 = some (((cd_Hook_mended.lookup 78).getD ([], 0, []))) := rfl
theorem Hook_mended_78 (d : Nat) (a0 : Nat) (h : Hp) : EX d 201 78 [(0, .inr (.inr a0))] [] h = if sK h a0 = 10 then if sK h (hR h a0 15) = 4 then EX d 201 95 [] [.inl (hI h (hR h a0 15) 1)] h else none else none := (EX_at bk_Hook_mended_78 _ _ _).trans rfl
theorem bk_Hook_mended_88 : blk 201 88 = some (((cd_Hook_mended.lookup 88).getD ([], 0, []))) := rfl
theorem Hook_mended_88 (d : Nat) (a0 : Nat) (h : Hp) : EX d 201 88 [(0, .inr (.inr a0))] [] h = if sK h a0 = 10 then if sK h (hR h a0 15) = 4 then EX d 201 95 [] [.inl (hI h (hR h a0 15) 2)] h else none else none := (EX_at bk_Hook_mended_88 _ _ _).trans rfl
theorem bk_Hook_mended_95 : blk 201 95 = some (((cd_Hook_mended.lookup 95).getD ([], 0, []))) := rfl
theorem Hook_mended_95 (d : Nat) (s0 : Int) (h : Hp) : EX d 201 95 [] [.inl s0] h = some (.inl s0, h) := (EX_at bk_Hook_mended_95 _ _ _).trans rfl
/-! evenest(I)I of HookOver: method 212 -/
theorem bk_Hook_evenest_0 : blk 212 0 = some (((cd_Hook_evenest.lookup 0).getD ([], 0, []))) := rfl
theorem Hook_evenest_0 (d : Nat) (a0 : Nat) (x1 : Int) (h : Hp) : EX d 212 0 [(0, .inr (.inr a0)), (1, .inl x1)] [] h = if (wr x1) < 10 then EX d 212 24 [(0, .inr (.inr a0)), (1, .inl x1)] [] h else EX d 212 6 [(0, .inr (.inr a0)), (1, .inl x1)] [] h := (EX_at bk_Hook_evenest_0 _ _ _).trans rfl
theorem bk_Hook_evenest_6 : blk 212 6 = some (((cd_Hook_evenest.lookup 6).getD ([], 0, []))) := rfl
theorem Hook_evenest_6 (d : Nat) (a0 : Nat) (x1 : Int) (h : Hp) : EX d 212 6 [(0, .inr (.inr a0)), (1, .inl x1)] [] h = if sK h a0 = 10 then if sK h (hR h a0 5) = 9 then bak (EX d 212) 17 [(0, .inr (.inr a0)), (1, .inl x1)] [] false (cal d 35 [.inr (.inr (hR h a0 5)), .inl (x1 - 10)] h) else none else none := (EX_at bk_Hook_evenest_6 _ _ _).trans rfl
theorem bk_Hook_evenest_17 : blk 212 17 = some (((cd_Hook_evenest.lookup 17).getD ([], 0, []))) := rfl
theorem Hook_evenest_17 (d : Nat) (a0 : Nat) (x1 : Int) (s0 : Int) (h : Hp) : EX d 212 17 [(0, .inr (.inr a0)), (1, .inl x1)] [.inl s0] h = if (wr s0) = 0 then EX d 212 24 [(0, .inr (.inr a0)), (1, .inl x1)] [] h else EX d 212 20 [(0, .inr (.inr a0)), (1, .inl x1)] [] h := (EX_at bk_Hook_evenest_17 _ _ _).trans rfl
theorem bk_Hook_evenest_20 : blk 212 20 = some (((cd_Hook_evenest.lookup 20).getD ([], 0, []))) := rfl
theorem Hook_evenest_20 (d : Nat) (a0 : Nat) (x1 : Int) (h : Hp) : EX d 212 20 [(0, .inr (.inr a0)), (1, .inl x1)] [] h = EX d 212 25 [(0, .inr (.inr a0)), (1, .inl x1)] [.inl 1] h := (EX_at bk_Hook_evenest_20 _ _ _).trans rfl
theorem bk_Hook_evenest_24 : blk 212 24 = some (((cd_Hook_evenest.lookup 24).getD ([], 0, []))) := rfl
theorem Hook_evenest_24 (d : Nat) (a0 : Nat) (x1 : Int) (h : Hp) : EX d 212 24 [(0, .inr (.inr a0)), (1, .inl x1)] [] h = EX d 212 25 [(0, .inr (.inr a0)), (1, .inl x1)] [.inl 0] h := (EX_at bk_Hook_evenest_24 _ _ _).trans rfl
theorem bk_Hook_evenest_25 : blk 212 25 = some (((cd_Hook_evenest.lookup 25).getD ([], 0, []))) := rfl
theorem Hook_evenest_25 (d : Nat) (a0 : Nat) (x1 : Int) (s0 : Int) (h : Hp) : EX d 212 25 [(0, .inr (.inr a0)), (1, .inl x1)] [.inl s0] h = if (wr x1) = 0 then EX d 212 42 [(0, .inr (.inr a0)), (1, .inl x1), (2, .inl s0)] [] h else EX d 212 30 [(0, .inr (.inr a0)), (1, .inl x1), (2, .inl s0)] [] h := (EX_at bk_Hook_evenest_25 _ _ _).trans rfl
theorem bk_Hook_evenest_30 : blk 212 30 = some (((cd_Hook_evenest.lookup 30).getD ([], 0, []))) := rfl
theorem Hook_evenest_30 (d : Nat) (a0 : Nat) (x1 : Int) (x2 : Int) (h : Hp) : EX d 212 30 [(0, .inr (.inr a0)), (1, .inl x1), (2, .inl x2)] [] h = if (wr x1) = 1 then EX d 212 42 [(0, .inr (.inr a0)), (1, .inl x1), (2, .inl x2)] [] h else EX d 212 35 [(0, .inr (.inr a0)), (1, .inl x1), (2, .inl x2)] [] h := (EX_at bk_Hook_evenest_30 _ _ _).trans rfl
theorem bk_Hook_evenest_35 : blk 212 35 = some (((cd_Hook_evenest.lookup 35).getD ([], 0, []))) := rfl
theorem Hook_evenest_35 (d : Nat) (a0 : Nat) (x1 : Int) (x2 : Int) (h : Hp) : EX d 212 35 [(0, .inr (.inr a0)), (1, .inl x1), (2, .inl x2)] [] h = if (wr x2) = 0 then EX d 212 39 [] [] h else EX d 212 42 [(0, .inr (.inr a0)), (1, .inl x1), (2, .inl x2)] [] h := (EX_at bk_Hook_evenest_35 _ _ _).trans rfl
theorem bk_Hook_evenest_39 : blk 212 39 = some (((cd_Hook_evenest.lookup 39).getD ([], 0, []))) := rfl
theorem Hook_evenest_39 (d : Nat) (h : Hp) : EX d 212 39 [] [] h = some (.inl (-2), h) := (EX_at bk_Hook_evenest_39 _ _ _).trans rfl
theorem bk_Hook_evenest_42 : blk 212 42 = some (((cd_Hook_evenest.lookup 42).getD ([], 0, []))) := rfl
theorem Hook_evenest_42 (d : Nat) (a0 : Nat) (x1 : Int) (x2 : Int) (h : Hp) : EX d 212 42 [(0, .inr (.inr a0)), (1, .inl x1), (2, .inl x2)] [] h = if sK h a0 = 10 then if sK h a0 = 10 then if sK h a0 = 10 then if sK h (hR h a0 14) = 2 then bak (EX d 212) 57 [(0, .inr (.inr a0)), (1, .inl x1), (2, .inl x2)] [] true (cal d 211 [.inr (.inr (hR h a0 14)), .inr (.inr (hR h a0 5)), .inr (.inr (hR h a0 17))] h) else none else none else none else none := (EX_at bk_Hook_evenest_42 _ _ _).trans rfl
theorem bk_Hook_evenest_57 : blk 212 57 = some (((cd_Hook_evenest.lookup 57).getD ([], 0, []))) := rfl
theorem Hook_evenest_57 (d : Nat) (a0 : Nat) (x1 : Int) (x2 : Int) (h : Hp) : EX d 212 57 [(0, .inr (.inr a0)), (1, .inl x1), (2, .inl x2)] [] h = if (wr x2) = 0 then EX d 212 74 [(0, .inr (.inr a0)), (1, .inl x1)] [] h else EX d 212 61 [(0, .inr (.inr a0)), (1, .inl x1)] [] h := (EX_at bk_Hook_evenest_57 _ _ _).trans rfl
theorem bk_Hook_evenest_61 : blk 212 61 = some (((cd_Hook_evenest.lookup 61).getD ([], 0, []))) := rfl
theorem Hook_evenest_61 (d : Nat) (a0 : Nat) (x1 : Int) (h : Hp) : EX d 212 61 [(0, .inr (.inr a0)), (1, .inl x1)] [] h = if sK h a0 = 10 then if sK h (hR h a0 14) = 2 then if okx h (hR h (hR h a0 14) 4) 20 (x1 - 10) then some (.inl (hI h (hR h (hR h a0 14) 4) (ix (x1 - 10))), h) else none else none else none := (EX_at bk_Hook_evenest_61 _ _ _).trans rfl
theorem bk_Hook_evenest_74 : blk 212 74 = some (((cd_Hook_evenest.lookup 74).getD ([], 0, []))) := rfl
theorem Hook_evenest_74 (d : Nat) (a0 : Nat) (x1 : Int) (h : Hp) : EX d 212 74 [(0, .inr (.inr a0)), (1, .inl x1)] [] h = if (wr x1) = 0 then EX d 212 78 [(0, .inr (.inr a0))] [] h else EX d 212 88 [(0, .inr (.inr a0))] [] h := (EX_at bk_Hook_evenest_74 _ _ _).trans rfl
theorem bk_Hook_evenest_78 : blk 212 78 = some (((cd_Hook_evenest.lookup 78).getD ([], 0, []))) := rfl
theorem Hook_evenest_78 (d : Nat) (a0 : Nat) (h : Hp) : EX d 212 78 [(0, .inr (.inr a0))] [] h = if sK h a0 = 10 then if sK h (hR h a0 14) = 2 then EX d 212 95 [] [.inl (hI h (hR h a0 14) 5)] h else none else none := (EX_at bk_Hook_evenest_78 _ _ _).trans rfl
theorem bk_Hook_evenest_88 : blk 212 88 = some (((cd_Hook_evenest.lookup 88).getD ([], 0, []))) := rfl
theorem Hook_evenest_88 (d : Nat) (a0 : Nat) (h : Hp) : EX d 212 88 [(0, .inr (.inr a0))] [] h = if sK h a0 = 10 then if sK h (hR h a0 14) = 2 then EX d 212 95 [] [.inl (hI h (hR h a0 14) 6)] h else none else none := (EX_at bk_Hook_evenest_88 _ _ _).trans rfl
theorem bk_Hook_evenest_95 : blk 212 95 = some (((cd_Hook_evenest.lookup 95).getD ([], 0, []))) := rfl
theorem Hook_evenest_95 (d : Nat) (s0 : Int) (h : Hp) : EX d 212 95 [] [.inl s0] h = some (.inl s0, h) := (EX_at bk_Hook_evenest_95 _ _ _).trans rfl
/-! spread()I of HookOver: method 219 -/
theorem bk_Hook_spread_0 : blk 219 0 = some (((cd_Hook_spread.lookup 0).getD ([], 0, []))) := rfl
theorem Hook_spread_0 (d : Nat) (a0 : Nat) (h : Hp) : EX d 219 0 [(0, .inr (.inr a0))] [] h = if sK h a0 = 10 then if sK h a0 = 10 then if sK h a0 = 10 then if sK h (hR h a0 14) = 2 then bak (EX d 219) 15 [(0, .inr (.inr a0))] [] true (cal d 211 [.inr (.inr (hR h a0 14)), .inr (.inr (hR h a0 5)), .inr (.inr (hR h a0 17))] h) else none else none else none else none := (EX_at bk_Hook_spread_0 _ _ _).trans rfl
theorem bk_Hook_spread_15 : blk 219 15 = some (((cd_Hook_spread.lookup 15).getD ([], 0, []))) := rfl
theorem Hook_spread_15 (d : Nat) (a0 : Nat) (h : Hp) : EX d 219 15 [(0, .inr (.inr a0))] [] h = if sK h a0 = 10 then if sK h a0 = 10 then if sK h (hR h a0 8) = 0 then bak (EX d 219) 26 [(0, .inr (.inr a0))] [] true (cal d 67 [.inr (.inr (hR h a0 8)), .inr (.inr (hR h a0 7))] h) else none else none else none := (EX_at bk_Hook_spread_15 _ _ _).trans rfl
theorem bk_Hook_spread_26 : blk 219 26 = some (((cd_Hook_spread.lookup 26).getD ([], 0, []))) := rfl
theorem Hook_spread_26 (d : Nat) (a0 : Nat) (h : Hp) : EX d 219 26 [(0, .inr (.inr a0))] [] h = EX d 219 30 [(0, .inr (.inr a0)), (1, .inl 0), (2, .inl 0)] [] h := (EX_at bk_Hook_spread_26 _ _ _).trans rfl
theorem bk_Hook_spread_30 : blk 219 30 = some (((cd_Hook_spread.lookup 30).getD ([], 0, []))) := rfl
theorem Hook_spread_30 (d : Nat) (a0 : Nat) (x1 : Int) (x2 : Int) (h : Hp) : EX d 219 30 [(0, .inr (.inr a0)), (1, .inl x1), (2, .inl x2)] [] h = if sK h a0 = 10 then if sK h (hR h a0 5) = 9 then if (wr x2) < (wr (hI h (hR h a0 5) 5)) then EX d 219 41 [(0, .inr (.inr a0)), (1, .inl x1), (2, .inl x2)] [] h else EX d 219 89 [(0, .inr (.inr a0)), (1, .inl x1)] [] h else none else none := (EX_at bk_Hook_spread_30 _ _ _).trans rfl
theorem bk_Hook_spread_41 : blk 219 41 = some (((cd_Hook_spread.lookup 41).getD ([], 0, []))) := rfl
theorem Hook_spread_41 (d : Nat) (a0 : Nat) (x1 : Int) (x2 : Int) (h : Hp) : EX d 219 41 [(0, .inr (.inr a0)), (1, .inl x1), (2, .inl x2)] [] h = if sK h a0 = 10 then if sK h (hR h a0 7) = 0 then if okx h (hR h (hR h a0 7) 0) 20 x2 then if sK h a0 = 10 then if sK h (hR h a0 14) = 2 then if okx h (hR h (hR h a0 14) 4) 20 x2 then if (wr (hI h (hR h (hR h a0 7) 0) (ix x2))) = (wr (hI h (hR h (hR h a0 14) 4) (ix x2))) then EX d 219 83 [(0, .inr (.inr a0)), (1, .inl x1), (2, .inl x2)] [] h else EX d 219 62 [(0, .inr (.inr a0)), (1, .inl x1), (2, .inl x2)] [] h else none else none else none else none else none else none := (EX_at bk_Hook_spread_41 _ _ _).trans rfl
theorem bk_Hook_spread_62 : blk 219 62 = some (((cd_Hook_spread.lookup 62).getD ([], 0, []))) := rfl
theorem Hook_spread_62 (d : Nat) (a0 : Nat) (x1 : Int) (x2 : Int) (h : Hp) : EX d 219 62 [(0, .inr (.inr a0)), (1, .inl x1), (2, .inl x2)] [] h = if sK h a0 = 10 then if sK h (hR h a0 7) = 0 then if sK h a0 = 10 then if sK h (hR h a0 14) = 2 then if okx h (hR h (hR h a0 14) 4) 20 x2 then if okx h (hR h (hR h a0 7) 0) 20 x2 then EX d 219 80 [(0, .inr (.inr a0)), (1, .inl x1), (2, .inl x2)] [] (pI h (hR h (hR h a0 7) 0) (ix x2) (hI h (hR h (hR h a0 14) 4) (ix x2))) else none else none else none else none else none else none := (EX_at bk_Hook_spread_62 _ _ _).trans rfl
theorem bk_Hook_spread_80 : blk 219 80 = some (((cd_Hook_spread.lookup 80).getD ([], 0, []))) := rfl
theorem Hook_spread_80 (d : Nat) (a0 : Nat) (x1 : Int) (x2 : Int) (h : Hp) : EX d 219 80 [(0, .inr (.inr a0)), (1, .inl x1), (2, .inl x2)] [] h = EX d 219 83 [(0, .inr (.inr a0)), (1, .inl (x1 + 1)), (2, .inl x2)] [] h := (EX_at bk_Hook_spread_80 _ _ _).trans rfl
theorem bk_Hook_spread_83 : blk 219 83 = some (((cd_Hook_spread.lookup 83).getD ([], 0, []))) := rfl
theorem Hook_spread_83 (d : Nat) (a0 : Nat) (x1 : Int) (x2 : Int) (h : Hp) : EX d 219 83 [(0, .inr (.inr a0)), (1, .inl x1), (2, .inl x2)] [] h = EX d 219 30 [(0, .inr (.inr a0)), (1, .inl x1), (2, .inl (x2 + 1))] [] h := (EX_at bk_Hook_spread_83 _ _ _).trans rfl
theorem bk_Hook_spread_89 : blk 219 89 = some (((cd_Hook_spread.lookup 89).getD ([], 0, []))) := rfl
theorem Hook_spread_89 (d : Nat) (a0 : Nat) (x1 : Int) (h : Hp) : EX d 219 89 [(0, .inr (.inr a0)), (1, .inl x1)] [] h = if 0 < (wr x1) then EX d 219 93 [(0, .inr (.inr a0)), (1, .inl x1)] [] h else EX d 219 104 [(1, .inl x1)] [] h := (EX_at bk_Hook_spread_89 _ _ _).trans rfl
theorem bk_Hook_spread_93 : blk 219 93 = some (((cd_Hook_spread.lookup 93).getD ([], 0, []))) := rfl
theorem Hook_spread_93 (d : Nat) (a0 : Nat) (x1 : Int) (h : Hp) : EX d 219 93 [(0, .inr (.inr a0)), (1, .inl x1)] [] h = if sK h a0 = 10 then if sK h a0 = 10 then if sK h (hR h a0 9) = 1 then bak (EX d 219) 104 [(1, .inl x1)] [] true (cal d 130 [.inr (.inr (hR h a0 9)), .inr (.inr (hR h a0 8))] h) else none else none else none := (EX_at bk_Hook_spread_93 _ _ _).trans rfl
theorem bk_Hook_spread_104 : blk 219 104 = some (((cd_Hook_spread.lookup 104).getD ([], 0, []))) := rfl
theorem Hook_spread_104 (d : Nat) (x1 : Int) (h : Hp) : EX d 219 104 [(1, .inl x1)] [] h = some (.inl x1, h) := (EX_at bk_Hook_spread_104 _ _ _).trans rfl
/-! fullAt(II)I of HookOver: method 222 -/
theorem bk_Hook_fullAt_0 : blk 222 0 = some (((cd_Hook_fullAt.lookup 0).getD ([], 0, []))) := rfl
theorem Hook_fullAt_0 (d : Nat) (a0 : Nat) (x1 : Int) (x2 : Int) (h : Hp) : EX d 222 0 [(0, .inr (.inr a0)), (1, .inl x1), (2, .inl x2)] [] h = if sK h a0 = 10 then if sK h (hR h a0 5) = 9 then bak (EX d 222) 8 [(0, .inr (.inr a0)), (1, .inl x1), (2, .inl x2)] [] false (cal d 35 [.inr (.inr (hR h a0 5)), .inl x2] h) else none else none := (EX_at bk_Hook_fullAt_0 _ _ _).trans rfl
theorem bk_Hook_fullAt_8 : blk 222 8 = some (((cd_Hook_fullAt.lookup 8).getD ([], 0, []))) := rfl
theorem Hook_fullAt_8 (d : Nat) (a0 : Nat) (x1 : Int) (x2 : Int) (s0 : Int) (h : Hp) : EX d 222 8 [(0, .inr (.inr a0)), (1, .inl x1), (2, .inl x2)] [.inl s0] h = if (wr s0) = 0 then EX d 222 11 [] [] h else EX d 222 14 [(0, .inr (.inr a0)), (1, .inl x1), (2, .inl x2)] [] h := (EX_at bk_Hook_fullAt_8 _ _ _).trans rfl
theorem bk_Hook_fullAt_11 : blk 222 11 = some (((cd_Hook_fullAt.lookup 11).getD ([], 0, []))) := rfl
theorem Hook_fullAt_11 (d : Nat) (h : Hp) : EX d 222 11 [] [] h = some (.inl (-2), h) := (EX_at bk_Hook_fullAt_11 _ _ _).trans rfl
theorem bk_Hook_fullAt_14 : blk 222 14 = some (((cd_Hook_fullAt.lookup 14).getD ([], 0, []))) := rfl
theorem Hook_fullAt_14 (d : Nat) (a0 : Nat) (x1 : Int) (x2 : Int) (h : Hp) : EX d 222 14 [(0, .inr (.inr a0)), (1, .inl x1), (2, .inl x2)] [] h = if (wr x1) < 0 then EX d 222 18 [] [] h else EX d 222 21 [(0, .inr (.inr a0)), (1, .inl x1), (2, .inl x2)] [] h := (EX_at bk_Hook_fullAt_14 _ _ _).trans rfl
theorem bk_Hook_fullAt_18 : blk 222 18 = some (((cd_Hook_fullAt.lookup 18).getD ([], 0, []))) := rfl
theorem Hook_fullAt_18 (d : Nat) (h : Hp) : EX d 222 18 [] [] h = some (.inl (-3), h) := (EX_at bk_Hook_fullAt_18 _ _ _).trans rfl
theorem bk_Hook_fullAt_21 : blk 222 21 = some (((cd_Hook_fullAt.lookup 21).getD ([], 0, []))) := rfl
theorem Hook_fullAt_21 (d : Nat) (a0 : Nat) (x1 : Int) (x2 : Int) (h : Hp) : EX d 222 21 [(0, .inr (.inr a0)), (1, .inl x1), (2, .inl x2)] [] h = if sK h a0 = 10 then if sK h a0 = 10 then if sK h (hR h a0 14) = 2 then bak (EX d 222) 32 [(0, .inr (.inr a0)), (1, .inl x1), (2, .inl x2)] [] true (cal d 181 [.inr (.inr (hR h a0 14)), .inr (.inr (hR h a0 5))] h) else none else none else none := (EX_at bk_Hook_fullAt_21 _ _ _).trans rfl
theorem bk_Hook_fullAt_32 : blk 222 32 = some (((cd_Hook_fullAt.lookup 32).getD ([], 0, []))) := rfl
theorem Hook_fullAt_32 (d : Nat) (a0 : Nat) (x1 : Int) (x2 : Int) (h : Hp) : EX d 222 32 [(0, .inr (.inr a0)), (1, .inl x1), (2, .inl x2)] [] h = if sK h a0 = 10 then if sK h (hR h a0 14) = 2 then if sK h a0 = 10 then if sK h (hR h a0 14) = 2 then if okx h (hR h (hR h a0 14) 1) 20 (hI h (hR h a0 14) 2) then if (wr x1) < (wr (hI h (hR h (hR h a0 14) 1) (ix (hI h (hR h a0 14) 2)))) then EX d 222 54 [(0, .inr (.inr a0)), (1, .inl x1), (2, .inl x2)] [] h else EX d 222 51 [] [] h else none else none else none else none else none := (EX_at bk_Hook_fullAt_32 _ _ _).trans rfl
theorem bk_Hook_fullAt_51 : blk 222 51 = some (((cd_Hook_fullAt.lookup 51).getD ([], 0, []))) := rfl
theorem Hook_fullAt_51 (d : Nat) (h : Hp) : EX d 222 51 [] [] h = some (.inl (-5), h) := (EX_at bk_Hook_fullAt_51 _ _ _).trans rfl
theorem bk_Hook_fullAt_54 : blk 222 54 = some (((cd_Hook_fullAt.lookup 54).getD ([], 0, []))) := rfl
theorem Hook_fullAt_54 (d : Nat) (a0 : Nat) (x1 : Int) (x2 : Int) (h : Hp) : EX d 222 54 [(0, .inr (.inr a0)), (1, .inl x1), (2, .inl x2)] [] h = if sK h a0 = 10 then if sK h a0 = 10 then if sK h (hR h a0 14) = 2 then bak (EX d 222) 67 [] [] false (cal d 221 [.inr (.inr (hR h a0 14)), .inr (.inr (hR h a0 5)), .inl x1, .inl x2] h) else none else none else none := (EX_at bk_Hook_fullAt_54 _ _ _).trans rfl
theorem bk_Hook_fullAt_67 : blk 222 67 = some (((cd_Hook_fullAt.lookup 67).getD ([], 0, []))) := rfl
theorem Hook_fullAt_67 (d : Nat) (s0 : Int) (h : Hp) : EX d 222 67 [] [.inl s0] h = some (.inl s0, h) := (EX_at bk_Hook_fullAt_67 _ _ _).trans rfl
/-! looks(II)I of HookOver: method 229 -/
theorem bk_Hook_looks_0 : blk 229 0 = some (((cd_Hook_looks.lookup 0).getD ([], 0, []))) := rfl
theorem Hook_looks_0 (d : Nat) (a0 : Nat) (x1 : Int) (x2 : Int) (h : Hp) : EX d 229 0 [(0, .inr (.inr a0)), (1, .inl x1), (2, .inl x2)] [] h = bak (EX d 229) 4 [(0, .inr (.inr a0)), (1, .inl x1), (2, .inl x2)] [] false (cal d 154 [.inl x1] h) := (EX_at bk_Hook_looks_0 _ _ _).trans rfl
theorem bk_Hook_looks_4 : blk 229 4 = some (((cd_Hook_looks.lookup 4).getD ([], 0, []))) := rfl
theorem Hook_looks_4 (d : Nat) (a0 : Nat) (x1 : Int) (x2 : Int) (s0 : Int) (h : Hp) : EX d 229 4 [(0, .inr (.inr a0)), (1, .inl x1), (2, .inl x2)] [.inl s0] h = if (wr s0) = 0 then EX d 229 16 [] [] h else EX d 229 7 [(0, .inr (.inr a0)), (1, .inl x1), (2, .inl x2)] [] h := (EX_at bk_Hook_looks_4 _ _ _).trans rfl
theorem bk_Hook_looks_7 : blk 229 7 = some (((cd_Hook_looks.lookup 7).getD ([], 0, []))) := rfl
theorem Hook_looks_7 (d : Nat) (a0 : Nat) (x1 : Int) (x2 : Int) (h : Hp) : EX d 229 7 [(0, .inr (.inr a0)), (1, .inl x1), (2, .inl x2)] [] h = if (wr x2) < 0 then EX d 229 16 [] [] h else EX d 229 11 [(0, .inr (.inr a0)), (1, .inl x1), (2, .inl x2)] [] h := (EX_at bk_Hook_looks_7 _ _ _).trans rfl
theorem bk_Hook_looks_11 : blk 229 11 = some (((cd_Hook_looks.lookup 11).getD ([], 0, []))) := rfl
theorem Hook_looks_11 (d : Nat) (a0 : Nat) (x1 : Int) (x2 : Int) (h : Hp) : EX d 229 11 [(0, .inr (.inr a0)), (1, .inl x1), (2, .inl x2)] [] h = if 2 < (wr x2) then EX d 229 16 [] [] h else EX d 229 19 [(0, .inr (.inr a0)), (1, .inl x1), (2, .inl x2)] [] h := (EX_at bk_Hook_looks_11 _ _ _).trans rfl
theorem bk_Hook_looks_16 : blk 229 16 = some (((cd_Hook_looks.lookup 16).getD ([], 0, []))) := rfl
theorem Hook_looks_16 (d : Nat) (h : Hp) : EX d 229 16 [] [] h = some (.inl (-2), h) := (EX_at bk_Hook_looks_16 _ _ _).trans rfl
theorem bk_Hook_looks_19 : blk 229 19 = some (((cd_Hook_looks.lookup 19).getD ([], 0, []))) := rfl
theorem Hook_looks_19 (d : Nat) (a0 : Nat) (x1 : Int) (x2 : Int) (h : Hp) : EX d 229 19 [(0, .inr (.inr a0)), (1, .inl x1), (2, .inl x2)] [] h = if sK h a0 = 10 then if okx h (hR h a0 10) 24 x1 then if sK h (hR h (hR h a0 10) (ix x1)) = 7 then bak (EX d 229) 30 [(0, .inr (.inr a0)), (2, .inl x2), (3, .inr (.inr (hR h (hR h a0 10) (ix x1))))] [] false (cal d 155 [.inr (.inr (hR h (hR h a0 10) (ix x1)))] h) else none else none else none := (EX_at bk_Hook_looks_19 _ _ _).trans rfl
theorem bk_Hook_looks_30 : blk 229 30 = some (((cd_Hook_looks.lookup 30).getD ([], 0, []))) := rfl
theorem Hook_looks_30 (d : Nat) (a0 : Nat) (x2 : Int) (a3 : Nat) (s0 : Int) (h : Hp) : EX d 229 30 [(0, .inr (.inr a0)), (2, .inl x2), (3, .inr (.inr a3))] [.inl s0] h = if (wr s0) = 0 then EX d 229 36 [(0, .inr (.inr a0)), (2, .inl x2), (3, .inr (.inr a3))] [] h else EX d 229 33 [] [] h := (EX_at bk_Hook_looks_30 _ _ _).trans rfl
theorem bk_Hook_looks_33 : blk 229 33 = some (((cd_Hook_looks.lookup 33).getD ([], 0, []))) := rfl
theorem Hook_looks_33 (d : Nat) (h : Hp) : EX d 229 33 [] [] h = some (.inl (-6), h) := (EX_at bk_Hook_looks_33 _ _ _).trans rfl
theorem bk_Hook_looks_36 : blk 229 36 = some (((cd_Hook_looks.lookup 36).getD ([], 0, []))) := rfl
theorem Hook_looks_36 (d : Nat) (a0 : Nat) (x2 : Int) (a3 : Nat) (h : Hp) : EX d 229 36 [(0, .inr (.inr a0)), (2, .inl x2), (3, .inr (.inr a3))] [] h = if sK h a3 = 7 then if (wr (hI h a3 2)) < 1 then EX d 229 53 [] [] h else EX d 229 44 [(0, .inr (.inr a0)), (2, .inl x2), (3, .inr (.inr a3))] [] h else none := (EX_at bk_Hook_looks_36 _ _ _).trans rfl
theorem bk_Hook_looks_44 : blk 229 44 = some (((cd_Hook_looks.lookup 44).getD ([], 0, []))) := rfl
theorem Hook_looks_44 (d : Nat) (a0 : Nat) (x2 : Int) (a3 : Nat) (h : Hp) : EX d 229 44 [(0, .inr (.inr a0)), (2, .inl x2), (3, .inr (.inr a3))] [] h = if sK h a3 = 7 then if 20 < (wr (hI h a3 2)) then EX d 229 53 [] [] h else EX d 229 56 [(0, .inr (.inr a0)), (2, .inl x2), (3, .inr (.inr a3))] [] h else none := (EX_at bk_Hook_looks_44 _ _ _).trans rfl
theorem bk_Hook_looks_53 : blk 229 53 = some (((cd_Hook_looks.lookup 53).getD ([], 0, []))) := rfl
theorem Hook_looks_53 (d : Nat) (h : Hp) : EX d 229 53 [] [] h = some (.inl (-4), h) := (EX_at bk_Hook_looks_53 _ _ _).trans rfl
theorem bk_Hook_looks_56 : blk 229 56 = some (((cd_Hook_looks.lookup 56).getD ([], 0, []))) := rfl
theorem Hook_looks_56 (d : Nat) (a0 : Nat) (x2 : Int) (a3 : Nat) (h : Hp) : EX d 229 56 [(0, .inr (.inr a0)), (2, .inl x2), (3, .inr (.inr a3))] [] h = if sK h a3 = 7 then bak (EX d 229) 64 [(0, .inr (.inr a0)), (2, .inl x2), (3, .inr (.inr a3))] [] false (cal d 224 [.inr (.inr a3), .inr (.inl 0), .inr (.inl 999)] h) else none := (EX_at bk_Hook_looks_56 _ _ _).trans rfl
theorem bk_Hook_looks_64 : blk 229 64 = some (((cd_Hook_looks.lookup 64).getD ([], 0, []))) := rfl
theorem Hook_looks_64 (d : Nat) (a0 : Nat) (x2 : Int) (a3 : Nat) (s0 : Int) (h : Hp) : EX d 229 64 [(0, .inr (.inr a0)), (2, .inl x2), (3, .inr (.inr a3))] [.inl s0] h = if (wr s0) = 0 then EX d 229 67 [] [] h else EX d 229 70 [(0, .inr (.inr a0)), (2, .inl x2), (3, .inr (.inr a3))] [] h := (EX_at bk_Hook_looks_64 _ _ _).trans rfl
theorem bk_Hook_looks_67 : blk 229 67 = some (((cd_Hook_looks.lookup 67).getD ([], 0, []))) := rfl
theorem Hook_looks_67 (d : Nat) (h : Hp) : EX d 229 67 [] [] h = some (.inl (-3), h) := (EX_at bk_Hook_looks_67 _ _ _).trans rfl
theorem bk_Hook_looks_70 : blk 229 70 = some (((cd_Hook_looks.lookup 70).getD ([], 0, []))) := rfl
theorem Hook_looks_70 (d : Nat) (a0 : Nat) (x2 : Int) (a3 : Nat) (h : Hp) : EX d 229 70 [(0, .inr (.inr a0)), (2, .inl x2), (3, .inr (.inr a3))] [] h = if (wr x2) = 2 then EX d 229 76 [(0, .inr (.inr a0)), (2, .inl x2), (3, .inr (.inr a3))] [.inr (.inr a3)] h else EX d 229 80 [(0, .inr (.inr a0)), (2, .inl x2), (3, .inr (.inr a3))] [.inr (.inr a3)] h := (EX_at bk_Hook_looks_70 _ _ _).trans rfl
theorem bk_Hook_looks_76 : blk 229 76 = some (((cd_Hook_looks.lookup 76).getD ([], 0, []))) := rfl
theorem Hook_looks_76 (d : Nat) (a0 : Nat) (x2 : Int) (a3 : Nat) (r0 : Nat) (h : Hp) : EX d 229 76 [(0, .inr (.inr a0)), (2, .inl x2), (3, .inr (.inr a3))] [.inr (.inr r0)] h = EX d 229 81 [(0, .inr (.inr a0)), (2, .inl x2), (3, .inr (.inr a3))] [.inl 1, .inr (.inr r0)] h := (EX_at bk_Hook_looks_76 _ _ _).trans rfl
theorem bk_Hook_looks_80 : blk 229 80 = some (((cd_Hook_looks.lookup 80).getD ([], 0, []))) := rfl
theorem Hook_looks_80 (d : Nat) (a0 : Nat) (x2 : Int) (a3 : Nat) (r0 : Nat) (h : Hp) : EX d 229 80 [(0, .inr (.inr a0)), (2, .inl x2), (3, .inr (.inr a3))] [.inr (.inr r0)] h = EX d 229 81 [(0, .inr (.inr a0)), (2, .inl x2), (3, .inr (.inr a3))] [.inl 0, .inr (.inr r0)] h := (EX_at bk_Hook_looks_80 _ _ _).trans rfl
theorem bk_Hook_looks_81 : blk 229 81 = some (((cd_Hook_looks.lookup 81).getD ([], 0, []))) := rfl
theorem Hook_looks_81 (d : Nat) (a0 : Nat) (x2 : Int) (a3 : Nat) (r0 : Nat) (s1 : Int) (h : Hp) : EX d 229 81 [(0, .inr (.inr a0)), (2, .inl x2), (3, .inr (.inr a3))] [.inl s1, .inr (.inr r0)] h = if sK h a0 = 10 then bak (EX d 229) 88 [(0, .inr (.inr a0)), (2, .inl x2), (3, .inr (.inr a3))] [] false (cal d 227 [.inr (.inr r0), .inl s1, .inr (.inr (hR h a0 17))] h) else none := (EX_at bk_Hook_looks_81 _ _ _).trans rfl
theorem bk_Hook_looks_88 : blk 229 88 = some (((cd_Hook_looks.lookup 88).getD ([], 0, []))) := rfl
theorem Hook_looks_88 (d : Nat) (a0 : Nat) (x2 : Int) (a3 : Nat) (s0 : Int) (h : Hp) : EX d 229 88 [(0, .inr (.inr a0)), (2, .inl x2), (3, .inr (.inr a3))] [.inl s0] h = if (wr x2) = 1 then EX d 229 95 [(0, .inr (.inr a0)), (3, .inr (.inr a3))] [] h else EX d 229 106 [(4, .inl s0)] [] h := (EX_at bk_Hook_looks_88 _ _ _).trans rfl
theorem bk_Hook_looks_95 : blk 229 95 = some (((cd_Hook_looks.lookup 95).getD ([], 0, []))) := rfl
theorem Hook_looks_95 (d : Nat) (a0 : Nat) (a3 : Nat) (h : Hp) : EX d 229 95 [(0, .inr (.inr a0)), (3, .inr (.inr a3))] [] h = if sK h a0 = 10 then bak (EX d 229) 103 [] [] false (cal d 228 [.inr (.inr a3), .inr (.inr (hR h a0 17))] h) else none := (EX_at bk_Hook_looks_95 _ _ _).trans rfl
theorem bk_Hook_looks_103 : blk 229 103 = some (((cd_Hook_looks.lookup 103).getD ([], 0, []))) := rfl
theorem Hook_looks_103 (d : Nat) (s0 : Int) (h : Hp) : EX d 229 103 [] [.inl s0] h = EX d 229 108 [] [.inl s0] h := (EX_at bk_Hook_looks_103 _ _ _).trans rfl
theorem bk_Hook_looks_106 : blk 229 106 = some (((cd_Hook_looks.lookup 106).getD ([], 0, []))) := rfl
theorem Hook_looks_106 (d : Nat) (x4 : Int) (h : Hp) : EX d 229 106 [(4, .inl x4)] [] h = EX d 229 108 [] [.inl x4] h := (EX_at bk_Hook_looks_106 _ _ _).trans rfl
theorem bk_Hook_looks_108 : blk 229 108 = some (((cd_Hook_looks.lookup 108).getD ([], 0, []))) := rfl
theorem Hook_looks_108 (d : Nat) (s0 : Int) (h : Hp) : EX d 229 108 [] [.inl s0] h = some (.inl s0, h) := (EX_at bk_Hook_looks_108 _ _ _).trans rfl
/-! rounds(II)I of HookOver: method 238 -/
theorem bk_Hook_rounds_0 : blk 238 0 = some (((cd_Hook_rounds.lookup 0).getD ([], 0, []))) := rfl
theorem Hook_rounds_0 (d : Nat) (a0 : Nat) (x1 : Int) (x2 : Int) (h : Hp) : EX d 238 0 [(0, .inr (.inr a0)), (1, .inl x1), (2, .inl x2)] [] h = if (wr x2) < 10 then EX d 238 16 [(0, .inr (.inr a0)), (1, .inl x1), (2, .inl x2)] [] h else EX d 238 6 [(0, .inr (.inr a0)), (1, .inl x1), (2, .inl x2)] [] h := (EX_at bk_Hook_rounds_0 _ _ _).trans rfl
theorem bk_Hook_rounds_6 : blk 238 6 = some (((cd_Hook_rounds.lookup 6).getD ([], 0, []))) := rfl
theorem Hook_rounds_6 (d : Nat) (a0 : Nat) (x1 : Int) (x2 : Int) (h : Hp) : EX d 238 6 [(0, .inr (.inr a0)), (1, .inl x1), (2, .inl x2)] [] h = if (wr x2) < 18 then EX d 238 12 [(0, .inr (.inr a0)), (1, .inl x1), (2, .inl x2)] [] h else EX d 238 16 [(0, .inr (.inr a0)), (1, .inl x1), (2, .inl x2)] [] h := (EX_at bk_Hook_rounds_6 _ _ _).trans rfl
theorem bk_Hook_rounds_12 : blk 238 12 = some (((cd_Hook_rounds.lookup 12).getD ([], 0, []))) := rfl
theorem Hook_rounds_12 (d : Nat) (a0 : Nat) (x1 : Int) (x2 : Int) (h : Hp) : EX d 238 12 [(0, .inr (.inr a0)), (1, .inl x1), (2, .inl x2)] [] h = EX d 238 17 [(0, .inr (.inr a0)), (1, .inl x1), (2, .inl x2)] [.inl 1] h := (EX_at bk_Hook_rounds_12 _ _ _).trans rfl
theorem bk_Hook_rounds_16 : blk 238 16 = some (((cd_Hook_rounds.lookup 16).getD ([], 0, []))) := rfl
theorem Hook_rounds_16 (d : Nat) (a0 : Nat) (x1 : Int) (x2 : Int) (h : Hp) : EX d 238 16 [(0, .inr (.inr a0)), (1, .inl x1), (2, .inl x2)] [] h = EX d 238 17 [(0, .inr (.inr a0)), (1, .inl x1), (2, .inl x2)] [.inl 0] h := (EX_at bk_Hook_rounds_16 _ _ _).trans rfl
theorem bk_Hook_rounds_17 : blk 238 17 = some (((cd_Hook_rounds.lookup 17).getD ([], 0, []))) := rfl
theorem Hook_rounds_17 (d : Nat) (a0 : Nat) (x1 : Int) (x2 : Int) (s0 : Int) (h : Hp) : EX d 238 17 [(0, .inr (.inr a0)), (1, .inl x1), (2, .inl x2)] [.inl s0] h = bak (EX d 238) 22 [(0, .inr (.inr a0)), (1, .inl x1), (2, .inl x2), (3, .inl s0)] [] false (cal d 154 [.inl x1] h) := (EX_at bk_Hook_rounds_17 _ _ _).trans rfl
theorem bk_Hook_rounds_22 : blk 238 22 = some (((cd_Hook_rounds.lookup 22).getD ([], 0, []))) := rfl
theorem Hook_rounds_22 (d : Nat) (a0 : Nat) (x1 : Int) (x2 : Int) (x3 : Int) (s0 : Int) (h : Hp) : EX d 238 22 [(0, .inr (.inr a0)), (1, .inl x1), (2, .inl x2), (3, .inl x3)] [.inl s0] h = if (wr s0) = 0 then EX d 238 33 [] [] h else EX d 238 25 [(0, .inr (.inr a0)), (1, .inl x1), (2, .inl x2), (3, .inl x3)] [] h := (EX_at bk_Hook_rounds_22 _ _ _).trans rfl
theorem bk_Hook_rounds_25 : blk 238 25 = some (((cd_Hook_rounds.lookup 25).getD ([], 0, []))) := rfl
theorem Hook_rounds_25 (d : Nat) (a0 : Nat) (x1 : Int) (x2 : Int) (x3 : Int) (h : Hp) : EX d 238 25 [(0, .inr (.inr a0)), (1, .inl x1), (2, .inl x2), (3, .inl x3)] [] h = if (wr x2) = 0 then EX d 238 36 [(0, .inr (.inr a0)), (1, .inl x1), (2, .inl x2)] [] h else EX d 238 29 [(0, .inr (.inr a0)), (1, .inl x1), (2, .inl x2), (3, .inl x3)] [] h := (EX_at bk_Hook_rounds_25 _ _ _).trans rfl
theorem bk_Hook_rounds_29 : blk 238 29 = some (((cd_Hook_rounds.lookup 29).getD ([], 0, []))) := rfl
theorem Hook_rounds_29 (d : Nat) (a0 : Nat) (x1 : Int) (x2 : Int) (x3 : Int) (h : Hp) : EX d 238 29 [(0, .inr (.inr a0)), (1, .inl x1), (2, .inl x2), (3, .inl x3)] [] h = if (wr x3) = 0 then EX d 238 33 [] [] h else EX d 238 36 [(0, .inr (.inr a0)), (1, .inl x1), (2, .inl x2)] [] h := (EX_at bk_Hook_rounds_29 _ _ _).trans rfl
theorem bk_Hook_rounds_33 : blk 238 33 = some (((cd_Hook_rounds.lookup 33).getD ([], 0, []))) := rfl
theorem Hook_rounds_33 (d : Nat) (h : Hp) : EX d 238 33 [] [] h = some (.inl (-2), h) := (EX_at bk_Hook_rounds_33 _ _ _).trans rfl
theorem bk_Hook_rounds_36 : blk 238 36 = some (((cd_Hook_rounds.lookup 36).getD ([], 0, []))) := rfl
theorem Hook_rounds_36 (d : Nat) (a0 : Nat) (x1 : Int) (x2 : Int) (h : Hp) : EX d 238 36 [(0, .inr (.inr a0)), (1, .inl x1), (2, .inl x2)] [] h = if sK h a0 = 10 then if okx h (hR h a0 10) 24 x1 then if sK h (hR h (hR h a0 10) (ix x1)) = 7 then bak (EX d 238) 49 [(0, .inr (.inr a0)), (2, .inl x2), (4, .inr (.inr (hR h (hR h a0 10) (ix x1))))] [] false (cal d 155 [.inr (.inr (hR h (hR h a0 10) (ix x1)))] h) else none else none else none := (EX_at bk_Hook_rounds_36 _ _ _).trans rfl
theorem bk_Hook_rounds_49 : blk 238 49 = some (((cd_Hook_rounds.lookup 49).getD ([], 0, []))) := rfl
theorem Hook_rounds_49 (d : Nat) (a0 : Nat) (x2 : Int) (a4 : Nat) (s0 : Int) (h : Hp) : EX d 238 49 [(0, .inr (.inr a0)), (2, .inl x2), (4, .inr (.inr a4))] [.inl s0] h = if (wr s0) = 0 then EX d 238 55 [(0, .inr (.inr a0)), (2, .inl x2), (4, .inr (.inr a4))] [] h else EX d 238 52 [] [] h := (EX_at bk_Hook_rounds_49 _ _ _).trans rfl
theorem bk_Hook_rounds_52 : blk 238 52 = some (((cd_Hook_rounds.lookup 52).getD ([], 0, []))) := rfl
theorem Hook_rounds_52 (d : Nat) (h : Hp) : EX d 238 52 [] [] h = some (.inl (-6), h) := (EX_at bk_Hook_rounds_52 _ _ _).trans rfl
theorem bk_Hook_rounds_55 : blk 238 55 = some (((cd_Hook_rounds.lookup 55).getD ([], 0, []))) := rfl
theorem Hook_rounds_55 (d : Nat) (a0 : Nat) (x2 : Int) (a4 : Nat) (h : Hp) : EX d 238 55 [(0, .inr (.inr a0)), (2, .inl x2), (4, .inr (.inr a4))] [] h = if sK h a4 = 7 then if (wr (hI h a4 2)) < 1 then EX d 238 74 [] [] h else EX d 238 64 [(0, .inr (.inr a0)), (2, .inl x2), (4, .inr (.inr a4))] [] h else none := (EX_at bk_Hook_rounds_55 _ _ _).trans rfl
theorem bk_Hook_rounds_64 : blk 238 64 = some (((cd_Hook_rounds.lookup 64).getD ([], 0, []))) := rfl
theorem Hook_rounds_64 (d : Nat) (a0 : Nat) (x2 : Int) (a4 : Nat) (h : Hp) : EX d 238 64 [(0, .inr (.inr a0)), (2, .inl x2), (4, .inr (.inr a4))] [] h = if sK h a4 = 7 then if 8 < (wr (hI h a4 2)) then EX d 238 74 [] [] h else EX d 238 77 [(0, .inr (.inr a0)), (2, .inl x2), (4, .inr (.inr a4))] [] h else none := (EX_at bk_Hook_rounds_64 _ _ _).trans rfl
theorem bk_Hook_rounds_74 : blk 238 74 = some (((cd_Hook_rounds.lookup 74).getD ([], 0, []))) := rfl
theorem Hook_rounds_74 (d : Nat) (h : Hp) : EX d 238 74 [] [] h = some (.inl (-4), h) := (EX_at bk_Hook_rounds_74 _ _ _).trans rfl
theorem bk_Hook_rounds_77 : blk 238 77 = some (((cd_Hook_rounds.lookup 77).getD ([], 0, []))) := rfl
theorem Hook_rounds_77 (d : Nat) (a0 : Nat) (x2 : Int) (a4 : Nat) (h : Hp) : EX d 238 77 [(0, .inr (.inr a0)), (2, .inl x2), (4, .inr (.inr a4))] [] h = if sK h a0 = 10 then if sK h (hR h a0 5) = 9 then if sK h a4 = 7 then bak (EX d 238) 93 [(0, .inr (.inr a0)), (2, .inl x2), (4, .inr (.inr a4))] [] false (cal d 224 [.inr (.inr a4), .inr (.inl 0), .inr (.inl (wr ((hI h (hR h a0 5) 6) - 1)))] h) else none else none else none := (EX_at bk_Hook_rounds_77 _ _ _).trans rfl
theorem bk_Hook_rounds_93 : blk 238 93 = some (((cd_Hook_rounds.lookup 93).getD ([], 0, []))) := rfl
theorem Hook_rounds_93 (d : Nat) (a0 : Nat) (x2 : Int) (a4 : Nat) (s0 : Int) (h : Hp) : EX d 238 93 [(0, .inr (.inr a0)), (2, .inl x2), (4, .inr (.inr a4))] [.inl s0] h = if (wr s0) = 0 then EX d 238 104 [] [] h else EX d 238 96 [(0, .inr (.inr a0)), (2, .inl x2), (4, .inr (.inr a4))] [] h := (EX_at bk_Hook_rounds_93 _ _ _).trans rfl
theorem bk_Hook_rounds_96 : blk 238 96 = some (((cd_Hook_rounds.lookup 96).getD ([], 0, []))) := rfl
theorem Hook_rounds_96 (d : Nat) (a0 : Nat) (x2 : Int) (a4 : Nat) (h : Hp) : EX d 238 96 [(0, .inr (.inr a0)), (2, .inl x2), (4, .inr (.inr a4))] [] h = if sK h a4 = 7 then bak (EX d 238) 101 [(0, .inr (.inr a0)), (2, .inl x2), (4, .inr (.inr a4))] [] false (cal d 233 [.inr (.inr a4)] h) else none := (EX_at bk_Hook_rounds_96 _ _ _).trans rfl
theorem bk_Hook_rounds_101 : blk 238 101 = some (((cd_Hook_rounds.lookup 101).getD ([], 0, []))) := rfl
theorem Hook_rounds_101 (d : Nat) (a0 : Nat) (x2 : Int) (a4 : Nat) (s0 : Int) (h : Hp) : EX d 238 101 [(0, .inr (.inr a0)), (2, .inl x2), (4, .inr (.inr a4))] [.inl s0] h = if (wr s0) = 0 then EX d 238 107 [(0, .inr (.inr a0)), (2, .inl x2), (4, .inr (.inr a4))] [] h else EX d 238 104 [] [] h := (EX_at bk_Hook_rounds_101 _ _ _).trans rfl
theorem bk_Hook_rounds_104 : blk 238 104 = some (((cd_Hook_rounds.lookup 104).getD ([], 0, []))) := rfl
theorem Hook_rounds_104 (d : Nat) (h : Hp) : EX d 238 104 [] [] h = some (.inl (-3), h) := (EX_at bk_Hook_rounds_104 _ _ _).trans rfl
theorem bk_Hook_rounds_107 : blk 238 107 = some (((cd_Hook_rounds.lookup 107).getD ([], 0, []))) := rfl
theorem Hook_rounds_107 (d : Nat) (a0 : Nat) (x2 : Int) (a4 : Nat) (h : Hp) : EX d 238 107 [(0, .inr (.inr a0)), (2, .inl x2), (4, .inr (.inr a4))] [] h = if sK h a0 = 10 then if sK h a0 = 10 then bak (EX d 238) 120 [(0, .inr (.inr a0)), (2, .inl x2), (4, .inr (.inr a4))] [] true (cal d 235 [.inr (.inr (hR h a0 5)), .inr (.inr a4), .inr (.inr (hR h a0 17))] h) else none else none := (EX_at bk_Hook_rounds_107 _ _ _).trans rfl
theorem bk_Hook_rounds_120 : blk 238 120 = some (((cd_Hook_rounds.lookup 120).getD ([], 0, []))) := rfl
theorem Hook_rounds_120 (d : Nat) (a0 : Nat) (x2 : Int) (a4 : Nat) (h : Hp) : EX d 238 120 [(0, .inr (.inr a0)), (2, .inl x2), (4, .inr (.inr a4))] [] h = if (wr x2) = 0 then EX d 238 124 [(0, .inr (.inr a0))] [] h else EX d 238 139 [(0, .inr (.inr a0)), (2, .inl x2), (4, .inr (.inr a4))] [] h := (EX_at bk_Hook_rounds_120 _ _ _).trans rfl
theorem bk_Hook_rounds_124 : blk 238 124 = some (((cd_Hook_rounds.lookup 124).getD ([], 0, []))) := rfl
theorem Hook_rounds_124 (d : Nat) (a0 : Nat) (h : Hp) : EX d 238 124 [(0, .inr (.inr a0))] [] h = if sK h a0 = 10 then if sK h (hR h a0 7) = 0 then if sK h a0 = 10 then bak (EX d 238) 138 [] [] false (cal d 236 [.inl (hI h (hR h a0 7) 1), .inr (.inr (hR h a0 17))] h) else none else none else none := (EX_at bk_Hook_rounds_124 _ _ _).trans rfl
theorem bk_Hook_rounds_138 : blk 238 138 = some (((cd_Hook_rounds.lookup 138).getD ([], 0, []))) := rfl
theorem Hook_rounds_138 (d : Nat) (s0 : Int) (h : Hp) : EX d 238 138 [] [.inl s0] h = some (.inl s0, h) := (EX_at bk_Hook_rounds_138 _ _ _).trans rfl
theorem bk_Hook_rounds_139 : blk 238 139 = some (((cd_Hook_rounds.lookup 139).getD ([], 0, []))) := rfl
theorem Hook_rounds_139 (d : Nat) (a0 : Nat) (x2 : Int) (a4 : Nat) (h : Hp) : EX d 238 139 [(0, .inr (.inr a0)), (2, .inl x2), (4, .inr (.inr a4))] [] h = if sK h a4 = 7 then if (wr (x2 - 10)) < (wr (hI h a4 2)) then EX d 238 153 [(0, .inr (.inr a0)), (2, .inl x2), (4, .inr (.inr a4))] [] h else EX d 238 151 [] [] h else none := (EX_at bk_Hook_rounds_139 _ _ _).trans rfl
theorem bk_Hook_rounds_151 : blk 238 151 = some (((cd_Hook_rounds.lookup 151).getD ([], 0, []))) := rfl
theorem Hook_rounds_151 (d : Nat) (h : Hp) : EX d 238 151 [] [] h = some (.inl (-1), h) := (EX_at bk_Hook_rounds_151 _ _ _).trans rfl
theorem bk_Hook_rounds_153 : blk 238 153 = some (((cd_Hook_rounds.lookup 153).getD ([], 0, []))) := rfl
theorem Hook_rounds_153 (d : Nat) (a0 : Nat) (x2 : Int) (a4 : Nat) (h : Hp) : EX d 238 153 [(0, .inr (.inr a0)), (2, .inl x2), (4, .inr (.inr a4))] [] h = if sK h a0 = 10 then if sK h a0 = 10 then if sK h (hR h a0 7) = 0 then if sK h a0 = 10 then if sK h a0 = 10 then bak (EX d 238) 177 [(0, .inr (.inr a0)), (2, .inl x2)] [] true (cal d 237 [.inr (.inr (hR h a0 5)), .inr (.inr a4), .inl (hI h (hR h a0 7) 1), .inr (.inr (hR h a0 17)), .inr (.inr (hR h a0 18))] h) else none else none else none else none else none := (EX_at bk_Hook_rounds_153 _ _ _).trans rfl
theorem bk_Hook_rounds_177 : blk 238 177 = some (((cd_Hook_rounds.lookup 177).getD ([], 0, []))) := rfl
theorem Hook_rounds_177 (d : Nat) (a0 : Nat) (x2 : Int) (h : Hp) : EX d 238 177 [(0, .inr (.inr a0)), (2, .inl x2)] [] h = if sK h a0 = 10 then if okx h (hR h a0 18) 20 (x2 - 10) then some (.inl (hI h (hR h a0 18) (ix (x2 - 10))), h) else none else none := (EX_at bk_Hook_rounds_177 _ _ _).trans rfl
/-! pleats(I)I of HookOver: method 242 -/
theorem bk_Hook_pleats_0 : blk 242 0 = some (((cd_Hook_pleats.lookup 0).getD ([], 0, []))) := rfl
theorem Hook_pleats_0 (d : Nat) (a0 : Nat) (x1 : Int) (h : Hp) : EX d 242 0 [(0, .inr (.inr a0)), (1, .inl x1)] [] h = if (wr x1) = 0 then EX d 242 12 [(0, .inr (.inr a0)), (1, .inl x1)] [] h else EX d 242 4 [(0, .inr (.inr a0)), (1, .inl x1)] [] h := (EX_at bk_Hook_pleats_0 _ _ _).trans rfl
theorem bk_Hook_pleats_4 : blk 242 4 = some (((cd_Hook_pleats.lookup 4).getD ([], 0, []))) := rfl
theorem Hook_pleats_4 (d : Nat) (a0 : Nat) (x1 : Int) (h : Hp) : EX d 242 4 [(0, .inr (.inr a0)), (1, .inl x1)] [] h = if (wr x1) = 1 then EX d 242 12 [(0, .inr (.inr a0)), (1, .inl x1)] [] h else EX d 242 9 [] [] h := (EX_at bk_Hook_pleats_4 _ _ _).trans rfl
theorem bk_Hook_pleats_9 : blk 242 9 = some (((cd_Hook_pleats.lookup 9).getD ([], 0, []))) := rfl
theorem Hook_pleats_9 (d : Nat) (h : Hp) : EX d 242 9 [] [] h = some (.inl (-2), h) := (EX_at bk_Hook_pleats_9 _ _ _).trans rfl
theorem bk_Hook_pleats_12 : blk 242 12 = some (((cd_Hook_pleats.lookup 12).getD ([], 0, []))) := rfl
theorem Hook_pleats_12 (d : Nat) (a0 : Nat) (x1 : Int) (h : Hp) : EX d 242 12 [(0, .inr (.inr a0)), (1, .inl x1)] [] h = if sK h a0 = 10 then if sK h (hR h a0 5) = 9 then if (wr (hI h (hR h a0 5) 11)) = 0 then EX d 242 22 [] [] h else EX d 242 25 [(0, .inr (.inr a0)), (1, .inl x1)] [] h else none else none := (EX_at bk_Hook_pleats_12 _ _ _).trans rfl
theorem bk_Hook_pleats_22 : blk 242 22 = some (((cd_Hook_pleats.lookup 22).getD ([], 0, []))) := rfl
theorem Hook_pleats_22 (d : Nat) (h : Hp) : EX d 242 22 [] [] h = some (.inl (-5), h) := (EX_at bk_Hook_pleats_22 _ _ _).trans rfl
theorem bk_Hook_pleats_25 : blk 242 25 = some (((cd_Hook_pleats.lookup 25).getD ([], 0, []))) := rfl
theorem Hook_pleats_25 (d : Nat) (a0 : Nat) (x1 : Int) (h : Hp) : EX d 242 25 [(0, .inr (.inr a0)), (1, .inl x1)] [] h = EX d 242 32 [(0, .inr (.inr a0)), (1, .inl x1), (2, .inl 0), (3, .inl (-1)), (4, .inl 0)] [] h := (EX_at bk_Hook_pleats_25 _ _ _).trans rfl
theorem bk_Hook_pleats_32 : blk 242 32 = some (((cd_Hook_pleats.lookup 32).getD ([], 0, []))) := rfl
theorem Hook_pleats_32 (d : Nat) (a0 : Nat) (x1 : Int) (x2 : Int) (x3 : Int) (x4 : Int) (h : Hp) : EX d 242 32 [(0, .inr (.inr a0)), (1, .inl x1), (2, .inl x2), (3, .inl x3), (4, .inl x4)] [] h = if sK h a0 = 10 then if sK h (hR h a0 5) = 9 then if (wr x4) < (wr (hI h (hR h a0 5) 11)) then EX d 242 44 [(0, .inr (.inr a0)), (1, .inl x1), (2, .inl x2), (3, .inl x3), (4, .inl x4)] [] h else EX d 242 77 [(1, .inl x1), (2, .inl x2), (3, .inl x3)] [] h else none else none := (EX_at bk_Hook_pleats_32 _ _ _).trans rfl
theorem bk_Hook_pleats_44 : blk 242 44 = some (((cd_Hook_pleats.lookup 44).getD ([], 0, []))) := rfl
theorem Hook_pleats_44 (d : Nat) (a0 : Nat) (x1 : Int) (x2 : Int) (x3 : Int) (x4 : Int) (h : Hp) : EX d 242 44 [(0, .inr (.inr a0)), (1, .inl x1), (2, .inl x2), (3, .inl x3), (4, .inl x4)] [] h = if sK h a0 = 10 then if sK h a0 = 10 then if sK h (hR h a0 7) = 0 then bak (EX d 242) 57 [(0, .inr (.inr a0)), (1, .inl x1), (2, .inl x2), (3, .inl x3), (4, .inl x4)] [] false (cal d 241 [.inr (.inr (hR h a0 7)), .inr (.inr (hR h a0 5)), .inl x4] h) else none else none else none := (EX_at bk_Hook_pleats_44 _ _ _).trans rfl
theorem bk_Hook_pleats_57 : blk 242 57 = some (((cd_Hook_pleats.lookup 57).getD ([], 0, []))) := rfl
theorem Hook_pleats_57 (d : Nat) (a0 : Nat) (x1 : Int) (x2 : Int) (x3 : Int) (x4 : Int) (s0 : Int) (h : Hp) : EX d 242 57 [(0, .inr (.inr a0)), (1, .inl x1), (2, .inl x2), (3, .inl x3), (4, .inl x4)] [.inl s0] h = if (wr x2) < (wr s0) then EX d 242 65 [(0, .inr (.inr a0)), (1, .inl x1), (4, .inl x4), (5, .inl s0)] [] h else EX d 242 71 [(0, .inr (.inr a0)), (1, .inl x1), (2, .inl x2), (3, .inl x3), (4, .inl x4)] [] h := (EX_at bk_Hook_pleats_57 _ _ _).trans rfl
theorem bk_Hook_pleats_65 : blk 242 65 = some (((cd_Hook_pleats.lookup 65).getD ([], 0, []))) := rfl
theorem Hook_pleats_65 (d : Nat) (a0 : Nat) (x1 : Int) (x4 : Int) (x5 : Int) (h : Hp) : EX d 242 65 [(0, .inr (.inr a0)), (1, .inl x1), (4, .inl x4), (5, .inl x5)] [] h = EX d 242 71 [(0, .inr (.inr a0)), (1, .inl x1), (2, .inl x5), (3, .inl x4), (4, .inl x4)] [] h := (EX_at bk_Hook_pleats_65 _ _ _).trans rfl
theorem bk_Hook_pleats_71 : blk 242 71 = some (((cd_Hook_pleats.lookup 71).getD ([], 0, []))) := rfl
theorem Hook_pleats_71 (d : Nat) (a0 : Nat) (x1 : Int) (x2 : Int) (x3 : Int) (x4 : Int) (h : Hp) : EX d 242 71 [(0, .inr (.inr a0)), (1, .inl x1), (2, .inl x2), (3, .inl x3), (4, .inl x4)] [] h = EX d 242 32 [(0, .inr (.inr a0)), (1, .inl x1), (2, .inl x2), (3, .inl x3), (4, .inl (x4 + 1))] [] h := (EX_at bk_Hook_pleats_71 _ _ _).trans rfl
theorem bk_Hook_pleats_77 : blk 242 77 = some (((cd_Hook_pleats.lookup 77).getD ([], 0, []))) := rfl
theorem Hook_pleats_77 (d : Nat) (x1 : Int) (x2 : Int) (x3 : Int) (h : Hp) : EX d 242 77 [(1, .inl x1), (2, .inl x2), (3, .inl x3)] [] h = if (wr x1) = 0 then EX d 242 81 [(2, .inl x2)] [] h else EX d 242 85 [(3, .inl x3)] [] h := (EX_at bk_Hook_pleats_77 _ _ _).trans rfl
theorem bk_Hook_pleats_81 : blk 242 81 = some (((cd_Hook_pleats.lookup 81).getD ([], 0, []))) := rfl
theorem Hook_pleats_81 (d : Nat) (x2 : Int) (h : Hp) : EX d 242 81 [(2, .inl x2)] [] h = EX d 242 86 [] [.inl x2] h := (EX_at bk_Hook_pleats_81 _ _ _).trans rfl
theorem bk_Hook_pleats_85 : blk 242 85 = some (((cd_Hook_pleats.lookup 85).getD ([], 0, []))) := rfl
theorem Hook_pleats_85 (d : Nat) (x3 : Int) (h : Hp) : EX d 242 85 [(3, .inl x3)] [] h = EX d 242 86 [] [.inl x3] h := (EX_at bk_Hook_pleats_85 _ _ _).trans rfl
theorem bk_Hook_pleats_86 : blk 242 86 = some (((cd_Hook_pleats.lookup 86).getD ([], 0, []))) := rfl
theorem Hook_pleats_86 (d : Nat) (s0 : Int) (h : Hp) : EX d 242 86 [] [.inl s0] h = some (.inl s0, h) := (EX_at bk_Hook_pleats_86 _ _ _).trans rfl
/-! average(II)J of HookOver: method 249 -/
theorem bk_Hook_average_0 : blk 249 0 = some (((cd_Hook_average.lookup 0).getD ([], 0, []))) := rfl
theorem Hook_average_0 (d : Nat) (a0 : Nat) (x1 : Int) (x2 : Int) (h : Hp) : EX d 249 0 [(0, .inr (.inr a0)), (1, .inl x1), (2, .inl x2)] [] h = if (wr x2) = 0 then EX d 249 13 [(0, .inr (.inr a0)), (1, .inl x1), (2, .inl x2)] [] h else EX d 249 4 [(0, .inr (.inr a0)), (1, .inl x1), (2, .inl x2)] [] h := (EX_at bk_Hook_average_0 _ _ _).trans rfl
theorem bk_Hook_average_4 : blk 249 4 = some (((cd_Hook_average.lookup 4).getD ([], 0, []))) := rfl
theorem Hook_average_4 (d : Nat) (a0 : Nat) (x1 : Int) (x2 : Int) (h : Hp) : EX d 249 4 [(0, .inr (.inr a0)), (1, .inl x1), (2, .inl x2)] [] h = if (wr x2) = 1 then EX d 249 13 [(0, .inr (.inr a0)), (1, .inl x1), (2, .inl x2)] [] h else EX d 249 9 [] [] h := (EX_at bk_Hook_average_4 _ _ _).trans rfl
theorem bk_Hook_average_9 : blk 249 9 = some (((cd_Hook_average.lookup 9).getD ([], 0, []))) := rfl
theorem Hook_average_9 (d : Nat) (h : Hp) : EX d 249 9 [] [] h = some (.inr (.inl (-2)), h) := (EX_at bk_Hook_average_9 _ _ _).trans rfl
theorem bk_Hook_average_13 : blk 249 13 = some (((cd_Hook_average.lookup 13).getD ([], 0, []))) := rfl
theorem Hook_average_13 (d : Nat) (a0 : Nat) (x1 : Int) (x2 : Int) (h : Hp) : EX d 249 13 [(0, .inr (.inr a0)), (1, .inl x1), (2, .inl x2)] [] h = if (wr x1) < 1 then EX d 249 24 [] [] h else EX d 249 18 [(0, .inr (.inr a0)), (1, .inl x1), (2, .inl x2)] [] h := (EX_at bk_Hook_average_13 _ _ _).trans rfl
theorem bk_Hook_average_18 : blk 249 18 = some (((cd_Hook_average.lookup 18).getD ([], 0, []))) := rfl
theorem Hook_average_18 (d : Nat) (a0 : Nat) (x1 : Int) (x2 : Int) (h : Hp) : EX d 249 18 [(0, .inr (.inr a0)), (1, .inl x1), (2, .inl x2)] [] h = if 12 < (wr x1) then EX d 249 24 [] [] h else EX d 249 28 [(0, .inr (.inr a0)), (1, .inl x1), (2, .inl x2)] [] h := (EX_at bk_Hook_average_18 _ _ _).trans rfl
theorem bk_Hook_average_24 : blk 249 24 = some (((cd_Hook_average.lookup 24).getD ([], 0, []))) := rfl
theorem Hook_average_24 (d : Nat) (h : Hp) : EX d 249 24 [] [] h = some (.inr (.inl (-3)), h) := (EX_at bk_Hook_average_24 _ _ _).trans rfl
theorem bk_Hook_average_28 : blk 249 28 = some (((cd_Hook_average.lookup 28).getD ([], 0, []))) := rfl
theorem Hook_average_28 (d : Nat) (a0 : Nat) (x1 : Int) (x2 : Int) (h : Hp) : EX d 249 28 [(0, .inr (.inr a0)), (1, .inl x1), (2, .inl x2)] [] h = if sK h a0 = 10 then if sK h (hR h a0 5) = 9 then if (wr (hI h (hR h a0 5) 5)) = 0 then EX d 249 38 [] [] h else EX d 249 42 [(0, .inr (.inr a0)), (1, .inl x1), (2, .inl x2)] [] h else none else none := (EX_at bk_Hook_average_28 _ _ _).trans rfl
theorem bk_Hook_average_38 : blk 249 38 = some (((cd_Hook_average.lookup 38).getD ([], 0, []))) := rfl
theorem Hook_average_38 (d : Nat) (h : Hp) : EX d 249 38 [] [] h = some (.inr (.inl (-5)), h) := (EX_at bk_Hook_average_38 _ _ _).trans rfl
theorem bk_Hook_average_42 : blk 249 42 = some (((cd_Hook_average.lookup 42).getD ([], 0, []))) := rfl
theorem Hook_average_42 (d : Nat) (a0 : Nat) (x1 : Int) (x2 : Int) (h : Hp) : EX d 249 42 [(0, .inr (.inr a0)), (1, .inl x1), (2, .inl x2)] [] h = if sK h a0 = 10 then bak (EX d 249) 50 [(0, .inr (.inr a0)), (2, .inl x2)] [] false (cal d 246 [.inr (.inr (hR h a0 5)), .inl x1] h) else none := (EX_at bk_Hook_average_42 _ _ _).trans rfl
theorem bk_Hook_average_50 : blk 249 50 = some (((cd_Hook_average.lookup 50).getD ([], 0, []))) := rfl
theorem Hook_average_50 (d : Nat) (a0 : Nat) (x2 : Int) (t0 : Int) (h : Hp) : EX d 249 50 [(0, .inr (.inr a0)), (2, .inl x2)] [.inr (.inl t0)] h = if sK h a0 = 10 then bak (EX d 249) 58 [(2, .inl x2), (3, .inr (.inl t0))] [] false (cal d 247 [.inr (.inr (hR h a0 5))] h) else none := (EX_at bk_Hook_average_50 _ _ _).trans rfl
theorem bk_Hook_average_58 : blk 249 58 = some (((cd_Hook_average.lookup 58).getD ([], 0, []))) := rfl
theorem Hook_average_58 (d : Nat) (x2 : Int) (y3 : Int) (t0 : Int) (h : Hp) : EX d 249 58 [(2, .inl x2), (3, .inr (.inl y3))] [.inr (.inl t0)] h = bak (EX d 249) 66 [(2, .inl x2), (3, .inr (.inl y3)), (5, .inr (.inl t0))] [] false (cal d 248 [.inr (.inl y3), .inr (.inl t0)] h) := (EX_at bk_Hook_average_58 _ _ _).trans rfl
theorem bk_Hook_average_66 : blk 249 66 = some (((cd_Hook_average.lookup 66).getD ([], 0, []))) := rfl
theorem Hook_average_66 (d : Nat) (x2 : Int) (y3 : Int) (y5 : Int) (t0 : Int) (h : Hp) : EX d 249 66 [(2, .inl x2), (3, .inr (.inl y3)), (5, .inr (.inl y5))] [.inr (.inl t0)] h = if (wr (lCmp t0 0)) = 0 then EX d 249 75 [] [] h else EX d 249 77 [(2, .inl x2), (3, .inr (.inl y3)), (5, .inr (.inl y5)), (7, .inr (.inl t0))] [] h := (EX_at bk_Hook_average_66 _ _ _).trans rfl
theorem bk_Hook_average_75 : blk 249 75 = some (((cd_Hook_average.lookup 75).getD ([], 0, []))) := rfl
theorem Hook_average_75 (d : Nat) (h : Hp) : EX d 249 75 [] [] h = some (.inr (.inl 0), h) := (EX_at bk_Hook_average_75 _ _ _).trans rfl
theorem bk_Hook_average_77 : blk 249 77 = some (((cd_Hook_average.lookup 77).getD ([], 0, []))) := rfl
theorem Hook_average_77 (d : Nat) (x2 : Int) (y3 : Int) (y5 : Int) (y7 : Int) (h : Hp) : EX d 249 77 [(2, .inl x2), (3, .inr (.inl y3)), (5, .inr (.inl y5)), (7, .inr (.inl y7))] [] h = if (wr x2) = 0 then EX d 249 81 [(3, .inr (.inl y3)), (7, .inr (.inl y7))] [] h else EX d 249 88 [(5, .inr (.inl y5)), (7, .inr (.inl y7))] [] h := (EX_at bk_Hook_average_77 _ _ _).trans rfl
theorem bk_Hook_average_81 : blk 249 81 = some (((cd_Hook_average.lookup 81).getD ([], 0, []))) := rfl
theorem Hook_average_81 (d : Nat) (y3 : Int) (y7 : Int) (h : Hp) : EX d 249 81 [(3, .inr (.inl y3)), (7, .inr (.inl y7))] [] h = if (wl y7) = 0 then none else EX d 249 93 [] [.inr (.inl (lDiv y3 y7))] h := (EX_at bk_Hook_average_81 _ _ _).trans rfl
theorem bk_Hook_average_88 : blk 249 88 = some (((cd_Hook_average.lookup 88).getD ([], 0, []))) := rfl
theorem Hook_average_88 (d : Nat) (y5 : Int) (y7 : Int) (h : Hp) : EX d 249 88 [(5, .inr (.inl y5)), (7, .inr (.inl y7))] [] h = if (wl y7) = 0 then none else EX d 249 93 [] [.inr (.inl (lDiv y5 y7))] h := (EX_at bk_Hook_average_88 _ _ _).trans rfl
theorem bk_Hook_average_93 : blk 249 93 = some (((cd_Hook_average.lookup 93).getD ([], 0, []))) := rfl
theorem Hook_average_93 (d : Nat) (t0 : Int) (h : Hp) : EX d 249 93 [] [.inr (.inl t0)] h = some (.inr (.inl t0), h) := (EX_at bk_Hook_average_93 _ _ _).trans rfl
/-! bestLook()I of HookOver: method 255 -/
theorem bk_Hook_bestLook_0 : blk 255 0 = some (((cd_Hook_bestLook.lookup 0).getD ([], 0, []))) := rfl
theorem Hook_bestLook_0 (d : Nat) (a0 : Nat) (h : Hp) : EX d 255 0 [(0, .inr (.inr a0))] [] h = if sK h a0 = 10 then if sK h (hR h a0 5) = 9 then if (wr (hI h (hR h a0 5) 5)) = 0 then EX d 255 10 [] [] h else EX d 255 13 [(0, .inr (.inr a0))] [] h else none else none := (EX_at bk_Hook_bestLook_0 _ _ _).trans rfl
theorem bk_Hook_bestLook_10 : blk 255 10 = some (((cd_Hook_bestLook.lookup 10).getD ([], 0, []))) := rfl
theorem Hook_bestLook_10 (d : Nat) (h : Hp) : EX d 255 10 [] [] h = some (.inl (-5), h) := (EX_at bk_Hook_bestLook_10 _ _ _).trans rfl
theorem bk_Hook_bestLook_13 : blk 255 13 = some (((cd_Hook_bestLook.lookup 13).getD ([], 0, []))) := rfl
theorem Hook_bestLook_13 (d : Nat) (a0 : Nat) (h : Hp) : EX d 255 13 [(0, .inr (.inr a0))] [] h = if sK h a0 = 10 then bak (EX d 255) 23 [(0, .inr (.inr a0)), (1, .inl 1)] [] false (cal d 246 [.inr (.inr (hR h a0 5)), .inl 1] h) else none := (EX_at bk_Hook_bestLook_13 _ _ _).trans rfl
theorem bk_Hook_bestLook_23 : blk 255 23 = some (((cd_Hook_bestLook.lookup 23).getD ([], 0, []))) := rfl
theorem Hook_bestLook_23 (d : Nat) (a0 : Nat) (x1 : Int) (t0 : Int) (h : Hp) : EX d 255 23 [(0, .inr (.inr a0)), (1, .inl x1)] [.inr (.inl t0)] h = EX d 255 27 [(0, .inr (.inr a0)), (1, .inl x1), (2, .inr (.inl t0)), (4, .inl 2)] [] h := (EX_at bk_Hook_bestLook_23 _ _ _).trans rfl
theorem bk_Hook_bestLook_27 : blk 255 27 = some (((cd_Hook_bestLook.lookup 27).getD ([], 0, []))) := rfl
theorem Hook_bestLook_27 (d : Nat) (a0 : Nat) (x1 : Int) (y2 : Int) (x4 : Int) (h : Hp) : EX d 255 27 [(0, .inr (.inr a0)), (1, .inl x1), (2, .inr (.inl y2)), (4, .inl x4)] [] h = if sK h a0 = 10 then if sK h (hR h a0 5) = 9 then if (wr (hI h (hR h a0 5) 5)) < (wr x4) then EX d 255 69 [(1, .inl x1)] [] h else EX d 255 39 [(0, .inr (.inr a0)), (1, .inl x1), (2, .inr (.inl y2)), (4, .inl x4)] [] h else none else none := (EX_at bk_Hook_bestLook_27 _ _ _).trans rfl
theorem bk_Hook_bestLook_39 : blk 255 39 = some (((cd_Hook_bestLook.lookup 39).getD ([], 0, []))) := rfl
theorem Hook_bestLook_39 (d : Nat) (a0 : Nat) (x1 : Int) (y2 : Int) (x4 : Int) (h : Hp) : EX d 255 39 [(0, .inr (.inr a0)), (1, .inl x1), (2, .inr (.inl y2)), (4, .inl x4)] [] h = if sK h a0 = 10 then bak (EX d 255) 48 [(0, .inr (.inr a0)), (1, .inl x1), (2, .inr (.inl y2)), (4, .inl x4)] [] false (cal d 246 [.inr (.inr (hR h a0 5)), .inl x4] h) else none := (EX_at bk_Hook_bestLook_39 _ _ _).trans rfl
theorem bk_Hook_bestLook_48 : blk 255 48 = some (((cd_Hook_bestLook.lookup 48).getD ([], 0, []))) := rfl
theorem Hook_bestLook_48 (d : Nat) (a0 : Nat) (x1 : Int) (y2 : Int) (x4 : Int) (t0 : Int) (h : Hp) : EX d 255 48 [(0, .inr (.inr a0)), (1, .inl x1), (2, .inr (.inl y2)), (4, .inl x4)] [.inr (.inl t0)] h = if (wr (lCmp t0 y2)) < 0 then EX d 255 57 [(0, .inr (.inr a0)), (4, .inl x4), (5, .inr (.inl t0))] [] h else EX d 255 63 [(0, .inr (.inr a0)), (1, .inl x1), (2, .inr (.inl y2)), (4, .inl x4)] [] h := (EX_at bk_Hook_bestLook_48 _ _ _).trans rfl
theorem bk_Hook_bestLook_57 : blk 255 57 = some (((cd_Hook_bestLook.lookup 57).getD ([], 0, []))) := rfl
theorem Hook_bestLook_57 (d : Nat) (a0 : Nat) (x4 : Int) (y5 : Int) (h : Hp) : EX d 255 57 [(0, .inr (.inr a0)), (4, .inl x4), (5, .inr (.inl y5))] [] h = EX d 255 63 [(0, .inr (.inr a0)), (1, .inl x4), (2, .inr (.inl y5)), (4, .inl x4)] [] h := (EX_at bk_Hook_bestLook_57 _ _ _).trans rfl
theorem bk_Hook_bestLook_63 : blk 255 63 = some (((cd_Hook_bestLook.lookup 63).getD ([], 0, []))) := rfl
theorem Hook_bestLook_63 (d : Nat) (a0 : Nat) (x1 : Int) (y2 : Int) (x4 : Int) (h : Hp) : EX d 255 63 [(0, .inr (.inr a0)), (1, .inl x1), (2, .inr (.inl y2)), (4, .inl x4)] [] h = EX d 255 27 [(0, .inr (.inr a0)), (1, .inl x1), (2, .inr (.inl y2)), (4, .inl (x4 + 1))] [] h := (EX_at bk_Hook_bestLook_63 _ _ _).trans rfl
theorem bk_Hook_bestLook_69 : blk 255 69 = some (((cd_Hook_bestLook.lookup 69).getD ([], 0, []))) := rfl
theorem Hook_bestLook_69 (d : Nat) (x1 : Int) (h : Hp) : EX d 255 69 [(1, .inl x1)] [] h = some (.inl x1, h) := (EX_at bk_Hook_bestLook_69 _ _ _).trans rfl
/-! oneOut(II)I of HookOver: method 258 -/
theorem bk_Hook_oneOut_0 : blk 258 0 = some (((cd_Hook_oneOut.lookup 0).getD ([], 0, []))) := rfl
theorem Hook_oneOut_0 (d : Nat) (a0 : Nat) (x1 : Int) (x2 : Int) (h : Hp) : EX d 258 0 [(0, .inr (.inr a0)), (1, .inl x1), (2, .inl x2)] [] h = if (wr x1) < 0 then EX d 258 25 [] [] h else EX d 258 4 [(0, .inr (.inr a0)), (1, .inl x1), (2, .inl x2)] [] h := (EX_at bk_Hook_oneOut_0 _ _ _).trans rfl
theorem bk_Hook_oneOut_4 : blk 258 4 = some (((cd_Hook_oneOut.lookup 4).getD ([], 0, []))) := rfl
theorem Hook_oneOut_4 (d : Nat) (a0 : Nat) (x1 : Int) (x2 : Int) (h : Hp) : EX d 258 4 [(0, .inr (.inr a0)), (1, .inl x1), (2, .inl x2)] [] h = if sK h a0 = 10 then if sK h (hR h a0 5) = 9 then if (wr (hI h (hR h a0 5) 5)) < (wr x1) then EX d 258 25 [] [] h else EX d 258 15 [(0, .inr (.inr a0)), (1, .inl x1), (2, .inl x2)] [] h else none else none := (EX_at bk_Hook_oneOut_4 _ _ _).trans rfl
theorem bk_Hook_oneOut_15 : blk 258 15 = some (((cd_Hook_oneOut.lookup 15).getD ([], 0, []))) := rfl
theorem Hook_oneOut_15 (d : Nat) (a0 : Nat) (x1 : Int) (x2 : Int) (h : Hp) : EX d 258 15 [(0, .inr (.inr a0)), (1, .inl x1), (2, .inl x2)] [] h = if (wr x2) = 1 then EX d 258 28 [(0, .inr (.inr a0)), (1, .inl x1), (2, .inl x2)] [] h else EX d 258 20 [(0, .inr (.inr a0)), (1, .inl x1), (2, .inl x2)] [] h := (EX_at bk_Hook_oneOut_15 _ _ _).trans rfl
theorem bk_Hook_oneOut_20 : blk 258 20 = some (((cd_Hook_oneOut.lookup 20).getD ([], 0, []))) := rfl
theorem Hook_oneOut_20 (d : Nat) (a0 : Nat) (x1 : Int) (x2 : Int) (h : Hp) : EX d 258 20 [(0, .inr (.inr a0)), (1, .inl x1), (2, .inl x2)] [] h = if (wr x2) = (-1) then EX d 258 28 [(0, .inr (.inr a0)), (1, .inl x1), (2, .inl x2)] [] h else EX d 258 25 [] [] h := (EX_at bk_Hook_oneOut_20 _ _ _).trans rfl
theorem bk_Hook_oneOut_25 : blk 258 25 = some (((cd_Hook_oneOut.lookup 25).getD ([], 0, []))) := rfl
theorem Hook_oneOut_25 (d : Nat) (h : Hp) : EX d 258 25 [] [] h = some (.inl (-3), h) := (EX_at bk_Hook_oneOut_25 _ _ _).trans rfl
theorem bk_Hook_oneOut_28 : blk 258 28 = some (((cd_Hook_oneOut.lookup 28).getD ([], 0, []))) := rfl
theorem Hook_oneOut_28 (d : Nat) (a0 : Nat) (x1 : Int) (x2 : Int) (h : Hp) : EX d 258 28 [(0, .inr (.inr a0)), (1, .inl x1), (2, .inl x2)] [] h = if sK h a0 = 10 then if sK h (hR h a0 5) = 9 then bak (EX d 258) 37 [] [] false (cal d 257 [.inr (.inr (hR h a0 5)), .inl x1, .inl x2] h) else none else none := (EX_at bk_Hook_oneOut_28 _ _ _).trans rfl
theorem bk_Hook_oneOut_37 : blk 258 37 = some (((cd_Hook_oneOut.lookup 37).getD ([], 0, []))) := rfl
theorem Hook_oneOut_37 (d : Nat) (s0 : Int) (h : Hp) : EX d 258 37 [] [.inl s0] h = some (.inl s0, h) := (EX_at bk_Hook_oneOut_37 _ _ _).trans rfl
/-! out(II)I of HookOver: method 261 -/
theorem bk_Hook_out_0 : blk 261 0 = some (((cd_Hook_out.lookup 0).getD ([], 0, []))) := rfl
theorem Hook_out_0 (d : Nat) (a0 : Nat) (x1 : Int) (x2 : Int) (h : Hp) : EX d 261 0 [(0, .inr (.inr a0)), (1, .inl x1), (2, .inl x2)] [] h = if (wr x2) = 0 then EX d 261 12 [(0, .inr (.inr a0)), (1, .inl x1), (2, .inl x2)] [] h else EX d 261 4 [(0, .inr (.inr a0)), (1, .inl x1), (2, .inl x2)] [] h := (EX_at bk_Hook_out_0 _ _ _).trans rfl
theorem bk_Hook_out_4 : blk 261 4 = some (((cd_Hook_out.lookup 4).getD ([], 0, []))) := rfl
theorem Hook_out_4 (d : Nat) (a0 : Nat) (x1 : Int) (x2 : Int) (h : Hp) : EX d 261 4 [(0, .inr (.inr a0)), (1, .inl x1), (2, .inl x2)] [] h = if (wr x2) = 1 then EX d 261 12 [(0, .inr (.inr a0)), (1, .inl x1), (2, .inl x2)] [] h else EX d 261 9 [] [] h := (EX_at bk_Hook_out_4 _ _ _).trans rfl
theorem bk_Hook_out_9 : blk 261 9 = some (((cd_Hook_out.lookup 9).getD ([], 0, []))) := rfl
theorem Hook_out_9 (d : Nat) (h : Hp) : EX d 261 9 [] [] h = some (.inl (-2), h) := (EX_at bk_Hook_out_9 _ _ _).trans rfl
theorem bk_Hook_out_12 : blk 261 12 = some (((cd_Hook_out.lookup 12).getD ([], 0, []))) := rfl
theorem Hook_out_12 (d : Nat) (a0 : Nat) (x1 : Int) (x2 : Int) (h : Hp) : EX d 261 12 [(0, .inr (.inr a0)), (1, .inl x1), (2, .inl x2)] [] h = if (wr x1) = 1 then EX d 261 25 [(0, .inr (.inr a0)), (1, .inl x1), (2, .inl x2)] [] h else EX d 261 17 [(0, .inr (.inr a0)), (1, .inl x1), (2, .inl x2)] [] h := (EX_at bk_Hook_out_12 _ _ _).trans rfl
theorem bk_Hook_out_17 : blk 261 17 = some (((cd_Hook_out.lookup 17).getD ([], 0, []))) := rfl
theorem Hook_out_17 (d : Nat) (a0 : Nat) (x1 : Int) (x2 : Int) (h : Hp) : EX d 261 17 [(0, .inr (.inr a0)), (1, .inl x1), (2, .inl x2)] [] h = if (wr x1) = (-1) then EX d 261 25 [(0, .inr (.inr a0)), (1, .inl x1), (2, .inl x2)] [] h else EX d 261 22 [] [] h := (EX_at bk_Hook_out_17 _ _ _).trans rfl
theorem bk_Hook_out_22 : blk 261 22 = some (((cd_Hook_out.lookup 22).getD ([], 0, []))) := rfl
theorem Hook_out_22 (d : Nat) (h : Hp) : EX d 261 22 [] [] h = some (.inl (-3), h) := (EX_at bk_Hook_out_22 _ _ _).trans rfl
theorem bk_Hook_out_25 : blk 261 25 = some (((cd_Hook_out.lookup 25).getD ([], 0, []))) := rfl
theorem Hook_out_25 (d : Nat) (a0 : Nat) (x1 : Int) (x2 : Int) (h : Hp) : EX d 261 25 [(0, .inr (.inr a0)), (1, .inl x1), (2, .inl x2)] [] h = if sK h a0 = 10 then if sK h (hR h a0 5) = 9 then bak (EX d 261) 36 [(0, .inr (.inr a0)), (1, .inl x1), (2, .inl x2), (3, .inl 0)] [] false (cal d 257 [.inr (.inr (hR h a0 5)), .inl 0, .inl x1] h) else none else none := (EX_at bk_Hook_out_25 _ _ _).trans rfl
theorem bk_Hook_out_36 : blk 261 36 = some (((cd_Hook_out.lookup 36).getD ([], 0, []))) := rfl
theorem Hook_out_36 (d : Nat) (a0 : Nat) (x1 : Int) (x2 : Int) (x3 : Int) (s0 : Int) (h : Hp) : EX d 261 36 [(0, .inr (.inr a0)), (1, .inl x1), (2, .inl x2), (3, .inl x3)] [.inl s0] h = EX d 261 41 [(0, .inr (.inr a0)), (1, .inl x1), (2, .inl x2), (3, .inl x3), (4, .inl s0), (5, .inl 1)] [] h := (EX_at bk_Hook_out_36 _ _ _).trans rfl
theorem bk_Hook_out_41 : blk 261 41 = some (((cd_Hook_out.lookup 41).getD ([], 0, []))) := rfl
theorem Hook_out_41 (d : Nat) (a0 : Nat) (x1 : Int) (x2 : Int) (x3 : Int) (x4 : Int) (x5 : Int) (h : Hp) : EX d 261 41 [(0, .inr (.inr a0)), (1, .inl x1), (2, .inl x2), (3, .inl x3), (4, .inl x4), (5, .inl x5)] [] h = if sK h a0 = 10 then if sK h (hR h a0 5) = 9 then if (wr (hI h (hR h a0 5) 5)) < (wr x5) then EX d 261 85 [(2, .inl x2), (3, .inl x3), (4, .inl x4)] [] h else EX d 261 53 [(0, .inr (.inr a0)), (1, .inl x1), (2, .inl x2), (3, .inl x3), (4, .inl x4), (5, .inl x5)] [] h else none else none := (EX_at bk_Hook_out_41 _ _ _).trans rfl
theorem bk_Hook_out_53 : blk 261 53 = some (((cd_Hook_out.lookup 53).getD ([], 0, []))) := rfl
theorem Hook_out_53 (d : Nat) (a0 : Nat) (x1 : Int) (x2 : Int) (x3 : Int) (x4 : Int) (x5 : Int) (h : Hp) : EX d 261 53 [(0, .inr (.inr a0)), (1, .inl x1), (2, .inl x2), (3, .inl x3), (4, .inl x4), (5, .inl x5)] [] h = if sK h a0 = 10 then if sK h (hR h a0 5) = 9 then bak (EX d 261) 63 [(0, .inr (.inr a0)), (1, .inl x1), (2, .inl x2), (3, .inl x3), (4, .inl x4), (5, .inl x5)] [] false (cal d 257 [.inr (.inr (hR h a0 5)), .inl x5, .inl x1] h) else none else none := (EX_at bk_Hook_out_53 _ _ _).trans rfl
theorem bk_Hook_out_63 : blk 261 63 = some (((cd_Hook_out.lookup 63).getD ([], 0, []))) := rfl
theorem Hook_out_63 (d : Nat) (a0 : Nat) (x1 : Int) (x2 : Int) (x3 : Int) (x4 : Int) (x5 : Int) (s0 : Int) (h : Hp) : EX d 261 63 [(0, .inr (.inr a0)), (1, .inl x1), (2, .inl x2), (3, .inl x3), (4, .inl x4), (5, .inl x5)] [.inl s0] h = if (wr x4) < (wr s0) then EX d 261 72 [(0, .inr (.inr a0)), (1, .inl x1), (2, .inl x2), (5, .inl x5), (6, .inl s0)] [] h else EX d 261 79 [(0, .inr (.inr a0)), (1, .inl x1), (2, .inl x2), (3, .inl x3), (4, .inl x4), (5, .inl x5)] [] h := (EX_at bk_Hook_out_63 _ _ _).trans rfl
theorem bk_Hook_out_72 : blk 261 72 = some (((cd_Hook_out.lookup 72).getD ([], 0, []))) := rfl
theorem Hook_out_72 (d : Nat) (a0 : Nat) (x1 : Int) (x2 : Int) (x5 : Int) (x6 : Int) (h : Hp) : EX d 261 72 [(0, .inr (.inr a0)), (1, .inl x1), (2, .inl x2), (5, .inl x5), (6, .inl x6)] [] h = EX d 261 79 [(0, .inr (.inr a0)), (1, .inl x1), (2, .inl x2), (3, .inl x5), (4, .inl x6), (5, .inl x5)] [] h := (EX_at bk_Hook_out_72 _ _ _).trans rfl
theorem bk_Hook_out_79 : blk 261 79 = some (((cd_Hook_out.lookup 79).getD ([], 0, []))) := rfl
theorem Hook_out_79 (d : Nat) (a0 : Nat) (x1 : Int) (x2 : Int) (x3 : Int) (x4 : Int) (x5 : Int) (h : Hp) : EX d 261 79 [(0, .inr (.inr a0)), (1, .inl x1), (2, .inl x2), (3, .inl x3), (4, .inl x4), (5, .inl x5)] [] h = EX d 261 41 [(0, .inr (.inr a0)), (1, .inl x1), (2, .inl x2), (3, .inl x3), (4, .inl x4), (5, .inl (x5 + 1))] [] h := (EX_at bk_Hook_out_79 _ _ _).trans rfl
theorem bk_Hook_out_85 : blk 261 85 = some (((cd_Hook_out.lookup 85).getD ([], 0, []))) := rfl
theorem Hook_out_85 (d : Nat) (x2 : Int) (x3 : Int) (x4 : Int) (h : Hp) : EX d 261 85 [(2, .inl x2), (3, .inl x3), (4, .inl x4)] [] h = if (wr x2) = 0 then EX d 261 89 [(3, .inl x3)] [] h else EX d 261 93 [(4, .inl x4)] [] h := (EX_at bk_Hook_out_85 _ _ _).trans rfl
theorem bk_Hook_out_89 : blk 261 89 = some (((cd_Hook_out.lookup 89).getD ([], 0, []))) := rfl
theorem Hook_out_89 (d : Nat) (x3 : Int) (h : Hp) : EX d 261 89 [(3, .inl x3)] [] h = EX d 261 95 [] [.inl x3] h := (EX_at bk_Hook_out_89 _ _ _).trans rfl
theorem bk_Hook_out_93 : blk 261 93 = some (((cd_Hook_out.lookup 93).getD ([], 0, []))) := rfl
theorem Hook_out_93 (d : Nat) (x4 : Int) (h : Hp) : EX d 261 93 [(4, .inl x4)] [] h = EX d 261 95 [] [.inl x4] h := (EX_at bk_Hook_out_93 _ _ _).trans rfl
theorem bk_Hook_out_95 : blk 261 95 = some (((cd_Hook_out.lookup 95).getD ([], 0, []))) := rfl
theorem Hook_out_95 (d : Nat) (s0 : Int) (h : Hp) : EX d 261 95 [] [.inl s0] h = some (.inl s0, h) := (EX_at bk_Hook_out_95 _ _ _).trans rfl
/-! sightCode(I)I of HookOver: method 265 -/
theorem bk_Hook_sightCode_0 : blk 265 0 = some (((cd_Hook_sightCode.lookup 0).getD ([], 0, []))) := rfl
theorem Hook_sightCode_0 (d : Nat) (a0 : Nat) (x1 : Int) (h : Hp) : EX d 265 0 [(0, .inr (.inr a0)), (1, .inl x1)] [] h = if sK h a0 = 10 then bak (EX d 265) 5 [(0, .inr (.inr a0)), (1, .inl x1)] [] false (cal d 167 [.inr (.inr a0), .inl x1] h) else none := (EX_at bk_Hook_sightCode_0 _ _ _).trans rfl
theorem bk_Hook_sightCode_5 : blk 265 5 = some (((cd_Hook_sightCode.lookup 5).getD ([], 0, []))) := rfl
theorem Hook_sightCode_5 (d : Nat) (a0 : Nat) (x1 : Int) (s0 : Int) (h : Hp) : EX d 265 5 [(0, .inr (.inr a0)), (1, .inl x1)] [.inl s0] h = if (wr s0) = 0 then EX d 265 12 [(0, .inr (.inr a0)), (1, .inl x1)] [] h else EX d 265 10 [(2, .inl s0)] [] h := (EX_at bk_Hook_sightCode_5 _ _ _).trans rfl
theorem bk_Hook_sightCode_10 : blk 265 10 = some (((cd_Hook_sightCode.lookup 10).getD ([], 0, []))) := rfl
theorem Hook_sightCode_10 (d : Nat) (x2 : Int) (h : Hp) : EX d 265 10 [(2, .inl x2)] [] h = some (.inl x2, h) := (EX_at bk_Hook_sightCode_10 _ _ _).trans rfl
theorem bk_Hook_sightCode_12 : blk 265 12 = some (((cd_Hook_sightCode.lookup 12).getD ([], 0, []))) := rfl
theorem Hook_sightCode_12 (d : Nat) (a0 : Nat) (x1 : Int) (h : Hp) : EX d 265 12 [(0, .inr (.inr a0)), (1, .inl x1)] [] h = if sK h a0 = 10 then if okx h (hR h a0 10) 24 x1 then if sK h (hR h (hR h a0 10) (ix x1)) = 7 then if sK h a0 = 10 then if sK h (hR h a0 5) = 9 then bak (EX d 265) 30 [(3, .inr (.inr (hR h (hR h a0 10) (ix x1))))] [.inl (hI h (hR h (hR h a0 10) (ix x1)) 2)] false (cal d 263 [.inr (.inr (hR h a0 5))] h) else none else none else none else none else none := (EX_at bk_Hook_sightCode_12 _ _ _).trans rfl
theorem bk_Hook_sightCode_30 : blk 265 30 = some (((cd_Hook_sightCode.lookup 30).getD ([], 0, []))) := rfl
theorem Hook_sightCode_30 (d : Nat) (a3 : Nat) (s0 : Int) (s1 : Int) (h : Hp) : EX d 265 30 [(3, .inr (.inr a3))] [.inl s1, .inl s0] h = if (wr s0) = (wr s1) then EX d 265 36 [(3, .inr (.inr a3))] [] h else EX d 265 33 [] [] h := (EX_at bk_Hook_sightCode_30 _ _ _).trans rfl
theorem bk_Hook_sightCode_33 : blk 265 33 = some (((cd_Hook_sightCode.lookup 33).getD ([], 0, []))) := rfl
theorem Hook_sightCode_33 (d : Nat) (h : Hp) : EX d 265 33 [] [] h = some (.inl (-4), h) := (EX_at bk_Hook_sightCode_33 _ _ _).trans rfl
theorem bk_Hook_sightCode_36 : blk 265 36 = some (((cd_Hook_sightCode.lookup 36).getD ([], 0, []))) := rfl
theorem Hook_sightCode_36 (d : Nat) (a3 : Nat) (h : Hp) : EX d 265 36 [(3, .inr (.inr a3))] [] h = if sK h a3 = 7 then bak (EX d 265) 40 [] [] false (cal d 264 [.inr (.inr a3)] h) else none := (EX_at bk_Hook_sightCode_36 _ _ _).trans rfl
theorem bk_Hook_sightCode_40 : blk 265 40 = some (((cd_Hook_sightCode.lookup 40).getD ([], 0, []))) := rfl
theorem Hook_sightCode_40 (d : Nat) (t0 : Int) (h : Hp) : EX d 265 40 [] [.inr (.inl t0)] h = if (wr (lCmp t0 (-2))) < 0 then EX d 265 47 [] [] h else EX d 265 52 [] [] h := (EX_at bk_Hook_sightCode_40 _ _ _).trans rfl
theorem bk_Hook_sightCode_47 : blk 265 47 = some (((cd_Hook_sightCode.lookup 47).getD ([], 0, []))) := rfl
theorem Hook_sightCode_47 (d : Nat) (h : Hp) : EX d 265 47 [] [] h = EX d 265 53 [] [.inl (-3)] h := (EX_at bk_Hook_sightCode_47 _ _ _).trans rfl
theorem bk_Hook_sightCode_52 : blk 265 52 = some (((cd_Hook_sightCode.lookup 52).getD ([], 0, []))) := rfl
theorem Hook_sightCode_52 (d : Nat) (h : Hp) : EX d 265 52 [] [] h = EX d 265 53 [] [.inl 0] h := (EX_at bk_Hook_sightCode_52 _ _ _).trans rfl
theorem bk_Hook_sightCode_53 : blk 265 53 = some (((cd_Hook_sightCode.lookup 53).getD ([], 0, []))) := rfl
theorem Hook_sightCode_53 (d : Nat) (s0 : Int) (h : Hp) : EX d 265 53 [] [.inl s0] h = some (.inl s0, h) := (EX_at bk_Hook_sightCode_53 _ _ _).trans rfl
/-! seen(I)J of HookOver: method 274 -/
theorem bk_Hook_seen_0 : blk 274 0 = some (((cd_Hook_seen.lookup 0).getD ([], 0, []))) := rfl
theorem Hook_seen_0 (d : Nat) (a0 : Nat) (x1 : Int) (h : Hp) : EX d 274 0 [(0, .inr (.inr a0)), (1, .inl x1)] [] h = if sK h a0 = 10 then bak (EX d 274) 5 [(0, .inr (.inr a0)), (1, .inl x1)] [] false (cal d 265 [.inr (.inr a0), .inl x1] h) else none := (EX_at bk_Hook_seen_0 _ _ _).trans rfl
theorem bk_Hook_seen_5 : blk 274 5 = some (((cd_Hook_seen.lookup 5).getD ([], 0, []))) := rfl
theorem Hook_seen_5 (d : Nat) (a0 : Nat) (x1 : Int) (s0 : Int) (h : Hp) : EX d 274 5 [(0, .inr (.inr a0)), (1, .inl x1)] [.inl s0] h = if (wr s0) = 0 then EX d 274 13 [(0, .inr (.inr a0)), (1, .inl x1)] [] h else EX d 274 10 [(2, .inl s0)] [] h := (EX_at bk_Hook_seen_5 _ _ _).trans rfl
theorem bk_Hook_seen_10 : blk 274 10 = some (((cd_Hook_seen.lookup 10).getD ([], 0, []))) := rfl
theorem Hook_seen_10 (d : Nat) (x2 : Int) (h : Hp) : EX d 274 10 [(2, .inl x2)] [] h = some (.inr (.inl (wr x2)), h) := (EX_at bk_Hook_seen_10 _ _ _).trans rfl
theorem bk_Hook_seen_13 : blk 274 13 = some (((cd_Hook_seen.lookup 13).getD ([], 0, []))) := rfl
theorem Hook_seen_13 (d : Nat) (a0 : Nat) (x1 : Int) (h : Hp) : EX d 274 13 [(0, .inr (.inr a0)), (1, .inl x1)] [] h = if sK h a0 = 10 then if sK h a0 = 10 then if sK h (hR h a0 14) = 2 then bak (EX d 274) 24 [(0, .inr (.inr a0)), (1, .inl x1)] [] true (cal d 181 [.inr (.inr (hR h a0 14)), .inr (.inr (hR h a0 5))] h) else none else none else none := (EX_at bk_Hook_seen_13 _ _ _).trans rfl
theorem bk_Hook_seen_24 : blk 274 24 = some (((cd_Hook_seen.lookup 24).getD ([], 0, []))) := rfl
theorem Hook_seen_24 (d : Nat) (a0 : Nat) (x1 : Int) (h : Hp) : EX d 274 24 [(0, .inr (.inr a0)), (1, .inl x1)] [] h = if sK h a0 = 10 then if sK h a0 = 10 then if sK h a0 = 10 then if okx h (hR h a0 10) 24 x1 then if sK h a0 = 10 then if sK h (hR h a0 14) = 2 then if sK h a0 = 10 then if sK h (hR h a0 16) = 8 then bak (EX d 274) 52 [] [] false (cal d 273 [.inr (.inr (hR h a0 16)), .inr (.inr (hR h a0 5)), .inr (.inr (hR h (hR h a0 10) (ix x1))), .inl (hI h (hR h a0 14) 2), .inr (.inr (hR h a0 17))] h) else none else none else none else none else none else none else none else none := (EX_at bk_Hook_seen_24 _ _ _).trans rfl
theorem bk_Hook_seen_52 : blk 274 52 = some (((cd_Hook_seen.lookup 52).getD ([], 0, []))) := rfl
theorem Hook_seen_52 (d : Nat) (s0 : Int) (h : Hp) : EX d 274 52 [] [.inl s0] h = some (.inr (.inl (wr s0)), h) := (EX_at bk_Hook_seen_52 _ _ _).trans rfl
/-! sure(II)I of HookOver: method 281 -/
theorem bk_Hook_sure_0 : blk 281 0 = some (((cd_Hook_sure.lookup 0).getD ([], 0, []))) := rfl
theorem Hook_sure_0 (d : Nat) (a0 : Nat) (x1 : Int) (x2 : Int) (h : Hp) : EX d 281 0 [(0, .inr (.inr a0)), (1, .inl x1), (2, .inl x2)] [] h = if sK h a0 = 10 then if sK h (hR h a0 5) = 9 then bak (EX d 281) 8 [(0, .inr (.inr a0)), (1, .inl x1), (2, .inl x2)] [] false (cal d 35 [.inr (.inr (hR h a0 5)), .inl x2] h) else none else none := (EX_at bk_Hook_sure_0 _ _ _).trans rfl
theorem bk_Hook_sure_8 : blk 281 8 = some (((cd_Hook_sure.lookup 8).getD ([], 0, []))) := rfl
theorem Hook_sure_8 (d : Nat) (a0 : Nat) (x1 : Int) (x2 : Int) (s0 : Int) (h : Hp) : EX d 281 8 [(0, .inr (.inr a0)), (1, .inl x1), (2, .inl x2)] [.inl s0] h = if (wr s0) = 0 then EX d 281 11 [] [] h else EX d 281 14 [(0, .inr (.inr a0)), (1, .inl x1), (2, .inl x2)] [] h := (EX_at bk_Hook_sure_8 _ _ _).trans rfl
theorem bk_Hook_sure_11 : blk 281 11 = some (((cd_Hook_sure.lookup 11).getD ([], 0, []))) := rfl
theorem Hook_sure_11 (d : Nat) (h : Hp) : EX d 281 11 [] [] h = some (.inl (-2), h) := (EX_at bk_Hook_sure_11 _ _ _).trans rfl
theorem bk_Hook_sure_14 : blk 281 14 = some (((cd_Hook_sure.lookup 14).getD ([], 0, []))) := rfl
theorem Hook_sure_14 (d : Nat) (a0 : Nat) (x1 : Int) (x2 : Int) (h : Hp) : EX d 281 14 [(0, .inr (.inr a0)), (1, .inl x1), (2, .inl x2)] [] h = if sK h a0 = 10 then bak (EX d 281) 19 [(0, .inr (.inr a0)), (1, .inl x1), (2, .inl x2)] [] false (cal d 265 [.inr (.inr a0), .inl x1] h) else none := (EX_at bk_Hook_sure_14 _ _ _).trans rfl
theorem bk_Hook_sure_19 : blk 281 19 = some (((cd_Hook_sure.lookup 19).getD ([], 0, []))) := rfl
theorem Hook_sure_19 (d : Nat) (a0 : Nat) (x1 : Int) (x2 : Int) (s0 : Int) (h : Hp) : EX d 281 19 [(0, .inr (.inr a0)), (1, .inl x1), (2, .inl x2)] [.inl s0] h = if (wr s0) = 0 then EX d 281 26 [(0, .inr (.inr a0)), (1, .inl x1), (2, .inl x2)] [] h else EX d 281 24 [(3, .inl s0)] [] h := (EX_at bk_Hook_sure_19 _ _ _).trans rfl
theorem bk_Hook_sure_24 : blk 281 24 = some (((cd_Hook_sure.lookup 24).getD ([], 0, []))) := rfl
theorem Hook_sure_24 (d : Nat) (x3 : Int) (h : Hp) : EX d 281 24 [(3, .inl x3)] [] h = some (.inl x3, h) := (EX_at bk_Hook_sure_24 _ _ _).trans rfl
theorem bk_Hook_sure_26 : blk 281 26 = some (((cd_Hook_sure.lookup 26).getD ([], 0, []))) := rfl
theorem Hook_sure_26 (d : Nat) (a0 : Nat) (x1 : Int) (x2 : Int) (h : Hp) : EX d 281 26 [(0, .inr (.inr a0)), (1, .inl x1), (2, .inl x2)] [] h = if sK h a0 = 10 then if sK h a0 = 10 then if sK h (hR h a0 14) = 2 then bak (EX d 281) 37 [(0, .inr (.inr a0)), (1, .inl x1), (2, .inl x2)] [] true (cal d 181 [.inr (.inr (hR h a0 14)), .inr (.inr (hR h a0 5))] h) else none else none else none := (EX_at bk_Hook_sure_26 _ _ _).trans rfl
theorem bk_Hook_sure_37 : blk 281 37 = some (((cd_Hook_sure.lookup 37).getD ([], 0, []))) := rfl
theorem Hook_sure_37 (d : Nat) (a0 : Nat) (x1 : Int) (x2 : Int) (h : Hp) : EX d 281 37 [(0, .inr (.inr a0)), (1, .inl x1), (2, .inl x2)] [] h = if sK h a0 = 10 then if sK h a0 = 10 then if sK h a0 = 10 then if okx h (hR h a0 10) 24 x1 then if sK h a0 = 10 then if sK h (hR h a0 14) = 2 then if sK h a0 = 10 then if sK h (hR h a0 16) = 8 then bak (EX d 281) 65 [(0, .inr (.inr a0)), (2, .inl x2)] [] false (cal d 273 [.inr (.inr (hR h a0 16)), .inr (.inr (hR h a0 5)), .inr (.inr (hR h (hR h a0 10) (ix x1))), .inl (hI h (hR h a0 14) 2), .inr (.inr (hR h a0 17))] h) else none else none else none else none else none else none else none else none := (EX_at bk_Hook_sure_37 _ _ _).trans rfl
theorem bk_Hook_sure_65 : blk 281 65 = some (((cd_Hook_sure.lookup 65).getD ([], 0, []))) := rfl
theorem Hook_sure_65 (d : Nat) (a0 : Nat) (x2 : Int) (s0 : Int) (h : Hp) : EX d 281 65 [(0, .inr (.inr a0)), (2, .inl x2)] [.inl s0] h = if sK h a0 = 10 then if sK h a0 = 10 then if sK h a0 = 10 then if sK h (hR h a0 14) = 2 then if sK h a0 = 10 then if sK h (hR h a0 16) = 8 then bak (EX d 281) 92 [] [] false (cal d 280 [.inr (.inr (hR h a0 16)), .inr (.inr (hR h a0 5)), .inl x2, .inl s0, .inl (hI h (hR h a0 14) 2), .inr (.inr (hR h a0 17))] h) else none else none else none else none else none else none := (EX_at bk_Hook_sure_65 _ _ _).trans rfl
theorem bk_Hook_sure_92 : blk 281 92 = some (((cd_Hook_sure.lookup 92).getD ([], 0, []))) := rfl
theorem Hook_sure_92 (d : Nat) (s0 : Int) (h : Hp) : EX d 281 92 [] [.inl s0] h = some (.inl s0, h) := (EX_at bk_Hook_sure_92 _ _ _).trans rfl
/-! numbers(III)I of HookOver: method 285 -/
theorem bk_Hook_numbers_0 : blk 285 0 = some (((cd_Hook_numbers.lookup 0).getD ([], 0, []))) := rfl
theorem Hook_numbers_0 (d : Nat) (a0 : Nat) (x1 : Int) (x2 : Int) (x3 : Int) (h : Hp) : EX d 285 0 [(0, .inr (.inr a0)), (1, .inl x1), (2, .inl x2), (3, .inl x3)] [] h = bak (EX d 285) 4 [(0, .inr (.inr a0)), (1, .inl x1), (2, .inl x2), (3, .inl x3)] [] false (cal d 154 [.inl x1] h) := (EX_at bk_Hook_numbers_0 _ _ _).trans rfl
theorem bk_Hook_numbers_4 : blk 285 4 = some (((cd_Hook_numbers.lookup 4).getD ([], 0, []))) := rfl
theorem Hook_numbers_4 (d : Nat) (a0 : Nat) (x1 : Int) (x2 : Int) (x3 : Int) (s0 : Int) (h : Hp) : EX d 285 4 [(0, .inr (.inr a0)), (1, .inl x1), (2, .inl x2), (3, .inl x3)] [.inl s0] h = if (wr s0) = 0 then EX d 285 16 [] [] h else EX d 285 7 [(0, .inr (.inr a0)), (1, .inl x1), (2, .inl x2), (3, .inl x3)] [] h := (EX_at bk_Hook_numbers_4 _ _ _).trans rfl
theorem bk_Hook_numbers_7 : blk 285 7 = some (((cd_Hook_numbers.lookup 7).getD ([], 0, []))) := rfl
theorem Hook_numbers_7 (d : Nat) (a0 : Nat) (x1 : Int) (x2 : Int) (x3 : Int) (h : Hp) : EX d 285 7 [(0, .inr (.inr a0)), (1, .inl x1), (2, .inl x2), (3, .inl x3)] [] h = if (wr x2) < 0 then EX d 285 16 [] [] h else EX d 285 11 [(0, .inr (.inr a0)), (1, .inl x1), (2, .inl x2), (3, .inl x3)] [] h := (EX_at bk_Hook_numbers_7 _ _ _).trans rfl
theorem bk_Hook_numbers_11 : blk 285 11 = some (((cd_Hook_numbers.lookup 11).getD ([], 0, []))) := rfl
theorem Hook_numbers_11 (d : Nat) (a0 : Nat) (x1 : Int) (x2 : Int) (x3 : Int) (h : Hp) : EX d 285 11 [(0, .inr (.inr a0)), (1, .inl x1), (2, .inl x2), (3, .inl x3)] [] h = if 3 < (wr x2) then EX d 285 16 [] [] h else EX d 285 19 [(0, .inr (.inr a0)), (1, .inl x1), (2, .inl x2), (3, .inl x3)] [] h := (EX_at bk_Hook_numbers_11 _ _ _).trans rfl
theorem bk_Hook_numbers_16 : blk 285 16 = some (((cd_Hook_numbers.lookup 16).getD ([], 0, []))) := rfl
theorem Hook_numbers_16 (d : Nat) (h : Hp) : EX d 285 16 [] [] h = some (.inl (-2), h) := (EX_at bk_Hook_numbers_16 _ _ _).trans rfl
theorem bk_Hook_numbers_19 : blk 285 19 = some (((cd_Hook_numbers.lookup 19).getD ([], 0, []))) := rfl
theorem Hook_numbers_19 (d : Nat) (a0 : Nat) (x1 : Int) (x2 : Int) (x3 : Int) (h : Hp) : EX d 285 19 [(0, .inr (.inr a0)), (1, .inl x1), (2, .inl x2), (3, .inl x3)] [] h = if (wr x3) < 0 then EX d 285 29 [] [] h else EX d 285 23 [(0, .inr (.inr a0)), (1, .inl x1), (2, .inl x2), (3, .inl x3)] [] h := (EX_at bk_Hook_numbers_19 _ _ _).trans rfl
theorem bk_Hook_numbers_23 : blk 285 23 = some (((cd_Hook_numbers.lookup 23).getD ([], 0, []))) := rfl
theorem Hook_numbers_23 (d : Nat) (a0 : Nat) (x1 : Int) (x2 : Int) (x3 : Int) (h : Hp) : EX d 285 23 [(0, .inr (.inr a0)), (1, .inl x1), (2, .inl x2), (3, .inl x3)] [] h = if 40 < (wr x3) then EX d 285 29 [] [] h else EX d 285 32 [(0, .inr (.inr a0)), (1, .inl x1), (2, .inl x2), (3, .inl x3)] [] h := (EX_at bk_Hook_numbers_23 _ _ _).trans rfl
theorem bk_Hook_numbers_29 : blk 285 29 = some (((cd_Hook_numbers.lookup 29).getD ([], 0, []))) := rfl
theorem Hook_numbers_29 (d : Nat) (h : Hp) : EX d 285 29 [] [] h = some (.inl (-3), h) := (EX_at bk_Hook_numbers_29 _ _ _).trans rfl
theorem bk_Hook_numbers_32 : blk 285 32 = some (((cd_Hook_numbers.lookup 32).getD ([], 0, []))) := rfl
theorem Hook_numbers_32 (d : Nat) (a0 : Nat) (x1 : Int) (x2 : Int) (x3 : Int) (h : Hp) : EX d 285 32 [(0, .inr (.inr a0)), (1, .inl x1), (2, .inl x2), (3, .inl x3)] [] h = if sK h a0 = 10 then if okx h (hR h a0 10) 24 x1 then if sK h (hR h (hR h a0 10) (ix x1)) = 7 then bak (EX d 285) 43 [] [] true (cal d 284 [.inr (.inr (hR h (hR h a0 10) (ix x1))), .inl x2, .inl x3] h) else none else none else none := (EX_at bk_Hook_numbers_32 _ _ _).trans rfl
theorem bk_Hook_numbers_43 : blk 285 43 = some (((cd_Hook_numbers.lookup 43).getD ([], 0, []))) := rfl
theorem Hook_numbers_43 (d : Nat) (h : Hp) : EX d 285 43 [] [] h = some (.inl 0, h) := (EX_at bk_Hook_numbers_43 _ _ _).trans rfl
/-! write(IIJ)J of HookOver: method 289 -/
theorem bk_Hook_write_0 : blk 289 0 = some (((cd_Hook_write.lookup 0).getD ([], 0, []))) := rfl
theorem Hook_write_0 (d : Nat) (a0 : Nat) (x1 : Int) (x2 : Int) (y3 : Int) (h : Hp) : EX d 289 0 [(0, .inr (.inr a0)), (1, .inl x1), (2, .inl x2), (3, .inr (.inl y3))] [] h = if sK h a0 = 10 then bak (EX d 289) 5 [(0, .inr (.inr a0)), (1, .inl x1), (2, .inl x2), (3, .inr (.inl y3))] [] false (cal d 167 [.inr (.inr a0), .inl x1] h) else none := (EX_at bk_Hook_write_0 _ _ _).trans rfl
theorem bk_Hook_write_5 : blk 289 5 = some (((cd_Hook_write.lookup 5).getD ([], 0, []))) := rfl
theorem Hook_write_5 (d : Nat) (a0 : Nat) (x1 : Int) (x2 : Int) (y3 : Int) (s0 : Int) (h : Hp) : EX d 289 5 [(0, .inr (.inr a0)), (1, .inl x1), (2, .inl x2), (3, .inr (.inl y3))] [.inl s0] h = if (wr s0) = 0 then EX d 289 16 [(0, .inr (.inr a0)), (1, .inl x1), (2, .inl x2), (3, .inr (.inl y3))] [] h else EX d 289 12 [(5, .inl s0)] [] h := (EX_at bk_Hook_write_5 _ _ _).trans rfl
theorem bk_Hook_write_12 : blk 289 12 = some (((cd_Hook_write.lookup 12).getD ([], 0, []))) := rfl
theorem Hook_write_12 (d : Nat) (x5 : Int) (h : Hp) : EX d 289 12 [(5, .inl x5)] [] h = some (.inr (.inl (wr x5)), h) := (EX_at bk_Hook_write_12 _ _ _).trans rfl
theorem bk_Hook_write_16 : blk 289 16 = some (((cd_Hook_write.lookup 16).getD ([], 0, []))) := rfl
theorem Hook_write_16 (d : Nat) (a0 : Nat) (x1 : Int) (x2 : Int) (y3 : Int) (h : Hp) : EX d 289 16 [(0, .inr (.inr a0)), (1, .inl x1), (2, .inl x2), (3, .inr (.inl y3))] [] h = if sK h a0 = 10 then if okx h (hR h a0 10) 24 x1 then if (wr x2) < 0 then EX d 289 37 [] [] h else EX d 289 28 [(2, .inl x2), (3, .inr (.inl y3)), (6, .inr (.inr (hR h (hR h a0 10) (ix x1))))] [] h else none else none := (EX_at bk_Hook_write_16 _ _ _).trans rfl
theorem bk_Hook_write_28 : blk 289 28 = some (((cd_Hook_write.lookup 28).getD ([], 0, []))) := rfl
theorem Hook_write_28 (d : Nat) (x2 : Int) (y3 : Int) (a6 : Nat) (h : Hp) : EX d 289 28 [(2, .inl x2), (3, .inr (.inl y3)), (6, .inr (.inr a6))] [] h = if sK h a6 = 7 then if (wr x2) < (wr (hI h a6 2)) then EX d 289 41 [(2, .inl x2), (3, .inr (.inl y3)), (6, .inr (.inr a6))] [] h else EX d 289 37 [] [] h else none := (EX_at bk_Hook_write_28 _ _ _).trans rfl
theorem bk_Hook_write_37 : blk 289 37 = some (((cd_Hook_write.lookup 37).getD ([], 0, []))) := rfl
theorem Hook_write_37 (d : Nat) (h : Hp) : EX d 289 37 [] [] h = some (.inr (.inl (-7)), h) := (EX_at bk_Hook_write_37 _ _ _).trans rfl
theorem bk_Hook_write_41 : blk 289 41 = some (((cd_Hook_write.lookup 41).getD ([], 0, []))) := rfl
theorem Hook_write_41 (d : Nat) (x2 : Int) (y3 : Int) (a6 : Nat) (h : Hp) : EX d 289 41 [(2, .inl x2), (3, .inr (.inl y3)), (6, .inr (.inr a6))] [] h = if sK h a6 = 7 then bak (EX d 289) 48 [] [] false (cal d 288 [.inr (.inr a6), .inl x2, .inr (.inl y3)] h) else none := (EX_at bk_Hook_write_41 _ _ _).trans rfl
theorem bk_Hook_write_48 : blk 289 48 = some (((cd_Hook_write.lookup 48).getD ([], 0, []))) := rfl
theorem Hook_write_48 (d : Nat) (t0 : Int) (h : Hp) : EX d 289 48 [] [.inr (.inl t0)] h = some (.inr (.inl t0), h) := (EX_at bk_Hook_write_48 _ _ _).trans rfl
/-! copy(I)I of HookOver: method 293 -/
theorem bk_Hook_copy_0 : blk 293 0 = some (((cd_Hook_copy.lookup 0).getD ([], 0, []))) := rfl
theorem Hook_copy_0 (d : Nat) (a0 : Nat) (x1 : Int) (h : Hp) : EX d 293 0 [(0, .inr (.inr a0)), (1, .inl x1)] [] h = if sK h a0 = 10 then bak (EX d 293) 5 [(0, .inr (.inr a0)), (1, .inl x1)] [] false (cal d 167 [.inr (.inr a0), .inl x1] h) else none := (EX_at bk_Hook_copy_0 _ _ _).trans rfl
theorem bk_Hook_copy_5 : blk 293 5 = some (((cd_Hook_copy.lookup 5).getD ([], 0, []))) := rfl
theorem Hook_copy_5 (d : Nat) (a0 : Nat) (x1 : Int) (s0 : Int) (h : Hp) : EX d 293 5 [(0, .inr (.inr a0)), (1, .inl x1)] [.inl s0] h = if (wr s0) = 0 then EX d 293 12 [(0, .inr (.inr a0)), (1, .inl x1)] [] h else EX d 293 10 [(2, .inl s0)] [] h := (EX_at bk_Hook_copy_5 _ _ _).trans rfl
theorem bk_Hook_copy_10 : blk 293 10 = some (((cd_Hook_copy.lookup 10).getD ([], 0, []))) := rfl
theorem Hook_copy_10 (d : Nat) (x2 : Int) (h : Hp) : EX d 293 10 [(2, .inl x2)] [] h = some (.inl x2, h) := (EX_at bk_Hook_copy_10 _ _ _).trans rfl
theorem bk_Hook_copy_12 : blk 293 12 = some (((cd_Hook_copy.lookup 12).getD ([], 0, []))) := rfl
theorem Hook_copy_12 (d : Nat) (a0 : Nat) (x1 : Int) (h : Hp) : EX d 293 12 [(0, .inr (.inr a0)), (1, .inl x1)] [] h = if sK h a0 = 10 then if okx h (hR h a0 10) 24 x1 then if sK h (hR h (hR h a0 10) (ix x1)) = 7 then if sK h a0 = 10 then if sK h (hR h a0 5) = 9 then bak (EX d 293) 30 [(0, .inr (.inr a0)), (3, .inr (.inr (hR h (hR h a0 10) (ix x1))))] [.inl (hI h (hR h (hR h a0 10) (ix x1)) 2)] false (cal d 263 [.inr (.inr (hR h a0 5))] h) else none else none else none else none else none := (EX_at bk_Hook_copy_12 _ _ _).trans rfl
theorem bk_Hook_copy_30 : blk 293 30 = some (((cd_Hook_copy.lookup 30).getD ([], 0, []))) := rfl
theorem Hook_copy_30 (d : Nat) (a0 : Nat) (a3 : Nat) (s0 : Int) (s1 : Int) (h : Hp) : EX d 293 30 [(0, .inr (.inr a0)), (3, .inr (.inr a3))] [.inl s1, .inl s0] h = bak (EX d 293) 33 [(0, .inr (.inr a0)), (3, .inr (.inr a3))] [] false (cal d 20 [.inl s0, .inl s1] h) := (EX_at bk_Hook_copy_30 _ _ _).trans rfl
theorem bk_Hook_copy_33 : blk 293 33 = some (((cd_Hook_copy.lookup 33).getD ([], 0, []))) := rfl
theorem Hook_copy_33 (d : Nat) (a0 : Nat) (a3 : Nat) (s0 : Int) (h : Hp) : EX d 293 33 [(0, .inr (.inr a0)), (3, .inr (.inr a3))] [.inl s0] h = EX d 293 38 [(0, .inr (.inr a0)), (3, .inr (.inr a3)), (4, .inl s0), (5, .inl 0)] [] h := (EX_at bk_Hook_copy_33 _ _ _).trans rfl
theorem bk_Hook_copy_38 : blk 293 38 = some (((cd_Hook_copy.lookup 38).getD ([], 0, []))) := rfl
theorem Hook_copy_38 (d : Nat) (a0 : Nat) (a3 : Nat) (x4 : Int) (x5 : Int) (h : Hp) : EX d 293 38 [(0, .inr (.inr a0)), (3, .inr (.inr a3)), (4, .inl x4), (5, .inl x5)] [] h = if (wr x5) < (wr x4) then EX d 293 45 [(0, .inr (.inr a0)), (3, .inr (.inr a3)), (4, .inl x4), (5, .inl x5)] [] h else EX d 293 72 [(4, .inl x4)] [] h := (EX_at bk_Hook_copy_38 _ _ _).trans rfl
theorem bk_Hook_copy_45 : blk 293 45 = some (((cd_Hook_copy.lookup 45).getD ([], 0, []))) := rfl
theorem Hook_copy_45 (d : Nat) (a0 : Nat) (a3 : Nat) (x4 : Int) (x5 : Int) (h : Hp) : EX d 293 45 [(0, .inr (.inr a0)), (3, .inr (.inr a3)), (4, .inl x4), (5, .inl x5)] [] h = if sK h a0 = 10 then if sK h a0 = 10 then if sK h (hR h a0 7) = 0 then bak (EX d 293) 61 [(0, .inr (.inr a0)), (3, .inr (.inr a3)), (4, .inl x4), (5, .inl x5)] [.inl x5, .inr (.inr a3)] false (cal d 292 [.inr (.inr (hR h a0 7)), .inr (.inr (hR h a0 5)), .inl x5] h) else none else none else none := (EX_at bk_Hook_copy_45 _ _ _).trans rfl
theorem bk_Hook_copy_61 : blk 293 61 = some (((cd_Hook_copy.lookup 61).getD ([], 0, []))) := rfl
theorem Hook_copy_61 (d : Nat) (a0 : Nat) (a3 : Nat) (x4 : Int) (x5 : Int) (r0 : Nat) (s1 : Int) (s2 : Int) (h : Hp) : EX d 293 61 [(0, .inr (.inr a0)), (3, .inr (.inr a3)), (4, .inl x4), (5, .inl x5)] [.inl s2, .inl s1, .inr (.inr r0)] h = if sK h r0 = 7 then bak (EX d 293) 65 [(0, .inr (.inr a0)), (3, .inr (.inr a3)), (4, .inl x4), (5, .inl x5)] [] false (cal d 288 [.inr (.inr r0), .inl s1, .inr (.inl (wr s2))] h) else none := (EX_at bk_Hook_copy_61 _ _ _).trans rfl
theorem bk_Hook_copy_65 : blk 293 65 = some (((cd_Hook_copy.lookup 65).getD ([], 0, []))) := rfl
theorem Hook_copy_65 (d : Nat) (a0 : Nat) (a3 : Nat) (x4 : Int) (x5 : Int) (t0 : Int) (h : Hp) : EX d 293 65 [(0, .inr (.inr a0)), (3, .inr (.inr a3)), (4, .inl x4), (5, .inl x5)] [.inr (.inl t0)] h = EX d 293 38 [(0, .inr (.inr a0)), (3, .inr (.inr a3)), (4, .inl x4), (5, .inl (x5 + 1))] [] h := (EX_at bk_Hook_copy_65 _ _ _).trans rfl
theorem bk_Hook_copy_72 : blk 293 72 = some (((cd_Hook_copy.lookup 72).getD ([], 0, []))) := rfl
theorem Hook_copy_72 (d : Nat) (x4 : Int) (h : Hp) : EX d 293 72 [(4, .inl x4)] [] h = some (.inl x4, h) := (EX_at bk_Hook_copy_72 _ _ _).trans rfl
/-! image(I)I of HookOver: method 297 -/
theorem bk_Hook_image_0 : blk 297 0 = some (((cd_Hook_image.lookup 0).getD ([], 0, []))) := rfl
theorem Hook_image_0 (d : Nat) (a0 : Nat) (x1 : Int) (h : Hp) : EX d 297 0 [(0, .inr (.inr a0)), (1, .inl x1)] [] h = if (wr x1) < 0 then EX d 297 9 [] [] h else EX d 297 4 [(0, .inr (.inr a0)), (1, .inl x1)] [] h := (EX_at bk_Hook_image_0 _ _ _).trans rfl
theorem bk_Hook_image_4 : blk 297 4 = some (((cd_Hook_image.lookup 4).getD ([], 0, []))) := rfl
theorem Hook_image_4 (d : Nat) (a0 : Nat) (x1 : Int) (h : Hp) : EX d 297 4 [(0, .inr (.inr a0)), (1, .inl x1)] [] h = if (wr x1) < 2 then EX d 297 12 [(0, .inr (.inr a0)), (1, .inl x1)] [] h else EX d 297 9 [] [] h := (EX_at bk_Hook_image_4 _ _ _).trans rfl
theorem bk_Hook_image_9 : blk 297 9 = some (((cd_Hook_image.lookup 9).getD ([], 0, []))) := rfl
theorem Hook_image_9 (d : Nat) (h : Hp) : EX d 297 9 [] [] h = some (.inl (-2), h) := (EX_at bk_Hook_image_9 _ _ _).trans rfl
theorem bk_Hook_image_12 : blk 297 12 = some (((cd_Hook_image.lookup 12).getD ([], 0, []))) := rfl
theorem Hook_image_12 (d : Nat) (a0 : Nat) (x1 : Int) (h : Hp) : EX d 297 12 [(0, .inr (.inr a0)), (1, .inl x1)] [] h = if sK h a0 = 10 then if okx h (hR h a0 11) 25 x1 then if sK h a0 = 10 then if sK h (hR h (hR h a0 11) (ix x1)) = 9 then bak (EX d 297) 25 [(0, .inr (.inr a0)), (1, .inl x1)] [] true (cal d 296 [.inr (.inr (hR h (hR h a0 11) (ix x1))), .inr (.inr (hR h a0 5))] h) else none else none else none else none := (EX_at bk_Hook_image_12 _ _ _).trans rfl
theorem bk_Hook_image_25 : blk 297 25 = some (((cd_Hook_image.lookup 25).getD ([], 0, []))) := rfl
theorem Hook_image_25 (d : Nat) (a0 : Nat) (x1 : Int) (h : Hp) : EX d 297 25 [(0, .inr (.inr a0)), (1, .inl x1)] [] h = if sK h a0 = 10 then if okx h (hR h a0 12) 26 x1 then if sK h a0 = 10 then if sK h (hR h (hR h a0 12) (ix x1)) = 0 then bak (EX d 297) 38 [(0, .inr (.inr a0)), (1, .inl x1)] [] true (cal d 67 [.inr (.inr (hR h (hR h a0 12) (ix x1))), .inr (.inr (hR h a0 7))] h) else none else none else none else none := (EX_at bk_Hook_image_25 _ _ _).trans rfl
theorem bk_Hook_image_38 : blk 297 38 = some (((cd_Hook_image.lookup 38).getD ([], 0, []))) := rfl
theorem Hook_image_38 (d : Nat) (a0 : Nat) (x1 : Int) (h : Hp) : EX d 297 38 [(0, .inr (.inr a0)), (1, .inl x1)] [] h = if sK h a0 = 10 then if (okx h (hR h a0 13) 23 x1 ∧ ((1 : Int) = 0 ∨ (1 : Int) = 1)) then EX d 297 45 [] [] (pI h (hR h a0 13) (ix x1) 1) else none else none := (EX_at bk_Hook_image_38 _ _ _).trans rfl
theorem bk_Hook_image_45 : blk 297 45 = some (((cd_Hook_image.lookup 45).getD ([], 0, []))) := rfl
theorem Hook_image_45 (d : Nat) (h : Hp) : EX d 297 45 [] [] h = some (.inl 0, h) := (EX_at bk_Hook_image_45 _ _ _).trans rfl
/-! restore(I)I of HookOver: method 299 -/
theorem bk_Hook_restore_0 : blk 299 0 = some (((cd_Hook_restore.lookup 0).getD ([], 0, []))) := rfl
theorem Hook_restore_0 (d : Nat) (a0 : Nat) (x1 : Int) (h : Hp) : EX d 299 0 [(0, .inr (.inr a0)), (1, .inl x1)] [] h = if (wr x1) < 0 then EX d 299 9 [] [] h else EX d 299 4 [(0, .inr (.inr a0)), (1, .inl x1)] [] h := (EX_at bk_Hook_restore_0 _ _ _).trans rfl
theorem bk_Hook_restore_4 : blk 299 4 = some (((cd_Hook_restore.lookup 4).getD ([], 0, []))) := rfl
theorem Hook_restore_4 (d : Nat) (a0 : Nat) (x1 : Int) (h : Hp) : EX d 299 4 [(0, .inr (.inr a0)), (1, .inl x1)] [] h = if (wr x1) < 2 then EX d 299 12 [(0, .inr (.inr a0)), (1, .inl x1)] [] h else EX d 299 9 [] [] h := (EX_at bk_Hook_restore_4 _ _ _).trans rfl
theorem bk_Hook_restore_9 : blk 299 9 = some (((cd_Hook_restore.lookup 9).getD ([], 0, []))) := rfl
theorem Hook_restore_9 (d : Nat) (h : Hp) : EX d 299 9 [] [] h = some (.inl (-2), h) := (EX_at bk_Hook_restore_9 _ _ _).trans rfl
theorem bk_Hook_restore_12 : blk 299 12 = some (((cd_Hook_restore.lookup 12).getD ([], 0, []))) := rfl
theorem Hook_restore_12 (d : Nat) (a0 : Nat) (x1 : Int) (h : Hp) : EX d 299 12 [(0, .inr (.inr a0)), (1, .inl x1)] [] h = if sK h a0 = 10 then if okx h (hR h a0 13) 23 x1 then if (wr (hI h (hR h a0 13) (ix x1))) = 0 then EX d 299 21 [] [] h else EX d 299 24 [(0, .inr (.inr a0)), (1, .inl x1)] [] h else none else none := (EX_at bk_Hook_restore_12 _ _ _).trans rfl
theorem bk_Hook_restore_21 : blk 299 21 = some (((cd_Hook_restore.lookup 21).getD ([], 0, []))) := rfl
theorem Hook_restore_21 (d : Nat) (h : Hp) : EX d 299 21 [] [] h = some (.inl (-5), h) := (EX_at bk_Hook_restore_21 _ _ _).trans rfl
theorem bk_Hook_restore_24 : blk 299 24 = some (((cd_Hook_restore.lookup 24).getD ([], 0, []))) := rfl
theorem Hook_restore_24 (d : Nat) (a0 : Nat) (x1 : Int) (h : Hp) : EX d 299 24 [(0, .inr (.inr a0)), (1, .inl x1)] [] h = if sK h a0 = 10 then if sK h a0 = 10 then if okx h (hR h a0 11) 25 x1 then if sK h (hR h a0 5) = 9 then bak (EX d 299) 37 [(0, .inr (.inr a0)), (1, .inl x1)] [] true (cal d 296 [.inr (.inr (hR h a0 5)), .inr (.inr (hR h (hR h a0 11) (ix x1)))] h) else none else none else none else none := (EX_at bk_Hook_restore_24 _ _ _).trans rfl
theorem bk_Hook_restore_37 : blk 299 37 = some (((cd_Hook_restore.lookup 37).getD ([], 0, []))) := rfl
theorem Hook_restore_37 (d : Nat) (a0 : Nat) (x1 : Int) (h : Hp) : EX d 299 37 [(0, .inr (.inr a0)), (1, .inl x1)] [] h = if sK h a0 = 10 then if sK h a0 = 10 then if okx h (hR h a0 12) 26 x1 then if sK h (hR h a0 7) = 0 then bak (EX d 299) 50 [(0, .inr (.inr a0))] [] true (cal d 67 [.inr (.inr (hR h a0 7)), .inr (.inr (hR h (hR h a0 12) (ix x1)))] h) else none else none else none else none := (EX_at bk_Hook_restore_37 _ _ _).trans rfl
theorem bk_Hook_restore_50 : blk 299 50 = some (((cd_Hook_restore.lookup 50).getD ([], 0, []))) := rfl
theorem Hook_restore_50 (d : Nat) (a0 : Nat) (h : Hp) : EX d 299 50 [(0, .inr (.inr a0))] [] h = if sK h a0 = 10 then if sK h (hR h a0 9) = 1 then bak (EX d 299) 57 [(0, .inr (.inr a0))] [] true (cal d 68 [.inr (.inr (hR h a0 9))] h) else none else none := (EX_at bk_Hook_restore_50 _ _ _).trans rfl
theorem bk_Hook_restore_57 : blk 299 57 = some (((cd_Hook_restore.lookup 57).getD ([], 0, []))) := rfl
theorem Hook_restore_57 (d : Nat) (a0 : Nat) (h : Hp) : EX d 299 57 [(0, .inr (.inr a0))] [] h = if sK h a0 = 10 then if sK h (hR h a0 14) = 2 then bak (EX d 299) 64 [] [] true (cal d 69 [.inr (.inr (hR h a0 14))] h) else none else none := (EX_at bk_Hook_restore_57 _ _ _).trans rfl
theorem bk_Hook_restore_64 : blk 299 64 = some (((cd_Hook_restore.lookup 64).getD ([], 0, []))) := rfl
theorem Hook_restore_64 (d : Nat) (h : Hp) : EX d 299 64 [] [] h = some (.inl 0, h) := (EX_at bk_Hook_restore_64 _ _ _).trans rfl
/-! count(I)I of HookOver: method 302 -/
theorem bk_Hook_count_0 : blk 302 0 = some (((cd_Hook_count.lookup 0).getD ([], 0, []))) := rfl
theorem Hook_count_0 (d : Nat) (a0 : Nat) (x1 : Int) (h : Hp) : EX d 302 0 [(0, .inr (.inr a0)), (1, .inl x1)] [] h = if (wr x1) = 0 then EX d 302 64 [(0, .inr (.inr a0))] [] h else if (wr x1) = 1 then EX d 302 72 [(0, .inr (.inr a0))] [] h else if (wr x1) = 2 then EX d 302 80 [(0, .inr (.inr a0))] [] h else if (wr x1) = 3 then EX d 302 91 [(0, .inr (.inr a0))] [] h else if (wr x1) = 4 then EX d 302 99 [(0, .inr (.inr a0))] [] h else if (wr x1) = 5 then EX d 302 107 [(0, .inr (.inr a0))] [] h else if (wr x1) = 6 then EX d 302 115 [(0, .inr (.inr a0))] [] h else if (wr x1) = 7 then EX d 302 123 [(0, .inr (.inr a0))] [] h else if (wr x1) = 8 then EX d 302 131 [(0, .inr (.inr a0))] [] h else if (wr x1) = 9 then EX d 302 139 [(0, .inr (.inr a0))] [] h else if (wr x1) = 10 then EX d 302 147 [(0, .inr (.inr a0))] [] h else if (wr x1) = 11 then EX d 302 152 [(0, .inr (.inr a0))] [] h else EX d 302 160 [(0, .inr (.inr a0))] [] h := (EX_at bk_Hook_count_0 _ _ _).trans rfl
theorem bk_Hook_count_64 : blk 302 64 = some (((cd_Hook_count.lookup 64).getD ([], 0, []))) := rfl
theorem Hook_count_64 (d : Nat) (a0 : Nat) (h : Hp) : EX d 302 64 [(0, .inr (.inr a0))] [] h = if sK h a0 = 10 then if sK h (hR h a0 5) = 9 then some (.inl (hI h (hR h a0 5) 5), h) else none else none := (EX_at bk_Hook_count_64 _ _ _).trans rfl
theorem bk_Hook_count_72 : blk 302 72 = some (((cd_Hook_count.lookup 72).getD ([], 0, []))) := rfl
theorem Hook_count_72 (d : Nat) (a0 : Nat) (h : Hp) : EX d 302 72 [(0, .inr (.inr a0))] [] h = if sK h a0 = 10 then if sK h (hR h a0 5) = 9 then some (.inl (hI h (hR h a0 5) 6), h) else none else none := (EX_at bk_Hook_count_72 _ _ _).trans rfl
theorem bk_Hook_count_80 : blk 302 80 = some (((cd_Hook_count.lookup 80).getD ([], 0, []))) := rfl
theorem Hook_count_80 (d : Nat) (a0 : Nat) (h : Hp) : EX d 302 80 [(0, .inr (.inr a0))] [] h = if sK h a0 = 10 then if sK h (hR h a0 5) = 9 then bak (EX d 302) 90 [] [] false (cal d 301 [.inl (hI h (hR h a0 5) 7)] h) else none else none := (EX_at bk_Hook_count_80 _ _ _).trans rfl
theorem bk_Hook_count_90 : blk 302 90 = some (((cd_Hook_count.lookup 90).getD ([], 0, []))) := rfl
theorem Hook_count_90 (d : Nat) (s0 : Int) (h : Hp) : EX d 302 90 [] [.inl s0] h = some (.inl s0, h) := (EX_at bk_Hook_count_90 _ _ _).trans rfl
theorem bk_Hook_count_91 : blk 302 91 = some (((cd_Hook_count.lookup 91).getD ([], 0, []))) := rfl
theorem Hook_count_91 (d : Nat) (a0 : Nat) (h : Hp) : EX d 302 91 [(0, .inr (.inr a0))] [] h = if sK h a0 = 10 then if sK h (hR h a0 7) = 0 then some (.inl (hI h (hR h a0 7) 2), h) else none else none := (EX_at bk_Hook_count_91 _ _ _).trans rfl
theorem bk_Hook_count_99 : blk 302 99 = some (((cd_Hook_count.lookup 99).getD ([], 0, []))) := rfl
theorem Hook_count_99 (d : Nat) (a0 : Nat) (h : Hp) : EX d 302 99 [(0, .inr (.inr a0))] [] h = if sK h a0 = 10 then if sK h (hR h a0 7) = 0 then some (.inl (hI h (hR h a0 7) 1), h) else none else none := (EX_at bk_Hook_count_99 _ _ _).trans rfl
theorem bk_Hook_count_107 : blk 302 107 = some (((cd_Hook_count.lookup 107).getD ([], 0, []))) := rfl
theorem Hook_count_107 (d : Nat) (a0 : Nat) (h : Hp) : EX d 302 107 [(0, .inr (.inr a0))] [] h = if sK h a0 = 10 then if sK h (hR h a0 9) = 1 then some (.inl (hI h (hR h a0 9) 2), h) else none else none := (EX_at bk_Hook_count_107 _ _ _).trans rfl
theorem bk_Hook_count_115 : blk 302 115 = some (((cd_Hook_count.lookup 115).getD ([], 0, []))) := rfl
theorem Hook_count_115 (d : Nat) (a0 : Nat) (h : Hp) : EX d 302 115 [(0, .inr (.inr a0))] [] h = if sK h a0 = 10 then if sK h (hR h a0 5) = 9 then some (.inl (hI h (hR h a0 5) 8), h) else none else none := (EX_at bk_Hook_count_115 _ _ _).trans rfl
theorem bk_Hook_count_123 : blk 302 123 = some (((cd_Hook_count.lookup 123).getD ([], 0, []))) := rfl
theorem Hook_count_123 (d : Nat) (a0 : Nat) (h : Hp) : EX d 302 123 [(0, .inr (.inr a0))] [] h = if sK h a0 = 10 then if sK h (hR h a0 5) = 9 then some (.inl (hI h (hR h a0 5) 9), h) else none else none := (EX_at bk_Hook_count_123 _ _ _).trans rfl
theorem bk_Hook_count_131 : blk 302 131 = some (((cd_Hook_count.lookup 131).getD ([], 0, []))) := rfl
theorem Hook_count_131 (d : Nat) (a0 : Nat) (h : Hp) : EX d 302 131 [(0, .inr (.inr a0))] [] h = if sK h a0 = 10 then if sK h (hR h a0 5) = 9 then some (.inl (hI h (hR h a0 5) 10), h) else none else none := (EX_at bk_Hook_count_131 _ _ _).trans rfl
theorem bk_Hook_count_139 : blk 302 139 = some (((cd_Hook_count.lookup 139).getD ([], 0, []))) := rfl
theorem Hook_count_139 (d : Nat) (a0 : Nat) (h : Hp) : EX d 302 139 [(0, .inr (.inr a0))] [] h = if sK h a0 = 10 then if sK h (hR h a0 5) = 9 then some (.inl (hI h (hR h a0 5) 11), h) else none else none := (EX_at bk_Hook_count_139 _ _ _).trans rfl
theorem bk_Hook_count_147 : blk 302 147 = some (((cd_Hook_count.lookup 147).getD ([], 0, []))) := rfl
theorem Hook_count_147 (d : Nat) (a0 : Nat) (h : Hp) : EX d 302 147 [(0, .inr (.inr a0))] [] h = if sK h a0 = 10 then some (.inl (hI h a0 1), h) else none := (EX_at bk_Hook_count_147 _ _ _).trans rfl
theorem bk_Hook_count_152 : blk 302 152 = some (((cd_Hook_count.lookup 152).getD ([], 0, []))) := rfl
theorem Hook_count_152 (d : Nat) (a0 : Nat) (h : Hp) : EX d 302 152 [(0, .inr (.inr a0))] [] h = if sK h a0 = 10 then if sK h (hR h a0 5) = 9 then some (.inl (hI h (hR h a0 5) 14), h) else none else none := (EX_at bk_Hook_count_152 _ _ _).trans rfl
theorem bk_Hook_count_160 : blk 302 160 = some (((cd_Hook_count.lookup 160).getD ([], 0, []))) := rfl
theorem Hook_count_160 (d : Nat) (a0 : Nat) (h : Hp) : EX d 302 160 [(0, .inr (.inr a0))] [] h = some (.inl (-1), h) := (EX_at bk_Hook_count_160 _ _ _).trans rfl
