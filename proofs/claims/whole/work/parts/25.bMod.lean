/-! plain([I)V of HookOverModel: method 14 -/
theorem bk_Mod_plain_0 : blk 14 0 = some (((cd_Mod_plain.lookup 0).getD ([], 0, []))) := rfl
theorem Mod_plain_0 (d : Nat) (a0 : Nat) (h : Hp) : EX d 14 0 [(0, .inr (.inr a0))] [] h = EX d 14 2 [(0, .inr (.inr a0)), (1, .inl 0)] [] h := (EX_at bk_Mod_plain_0 _ _ _).trans rfl
theorem bk_Mod_plain_2 : blk 14 2 = some (((cd_Mod_plain.lookup 2).getD ([], 0, []))) := rfl
theorem Mod_plain_2 (d : Nat) (a0 : Nat) (x1 : Int) (h : Hp) : EX d 14 2 [(0, .inr (.inr a0)), (1, .inl x1)] [] h = if (wr x1) < 1115 then EX d 14 9 [(0, .inr (.inr a0)), (1, .inl x1)] [] h else EX d 14 19 [(0, .inr (.inr a0))] [] h := (EX_at bk_Mod_plain_2 _ _ _).trans rfl
theorem bk_Mod_plain_9 : blk 14 9 = some (((cd_Mod_plain.lookup 9).getD ([], 0, []))) := rfl
theorem Mod_plain_9 (d : Nat) (a0 : Nat) (x1 : Int) (h : Hp) : EX d 14 9 [(0, .inr (.inr a0)), (1, .inl x1)] [] h = if okx h a0 20 x1 then EX d 14 13 [(0, .inr (.inr a0)), (1, .inl x1)] [] (pI h a0 (ix x1) 0) else none := (EX_at bk_Mod_plain_9 _ _ _).trans rfl
theorem bk_Mod_plain_13 : blk 14 13 = some (((cd_Mod_plain.lookup 13).getD ([], 0, []))) := rfl
theorem Mod_plain_13 (d : Nat) (a0 : Nat) (x1 : Int) (h : Hp) : EX d 14 13 [(0, .inr (.inr a0)), (1, .inl x1)] [] h = EX d 14 2 [(0, .inr (.inr a0)), (1, .inl (x1 + 1))] [] h := (EX_at bk_Mod_plain_13 _ _ _).trans rfl
theorem bk_Mod_plain_19 : blk 14 19 = some (((cd_Mod_plain.lookup 19).getD ([], 0, []))) := rfl
theorem Mod_plain_19 (d : Nat) (a0 : Nat) (h : Hp) : EX d 14 19 [(0, .inr (.inr a0))] [] h = if okx h a0 20 3 then EX d 14 23 [(0, .inr (.inr a0))] [] (pI h a0 3 1) else none := (EX_at bk_Mod_plain_19 _ _ _).trans rfl
theorem bk_Mod_plain_23 : blk 14 23 = some (((cd_Mod_plain.lookup 23).getD ([], 0, []))) := rfl
theorem Mod_plain_23 (d : Nat) (a0 : Nat) (h : Hp) : EX d 14 23 [(0, .inr (.inr a0))] [] h = if okx h a0 20 4 then EX d 14 27 [(0, .inr (.inr a0))] [] (pI h a0 4 5) else none := (EX_at bk_Mod_plain_23 _ _ _).trans rfl
theorem bk_Mod_plain_27 : blk 14 27 = some (((cd_Mod_plain.lookup 27).getD ([], 0, []))) := rfl
theorem Mod_plain_27 (d : Nat) (a0 : Nat) (h : Hp) : EX d 14 27 [(0, .inr (.inr a0))] [] h = if okx h a0 20 5 then EX d 14 31 [(0, .inr (.inr a0))] [] (pI h a0 5 2) else none := (EX_at bk_Mod_plain_27 _ _ _).trans rfl
theorem bk_Mod_plain_31 : blk 14 31 = some (((cd_Mod_plain.lookup 31).getD ([], 0, []))) := rfl
theorem Mod_plain_31 (d : Nat) (a0 : Nat) (h : Hp) : EX d 14 31 [(0, .inr (.inr a0))] [] h = if okx h a0 20 8 then EX d 14 37 [(0, .inr (.inr a0))] [] (pI h a0 8 10) else none := (EX_at bk_Mod_plain_31 _ _ _).trans rfl
theorem bk_Mod_plain_37 : blk 14 37 = some (((cd_Mod_plain.lookup 37).getD ([], 0, []))) := rfl
theorem Mod_plain_37 (d : Nat) (a0 : Nat) (h : Hp) : EX d 14 37 [(0, .inr (.inr a0))] [] h = EX d 14 39 [(0, .inr (.inr a0)), (1, .inl 0)] [] h := (EX_at bk_Mod_plain_37 _ _ _).trans rfl
theorem bk_Mod_plain_39 : blk 14 39 = some (((cd_Mod_plain.lookup 39).getD ([], 0, []))) := rfl
theorem Mod_plain_39 (d : Nat) (a0 : Nat) (x1 : Int) (h : Hp) : EX d 14 39 [(0, .inr (.inr a0)), (1, .inl x1)] [] h = if (wr x1) < 12 then EX d 14 45 [(0, .inr (.inr a0)), (1, .inl x1)] [] h else EX d 14 58 [] [] h := (EX_at bk_Mod_plain_39 _ _ _).trans rfl
theorem bk_Mod_plain_45 : blk 14 45 = some (((cd_Mod_plain.lookup 45).getD ([], 0, []))) := rfl
theorem Mod_plain_45 (d : Nat) (a0 : Nat) (x1 : Int) (h : Hp) : EX d 14 45 [(0, .inr (.inr a0)), (1, .inl x1)] [] h = if okx h a0 20 (61 + x1) then EX d 14 52 [(0, .inr (.inr a0)), (1, .inl x1)] [] (pI h a0 (ix (61 + x1)) (-1)) else none := (EX_at bk_Mod_plain_45 _ _ _).trans rfl
theorem bk_Mod_plain_52 : blk 14 52 = some (((cd_Mod_plain.lookup 52).getD ([], 0, []))) := rfl
theorem Mod_plain_52 (d : Nat) (a0 : Nat) (x1 : Int) (h : Hp) : EX d 14 52 [(0, .inr (.inr a0)), (1, .inl x1)] [] h = EX d 14 39 [(0, .inr (.inr a0)), (1, .inl (x1 + 1))] [] h := (EX_at bk_Mod_plain_52 _ _ _).trans rfl
theorem bk_Mod_plain_58 : blk 14 58 = some (((cd_Mod_plain.lookup 58).getD ([], 0, []))) := rfl
theorem Mod_plain_58 (d : Nat) (h : Hp) : EX d 14 58 [] [] h = some (.inl 0, h) := (EX_at bk_Mod_plain_58 _ _ _).trans rfl
/-! <init>()V of HookOverModel: method 15 -/
theorem bk_Mod_init_0 : blk 15 0 = some (((cd_Mod_init.lookup 0).getD ([], 0, []))) := rfl
theorem Mod_init_0 (d : Nat) (a0 : Nat) (h : Hp) : EX d 15 0 [(0, .inr (.inr a0))] [] h = if (0 < a0 ∧ 0 ≤ 8) then EX d 15 10 [(0, .inr (.inr a0))] [.inr (.inr ((Prod.fst h).length)), .inr (.inr a0)] (nwH h 20 3345) else none := (EX_at bk_Mod_init_0 _ _ _).trans rfl
theorem bk_Mod_init_10 : blk 15 10 = some (((cd_Mod_init.lookup 10).getD ([], 0, []))) := rfl
theorem Mod_init_10 (d : Nat) (a0 : Nat) (r0 : Nat) (r1 : Nat) (h : Hp) : EX d 15 10 [(0, .inr (.inr a0))] [.inr (.inr r1), .inr (.inr r0)] h = if sK h r0 = 11 then EX d 15 13 [(0, .inr (.inr a0))] [] (pR h r0 1 r1) else none := (EX_at bk_Mod_init_10 _ _ _).trans rfl
theorem bk_Mod_init_13 : blk 15 13 = some (((cd_Mod_init.lookup 13).getD ([], 0, []))) := rfl
theorem Mod_init_13 (d : Nat) (a0 : Nat) (h : Hp) : EX d 15 13 [(0, .inr (.inr a0))] [] h = EX d 15 17 [(0, .inr (.inr a0))] [.inr (.inr ((Prod.fst h).length)), .inr (.inr a0)] (nwH h 23 2) := (EX_at bk_Mod_init_13 _ _ _).trans rfl
theorem bk_Mod_init_17 : blk 15 17 = some (((cd_Mod_init.lookup 17).getD ([], 0, []))) := rfl
theorem Mod_init_17 (d : Nat) (a0 : Nat) (r0 : Nat) (r1 : Nat) (h : Hp) : EX d 15 17 [(0, .inr (.inr a0))] [.inr (.inr r1), .inr (.inr r0)] h = if sK h r0 = 11 then EX d 15 20 [(0, .inr (.inr a0))] [] (pR h r0 2 r1) else none := (EX_at bk_Mod_init_17 _ _ _).trans rfl
theorem bk_Mod_init_20 : blk 15 20 = some (((cd_Mod_init.lookup 20).getD ([], 0, []))) := rfl
theorem Mod_init_20 (d : Nat) (a0 : Nat) (h : Hp) : EX d 15 20 [(0, .inr (.inr a0))] [] h = EX d 15 26 [(0, .inr (.inr a0))] [.inr (.inr ((Prod.fst h).length)), .inr (.inr a0)] (nwH h 20 900) := (EX_at bk_Mod_init_20 _ _ _).trans rfl
theorem bk_Mod_init_26 : blk 15 26 = some (((cd_Mod_init.lookup 26).getD ([], 0, []))) := rfl
theorem Mod_init_26 (d : Nat) (a0 : Nat) (r0 : Nat) (r1 : Nat) (h : Hp) : EX d 15 26 [(0, .inr (.inr a0))] [.inr (.inr r1), .inr (.inr r0)] h = if sK h r0 = 11 then EX d 15 29 [(0, .inr (.inr a0))] [] (pR h r0 3 r1) else none := (EX_at bk_Mod_init_26 _ _ _).trans rfl
theorem bk_Mod_init_29 : blk 15 29 = some (((cd_Mod_init.lookup 29).getD ([], 0, []))) := rfl
theorem Mod_init_29 (d : Nat) (a0 : Nat) (h : Hp) : EX d 15 29 [(0, .inr (.inr a0))] [] h = EX d 15 35 [(0, .inr (.inr a0))] [.inr (.inr ((Prod.fst h).length)), .inr (.inr a0)] (nwH h 20 1115) := (EX_at bk_Mod_init_29 _ _ _).trans rfl
theorem bk_Mod_init_35 : blk 15 35 = some (((cd_Mod_init.lookup 35).getD ([], 0, []))) := rfl
theorem Mod_init_35 (d : Nat) (a0 : Nat) (r0 : Nat) (r1 : Nat) (h : Hp) : EX d 15 35 [(0, .inr (.inr a0))] [.inr (.inr r1), .inr (.inr r0)] h = if sK h r0 = 11 then EX d 15 38 [(0, .inr (.inr a0))] [] (pR h r0 4 r1) else none := (EX_at bk_Mod_init_35 _ _ _).trans rfl
theorem bk_Mod_init_38 : blk 15 38 = some (((cd_Mod_init.lookup 38).getD ([], 0, []))) := rfl
theorem Mod_init_38 (d : Nat) (a0 : Nat) (h : Hp) : EX d 15 38 [(0, .inr (.inr a0))] [] h = if sK h a0 = 11 then EX d 15 43 [(0, .inr (.inr a0))] [] (pI h a0 14 (-1)) else none := (EX_at bk_Mod_init_38 _ _ _).trans rfl
theorem bk_Mod_init_43 : blk 15 43 = some (((cd_Mod_init.lookup 43).getD ([], 0, []))) := rfl
theorem Mod_init_43 (d : Nat) (a0 : Nat) (h : Hp) : EX d 15 43 [(0, .inr (.inr a0))] [] h = EX d 15 49 [(0, .inr (.inr a0))] [.inr (.inr ((Prod.fst h).length)), .inr (.inr a0)] (nwH h 20 900) := (EX_at bk_Mod_init_43 _ _ _).trans rfl
theorem bk_Mod_init_49 : blk 15 49 = some (((cd_Mod_init.lookup 49).getD ([], 0, []))) := rfl
theorem Mod_init_49 (d : Nat) (a0 : Nat) (r0 : Nat) (r1 : Nat) (h : Hp) : EX d 15 49 [(0, .inr (.inr a0))] [.inr (.inr r1), .inr (.inr r0)] h = if sK h r0 = 11 then EX d 15 52 [(0, .inr (.inr a0))] [] (pR h r0 15 r1) else none := (EX_at bk_Mod_init_49 _ _ _).trans rfl
theorem bk_Mod_init_52 : blk 15 52 = some (((cd_Mod_init.lookup 52).getD ([], 0, []))) := rfl
theorem Mod_init_52 (d : Nat) (a0 : Nat) (h : Hp) : EX d 15 52 [(0, .inr (.inr a0))] [] h = EX d 15 57 [(0, .inr (.inr a0))] [.inr (.inr ((Prod.fst h).length)), .inr (.inr a0)] (nwH h 20 14) := (EX_at bk_Mod_init_52 _ _ _).trans rfl
theorem bk_Mod_init_57 : blk 15 57 = some (((cd_Mod_init.lookup 57).getD ([], 0, []))) := rfl
theorem Mod_init_57 (d : Nat) (a0 : Nat) (r0 : Nat) (r1 : Nat) (h : Hp) : EX d 15 57 [(0, .inr (.inr a0))] [.inr (.inr r1), .inr (.inr r0)] h = if sK h r0 = 11 then EX d 15 60 [(0, .inr (.inr a0))] [] (pR h r0 16 r1) else none := (EX_at bk_Mod_init_57 _ _ _).trans rfl
theorem bk_Mod_init_60 : blk 15 60 = some (((cd_Mod_init.lookup 60).getD ([], 0, []))) := rfl
theorem Mod_init_60 (d : Nat) (a0 : Nat) (h : Hp) : EX d 15 60 [(0, .inr (.inr a0))] [] h = EX d 15 66 [(0, .inr (.inr a0))] [.inr (.inr ((Prod.fst h).length)), .inr (.inr a0)] (nwH h 21 2197) := (EX_at bk_Mod_init_60 _ _ _).trans rfl
theorem bk_Mod_init_66 : blk 15 66 = some (((cd_Mod_init.lookup 66).getD ([], 0, []))) := rfl
theorem Mod_init_66 (d : Nat) (a0 : Nat) (r0 : Nat) (r1 : Nat) (h : Hp) : EX d 15 66 [(0, .inr (.inr a0))] [.inr (.inr r1), .inr (.inr r0)] h = if sK h r0 = 11 then EX d 15 69 [(0, .inr (.inr a0))] [] (pR h r0 19 r1) else none := (EX_at bk_Mod_init_66 _ _ _).trans rfl
theorem bk_Mod_init_69 : blk 15 69 = some (((cd_Mod_init.lookup 69).getD ([], 0, []))) := rfl
theorem Mod_init_69 (d : Nat) (a0 : Nat) (h : Hp) : EX d 15 69 [(0, .inr (.inr a0))] [] h = EX d 15 74 [(0, .inr (.inr a0))] [.inr (.inr ((Prod.fst h).length)), .inr (.inr a0)] (nwH h 20 12) := (EX_at bk_Mod_init_69 _ _ _).trans rfl
theorem bk_Mod_init_74 : blk 15 74 = some (((cd_Mod_init.lookup 74).getD ([], 0, []))) := rfl
theorem Mod_init_74 (d : Nat) (a0 : Nat) (r0 : Nat) (r1 : Nat) (h : Hp) : EX d 15 74 [(0, .inr (.inr a0))] [.inr (.inr r1), .inr (.inr r0)] h = if sK h r0 = 11 then EX d 15 77 [(0, .inr (.inr a0))] [] (pR h r0 23 r1) else none := (EX_at bk_Mod_init_74 _ _ _).trans rfl
theorem bk_Mod_init_77 : blk 15 77 = some (((cd_Mod_init.lookup 77).getD ([], 0, []))) := rfl
theorem Mod_init_77 (d : Nat) (a0 : Nat) (h : Hp) : EX d 15 77 [(0, .inr (.inr a0))] [] h = EX d 15 83 [(0, .inr (.inr a0))] [.inr (.inr ((Prod.fst h).length)), .inr (.inr a0)] (nwH h 20 169) := (EX_at bk_Mod_init_77 _ _ _).trans rfl
theorem bk_Mod_init_83 : blk 15 83 = some (((cd_Mod_init.lookup 83).getD ([], 0, []))) := rfl
theorem Mod_init_83 (d : Nat) (a0 : Nat) (r0 : Nat) (r1 : Nat) (h : Hp) : EX d 15 83 [(0, .inr (.inr a0))] [.inr (.inr r1), .inr (.inr r0)] h = if sK h r0 = 11 then EX d 15 86 [(0, .inr (.inr a0))] [] (pR h r0 24 r1) else none := (EX_at bk_Mod_init_83 _ _ _).trans rfl
theorem bk_Mod_init_86 : blk 15 86 = some (((cd_Mod_init.lookup 86).getD ([], 0, []))) := rfl
theorem Mod_init_86 (d : Nat) (a0 : Nat) (h : Hp) : EX d 15 86 [(0, .inr (.inr a0))] [] h = EX d 15 92 [(0, .inr (.inr a0))] [.inr (.inr ((Prod.fst h).length)), .inr (.inr a0)] (nwH h 20 2197) := (EX_at bk_Mod_init_86 _ _ _).trans rfl
theorem bk_Mod_init_92 : blk 15 92 = some (((cd_Mod_init.lookup 92).getD ([], 0, []))) := rfl
theorem Mod_init_92 (d : Nat) (a0 : Nat) (r0 : Nat) (r1 : Nat) (h : Hp) : EX d 15 92 [(0, .inr (.inr a0))] [.inr (.inr r1), .inr (.inr r0)] h = if sK h r0 = 11 then EX d 15 95 [(0, .inr (.inr a0))] [] (pR h r0 25 r1) else none := (EX_at bk_Mod_init_92 _ _ _).trans rfl
theorem bk_Mod_init_95 : blk 15 95 = some (((cd_Mod_init.lookup 95).getD ([], 0, []))) := rfl
theorem Mod_init_95 (d : Nat) (a0 : Nat) (h : Hp) : EX d 15 95 [(0, .inr (.inr a0))] [] h = EX d 15 101 [(0, .inr (.inr a0))] [.inr (.inr ((Prod.fst h).length)), .inr (.inr a0)] (nwH h 20 2197) := (EX_at bk_Mod_init_95 _ _ _).trans rfl
theorem bk_Mod_init_101 : blk 15 101 = some (((cd_Mod_init.lookup 101).getD ([], 0, []))) := rfl
theorem Mod_init_101 (d : Nat) (a0 : Nat) (r0 : Nat) (r1 : Nat) (h : Hp) : EX d 15 101 [(0, .inr (.inr a0))] [.inr (.inr r1), .inr (.inr r0)] h = if sK h r0 = 11 then EX d 15 104 [(0, .inr (.inr a0))] [] (pR h r0 26 r1) else none := (EX_at bk_Mod_init_101 _ _ _).trans rfl
theorem bk_Mod_init_104 : blk 15 104 = some (((cd_Mod_init.lookup 104).getD ([], 0, []))) := rfl
theorem Mod_init_104 (d : Nat) (a0 : Nat) (h : Hp) : EX d 15 104 [(0, .inr (.inr a0))] [] h = EX d 15 110 [(0, .inr (.inr a0))] [.inr (.inr ((Prod.fst h).length)), .inr (.inr a0)] (nwH h 20 441) := (EX_at bk_Mod_init_104 _ _ _).trans rfl
theorem bk_Mod_init_110 : blk 15 110 = some (((cd_Mod_init.lookup 110).getD ([], 0, []))) := rfl
theorem Mod_init_110 (d : Nat) (a0 : Nat) (r0 : Nat) (r1 : Nat) (h : Hp) : EX d 15 110 [(0, .inr (.inr a0))] [.inr (.inr r1), .inr (.inr r0)] h = if sK h r0 = 11 then EX d 15 113 [(0, .inr (.inr a0))] [] (pR h r0 29 r1) else none := (EX_at bk_Mod_init_110 _ _ _).trans rfl
theorem bk_Mod_init_113 : blk 15 113 = some (((cd_Mod_init.lookup 113).getD ([], 0, []))) := rfl
theorem Mod_init_113 (d : Nat) (a0 : Nat) (h : Hp) : EX d 15 113 [(0, .inr (.inr a0))] [] h = EX d 15 118 [(0, .inr (.inr a0))] [.inr (.inr ((Prod.fst h).length)), .inr (.inr a0)] (nwH h 20 8) := (EX_at bk_Mod_init_113 _ _ _).trans rfl
theorem bk_Mod_init_118 : blk 15 118 = some (((cd_Mod_init.lookup 118).getD ([], 0, []))) := rfl
theorem Mod_init_118 (d : Nat) (a0 : Nat) (r0 : Nat) (r1 : Nat) (h : Hp) : EX d 15 118 [(0, .inr (.inr a0))] [.inr (.inr r1), .inr (.inr r0)] h = if sK h r0 = 11 then EX d 15 121 [(0, .inr (.inr a0))] [] (pR h r0 30 r1) else none := (EX_at bk_Mod_init_118 _ _ _).trans rfl
theorem bk_Mod_init_121 : blk 15 121 = some (((cd_Mod_init.lookup 121).getD ([], 0, []))) := rfl
theorem Mod_init_121 (d : Nat) (a0 : Nat) (h : Hp) : EX d 15 121 [(0, .inr (.inr a0))] [] h = EX d 15 126 [(0, .inr (.inr a0))] [.inr (.inr ((Prod.fst h).length)), .inr (.inr a0)] (nwH h 20 8) := (EX_at bk_Mod_init_121 _ _ _).trans rfl
theorem bk_Mod_init_126 : blk 15 126 = some (((cd_Mod_init.lookup 126).getD ([], 0, []))) := rfl
theorem Mod_init_126 (d : Nat) (a0 : Nat) (r0 : Nat) (r1 : Nat) (h : Hp) : EX d 15 126 [(0, .inr (.inr a0))] [.inr (.inr r1), .inr (.inr r0)] h = if sK h r0 = 11 then EX d 15 129 [(0, .inr (.inr a0))] [] (pR h r0 31 r1) else none := (EX_at bk_Mod_init_126 _ _ _).trans rfl
theorem bk_Mod_init_129 : blk 15 129 = some (((cd_Mod_init.lookup 129).getD ([], 0, []))) := rfl
theorem Mod_init_129 (d : Nat) (a0 : Nat) (h : Hp) : EX d 15 129 [(0, .inr (.inr a0))] [] h = EX d 15 133 [(0, .inr (.inr a0))] [.inr (.inr ((Prod.fst h).length)), .inr (.inr a0)] (nwH h 20 4) := (EX_at bk_Mod_init_129 _ _ _).trans rfl
theorem bk_Mod_init_133 : blk 15 133 = some (((cd_Mod_init.lookup 133).getD ([], 0, []))) := rfl
theorem Mod_init_133 (d : Nat) (a0 : Nat) (r0 : Nat) (r1 : Nat) (h : Hp) : EX d 15 133 [(0, .inr (.inr a0))] [.inr (.inr r1), .inr (.inr r0)] h = if okx h r1 20 0 then EX d 15 137 [(0, .inr (.inr a0))] [.inr (.inr r1), .inr (.inr r0)] (pI h r1 0 (-1)) else none := (EX_at bk_Mod_init_133 _ _ _).trans rfl
theorem bk_Mod_init_137 : blk 15 137 = some (((cd_Mod_init.lookup 137).getD ([], 0, []))) := rfl
theorem Mod_init_137 (d : Nat) (a0 : Nat) (r0 : Nat) (r1 : Nat) (h : Hp) : EX d 15 137 [(0, .inr (.inr a0))] [.inr (.inr r1), .inr (.inr r0)] h = if okx h r1 20 1 then EX d 15 141 [(0, .inr (.inr a0))] [.inr (.inr r1), .inr (.inr r0)] (pI h r1 1 (-1)) else none := (EX_at bk_Mod_init_137 _ _ _).trans rfl
theorem bk_Mod_init_141 : blk 15 141 = some (((cd_Mod_init.lookup 141).getD ([], 0, []))) := rfl
theorem Mod_init_141 (d : Nat) (a0 : Nat) (r0 : Nat) (r1 : Nat) (h : Hp) : EX d 15 141 [(0, .inr (.inr a0))] [.inr (.inr r1), .inr (.inr r0)] h = if okx h r1 20 2 then EX d 15 145 [(0, .inr (.inr a0))] [.inr (.inr r1), .inr (.inr r0)] (pI h r1 2 (-1)) else none := (EX_at bk_Mod_init_141 _ _ _).trans rfl
theorem bk_Mod_init_145 : blk 15 145 = some (((cd_Mod_init.lookup 145).getD ([], 0, []))) := rfl
theorem Mod_init_145 (d : Nat) (a0 : Nat) (r0 : Nat) (r1 : Nat) (h : Hp) : EX d 15 145 [(0, .inr (.inr a0))] [.inr (.inr r1), .inr (.inr r0)] h = if okx h r1 20 3 then EX d 15 149 [(0, .inr (.inr a0))] [.inr (.inr r1), .inr (.inr r0)] (pI h r1 3 (-1)) else none := (EX_at bk_Mod_init_145 _ _ _).trans rfl
theorem bk_Mod_init_149 : blk 15 149 = some (((cd_Mod_init.lookup 149).getD ([], 0, []))) := rfl
theorem Mod_init_149 (d : Nat) (a0 : Nat) (r0 : Nat) (r1 : Nat) (h : Hp) : EX d 15 149 [(0, .inr (.inr a0))] [.inr (.inr r1), .inr (.inr r0)] h = if sK h r0 = 11 then EX d 15 152 [(0, .inr (.inr a0))] [] (pR h r0 33 r1) else none := (EX_at bk_Mod_init_149 _ _ _).trans rfl
theorem bk_Mod_init_152 : blk 15 152 = some (((cd_Mod_init.lookup 152).getD ([], 0, []))) := rfl
theorem Mod_init_152 (d : Nat) (a0 : Nat) (h : Hp) : EX d 15 152 [(0, .inr (.inr a0))] [] h = EX d 15 156 [(0, .inr (.inr a0))] [.inr (.inr ((Prod.fst h).length)), .inr (.inr a0)] (nwH h 20 4) := (EX_at bk_Mod_init_152 _ _ _).trans rfl
theorem bk_Mod_init_156 : blk 15 156 = some (((cd_Mod_init.lookup 156).getD ([], 0, []))) := rfl
theorem Mod_init_156 (d : Nat) (a0 : Nat) (r0 : Nat) (r1 : Nat) (h : Hp) : EX d 15 156 [(0, .inr (.inr a0))] [.inr (.inr r1), .inr (.inr r0)] h = if sK h r0 = 11 then EX d 15 159 [(0, .inr (.inr a0))] [] (pR h r0 34 r1) else none := (EX_at bk_Mod_init_156 _ _ _).trans rfl
theorem bk_Mod_init_159 : blk 15 159 = some (((cd_Mod_init.lookup 159).getD ([], 0, []))) := rfl
theorem Mod_init_159 (d : Nat) (a0 : Nat) (h : Hp) : EX d 15 159 [(0, .inr (.inr a0))] [] h = EX d 15 165 [(0, .inr (.inr a0))] [.inr (.inr ((Prod.fst h).length)), .inr (.inr a0)] (nwH h 21 160) := (EX_at bk_Mod_init_159 _ _ _).trans rfl
theorem bk_Mod_init_165 : blk 15 165 = some (((cd_Mod_init.lookup 165).getD ([], 0, []))) := rfl
theorem Mod_init_165 (d : Nat) (a0 : Nat) (r0 : Nat) (r1 : Nat) (h : Hp) : EX d 15 165 [(0, .inr (.inr a0))] [.inr (.inr r1), .inr (.inr r0)] h = if sK h r0 = 11 then EX d 15 168 [(0, .inr (.inr a0))] [] (pR h r0 35 r1) else none := (EX_at bk_Mod_init_165 _ _ _).trans rfl
theorem bk_Mod_init_168 : blk 15 168 = some (((cd_Mod_init.lookup 168).getD ([], 0, []))) := rfl
theorem Mod_init_168 (d : Nat) (a0 : Nat) (h : Hp) : EX d 15 168 [(0, .inr (.inr a0))] [] h = if sK h a0 = 11 then bak (EX d 15) 175 [] [] true (cal d 14 [.inr (.inr (hR h a0 1))] h) else none := (EX_at bk_Mod_init_168 _ _ _).trans rfl
theorem bk_Mod_init_175 : blk 15 175 = some (((cd_Mod_init.lookup 175).getD ([], 0, []))) := rfl
theorem Mod_init_175 (d : Nat) (h : Hp) : EX d 15 175 [] [] h = some (.inl 0, h) := (EX_at bk_Mod_init_175 _ _ _).trans rfl
/-! feed(IIIII)I of HookOverModel: method 18 -/
theorem bk_Mod_feed_0 : blk 18 0 = some (((cd_Mod_feed.lookup 0).getD ([], 0, []))) := rfl
theorem Mod_feed_0 (d : Nat) (a0 : Nat) (x1 : Int) (x2 : Int) (x3 : Int) (x4 : Int) (x5 : Int) (h : Hp) : EX d 18 0 [(0, .inr (.inr a0)), (1, .inl x1), (2, .inl x2), (3, .inl x3), (4, .inl x4), (5, .inl x5)] [] h = if sK h a0 = 11 then EX d 18 5 [(0, .inr (.inr a0)), (1, .inl x1), (2, .inl x2), (3, .inl x3), (4, .inl x4), (5, .inl x5)] [] (pI h a0 0 0) else none := (EX_at bk_Mod_feed_0 _ _ _).trans rfl
theorem bk_Mod_feed_5 : blk 18 5 = some (((cd_Mod_feed.lookup 5).getD ([], 0, []))) := rfl
theorem Mod_feed_5 (d : Nat) (a0 : Nat) (x1 : Int) (x2 : Int) (x3 : Int) (x4 : Int) (x5 : Int) (h : Hp) : EX d 18 5 [(0, .inr (.inr a0)), (1, .inl x1), (2, .inl x2), (3, .inl x3), (4, .inl x4), (5, .inl x5)] [] h = if sK h a0 = 11 then if 900 < (wr ((hI h a0 5) + 20)) then EX d 18 18 [] [] h else EX d 18 21 [(0, .inr (.inr a0)), (1, .inl x1), (2, .inl x2), (3, .inl x3), (4, .inl x4), (5, .inl x5)] [] h else none := (EX_at bk_Mod_feed_5 _ _ _).trans rfl
theorem bk_Mod_feed_18 : blk 18 18 = some (((cd_Mod_feed.lookup 18).getD ([], 0, []))) := rfl
theorem Mod_feed_18 (d : Nat) (h : Hp) : EX d 18 18 [] [] h = some (.inl (-5), h) := (EX_at bk_Mod_feed_18 _ _ _).trans rfl
theorem bk_Mod_feed_21 : blk 18 21 = some (((cd_Mod_feed.lookup 21).getD ([], 0, []))) := rfl
theorem Mod_feed_21 (d : Nat) (a0 : Nat) (x1 : Int) (x2 : Int) (x3 : Int) (x4 : Int) (x5 : Int) (h : Hp) : EX d 18 21 [(0, .inr (.inr a0)), (1, .inl x1), (2, .inl x2), (3, .inl x3), (4, .inl x4), (5, .inl x5)] [] h = EX d 18 24 [(0, .inr (.inr a0)), (1, .inl x1), (2, .inl x2), (3, .inl x3), (4, .inl x4), (5, .inl x5), (6, .inl 0)] [] h := (EX_at bk_Mod_feed_21 _ _ _).trans rfl
theorem bk_Mod_feed_24 : blk 18 24 = some (((cd_Mod_feed.lookup 24).getD ([], 0, []))) := rfl
theorem Mod_feed_24 (d : Nat) (a0 : Nat) (x1 : Int) (x2 : Int) (x3 : Int) (x4 : Int) (x5 : Int) (x6 : Int) (h : Hp) : EX d 18 24 [(0, .inr (.inr a0)), (1, .inl x1), (2, .inl x2), (3, .inl x3), (4, .inl x4), (5, .inl x5), (6, .inl x6)] [] h = if (wr x6) < 20 then EX d 18 31 [(0, .inr (.inr a0)), (1, .inl x1), (2, .inl x2), (3, .inl x3), (4, .inl x4), (5, .inl x5), (6, .inl x6)] [] h else EX d 18 121 [(0, .inr (.inr a0))] [] h := (EX_at bk_Mod_feed_24 _ _ _).trans rfl
theorem bk_Mod_feed_31 : blk 18 31 = some (((cd_Mod_feed.lookup 31).getD ([], 0, []))) := rfl
theorem Mod_feed_31 (d : Nat) (a0 : Nat) (x1 : Int) (x2 : Int) (x3 : Int) (x4 : Int) (x5 : Int) (x6 : Int) (h : Hp) : EX d 18 31 [(0, .inr (.inr a0)), (1, .inl x1), (2, .inl x2), (3, .inl x3), (4, .inl x4), (5, .inl x5), (6, .inl x6)] [] h = if (wr x6) < 4 then EX d 18 37 [(0, .inr (.inr a0)), (1, .inl x1), (2, .inl x2), (3, .inl x3), (4, .inl x4), (5, .inl x5), (6, .inl x6)] [] h else EX d 18 41 [(0, .inr (.inr a0)), (1, .inl x1), (2, .inl x2), (3, .inl x3), (4, .inl x4), (5, .inl x5), (6, .inl x6)] [] h := (EX_at bk_Mod_feed_31 _ _ _).trans rfl
theorem bk_Mod_feed_37 : blk 18 37 = some (((cd_Mod_feed.lookup 37).getD ([], 0, []))) := rfl
theorem Mod_feed_37 (d : Nat) (a0 : Nat) (x1 : Int) (x2 : Int) (x3 : Int) (x4 : Int) (x5 : Int) (x6 : Int) (h : Hp) : EX d 18 37 [(0, .inr (.inr a0)), (1, .inl x1), (2, .inl x2), (3, .inl x3), (4, .inl x4), (5, .inl x5), (6, .inl x6)] [] h = EX d 18 77 [(0, .inr (.inr a0)), (1, .inl x1), (2, .inl x2), (3, .inl x3), (4, .inl x4), (5, .inl x5), (6, .inl x6)] [.inl x1] h := (EX_at bk_Mod_feed_37 _ _ _).trans rfl
theorem bk_Mod_feed_41 : blk 18 41 = some (((cd_Mod_feed.lookup 41).getD ([], 0, []))) := rfl
theorem Mod_feed_41 (d : Nat) (a0 : Nat) (x1 : Int) (x2 : Int) (x3 : Int) (x4 : Int) (x5 : Int) (x6 : Int) (h : Hp) : EX d 18 41 [(0, .inr (.inr a0)), (1, .inl x1), (2, .inl x2), (3, .inl x3), (4, .inl x4), (5, .inl x5), (6, .inl x6)] [] h = if (wr x6) < 8 then EX d 18 48 [(0, .inr (.inr a0)), (1, .inl x1), (2, .inl x2), (3, .inl x3), (4, .inl x4), (5, .inl x5), (6, .inl x6)] [] h else EX d 18 52 [(0, .inr (.inr a0)), (1, .inl x1), (2, .inl x2), (3, .inl x3), (4, .inl x4), (5, .inl x5), (6, .inl x6)] [] h := (EX_at bk_Mod_feed_41 _ _ _).trans rfl
theorem bk_Mod_feed_48 : blk 18 48 = some (((cd_Mod_feed.lookup 48).getD ([], 0, []))) := rfl
theorem Mod_feed_48 (d : Nat) (a0 : Nat) (x1 : Int) (x2 : Int) (x3 : Int) (x4 : Int) (x5 : Int) (x6 : Int) (h : Hp) : EX d 18 48 [(0, .inr (.inr a0)), (1, .inl x1), (2, .inl x2), (3, .inl x3), (4, .inl x4), (5, .inl x5), (6, .inl x6)] [] h = EX d 18 77 [(0, .inr (.inr a0)), (1, .inl x1), (2, .inl x2), (3, .inl x3), (4, .inl x4), (5, .inl x5), (6, .inl x6)] [.inl x2] h := (EX_at bk_Mod_feed_48 _ _ _).trans rfl
theorem bk_Mod_feed_52 : blk 18 52 = some (((cd_Mod_feed.lookup 52).getD ([], 0, []))) := rfl
theorem Mod_feed_52 (d : Nat) (a0 : Nat) (x1 : Int) (x2 : Int) (x3 : Int) (x4 : Int) (x5 : Int) (x6 : Int) (h : Hp) : EX d 18 52 [(0, .inr (.inr a0)), (1, .inl x1), (2, .inl x2), (3, .inl x3), (4, .inl x4), (5, .inl x5), (6, .inl x6)] [] h = if (wr x6) < 12 then EX d 18 59 [(0, .inr (.inr a0)), (1, .inl x1), (2, .inl x2), (3, .inl x3), (4, .inl x4), (5, .inl x5), (6, .inl x6)] [] h else EX d 18 63 [(0, .inr (.inr a0)), (1, .inl x1), (2, .inl x2), (3, .inl x3), (4, .inl x4), (5, .inl x5), (6, .inl x6)] [] h := (EX_at bk_Mod_feed_52 _ _ _).trans rfl
theorem bk_Mod_feed_59 : blk 18 59 = some (((cd_Mod_feed.lookup 59).getD ([], 0, []))) := rfl
theorem Mod_feed_59 (d : Nat) (a0 : Nat) (x1 : Int) (x2 : Int) (x3 : Int) (x4 : Int) (x5 : Int) (x6 : Int) (h : Hp) : EX d 18 59 [(0, .inr (.inr a0)), (1, .inl x1), (2, .inl x2), (3, .inl x3), (4, .inl x4), (5, .inl x5), (6, .inl x6)] [] h = EX d 18 77 [(0, .inr (.inr a0)), (1, .inl x1), (2, .inl x2), (3, .inl x3), (4, .inl x4), (5, .inl x5), (6, .inl x6)] [.inl x3] h := (EX_at bk_Mod_feed_59 _ _ _).trans rfl
theorem bk_Mod_feed_63 : blk 18 63 = some (((cd_Mod_feed.lookup 63).getD ([], 0, []))) := rfl
theorem Mod_feed_63 (d : Nat) (a0 : Nat) (x1 : Int) (x2 : Int) (x3 : Int) (x4 : Int) (x5 : Int) (x6 : Int) (h : Hp) : EX d 18 63 [(0, .inr (.inr a0)), (1, .inl x1), (2, .inl x2), (3, .inl x3), (4, .inl x4), (5, .inl x5), (6, .inl x6)] [] h = if (wr x6) < 16 then EX d 18 70 [(0, .inr (.inr a0)), (1, .inl x1), (2, .inl x2), (3, .inl x3), (4, .inl x4), (5, .inl x5), (6, .inl x6)] [] h else EX d 18 75 [(0, .inr (.inr a0)), (1, .inl x1), (2, .inl x2), (3, .inl x3), (4, .inl x4), (5, .inl x5), (6, .inl x6)] [] h := (EX_at bk_Mod_feed_63 _ _ _).trans rfl
theorem bk_Mod_feed_70 : blk 18 70 = some (((cd_Mod_feed.lookup 70).getD ([], 0, []))) := rfl
theorem Mod_feed_70 (d : Nat) (a0 : Nat) (x1 : Int) (x2 : Int) (x3 : Int) (x4 : Int) (x5 : Int) (x6 : Int) (h : Hp) : EX d 18 70 [(0, .inr (.inr a0)), (1, .inl x1), (2, .inl x2), (3, .inl x3), (4, .inl x4), (5, .inl x5), (6, .inl x6)] [] h = EX d 18 77 [(0, .inr (.inr a0)), (1, .inl x1), (2, .inl x2), (3, .inl x3), (4, .inl x4), (5, .inl x5), (6, .inl x6)] [.inl x4] h := (EX_at bk_Mod_feed_70 _ _ _).trans rfl
theorem bk_Mod_feed_75 : blk 18 75 = some (((cd_Mod_feed.lookup 75).getD ([], 0, []))) := rfl
theorem Mod_feed_75 (d : Nat) (a0 : Nat) (x1 : Int) (x2 : Int) (x3 : Int) (x4 : Int) (x5 : Int) (x6 : Int) (h : Hp) : EX d 18 75 [(0, .inr (.inr a0)), (1, .inl x1), (2, .inl x2), (3, .inl x3), (4, .inl x4), (5, .inl x5), (6, .inl x6)] [] h = EX d 18 77 [(0, .inr (.inr a0)), (1, .inl x1), (2, .inl x2), (3, .inl x3), (4, .inl x4), (5, .inl x5), (6, .inl x6)] [.inl x5] h := (EX_at bk_Mod_feed_75 _ _ _).trans rfl
theorem bk_Mod_feed_77 : blk 18 77 = some (((cd_Mod_feed.lookup 77).getD ([], 0, []))) := rfl
theorem Mod_feed_77 (d : Nat) (a0 : Nat) (x1 : Int) (x2 : Int) (x3 : Int) (x4 : Int) (x5 : Int) (x6 : Int) (s0 : Int) (h : Hp) : EX d 18 77 [(0, .inr (.inr a0)), (1, .inl x1), (2, .inl x2), (3, .inl x3), (4, .inl x4), (5, .inl x5), (6, .inl x6)] [.inl s0] h = if sK h a0 = 11 then if sK h a0 = 11 then if okx h (hR h a0 3) 20 (hI h a0 5) then EX d 18 105 [(0, .inr (.inr a0)), (1, .inl x1), (2, .inl x2), (3, .inl x3), (4, .inl x4), (5, .inl x5), (6, .inl x6)] [] (pI h (hR h a0 3) (ix (hI h a0 5)) (bAnd (bShr s0 (24 - (8 * (bRem x6 4)))) 255)) else none else none else none := (EX_at bk_Mod_feed_77 _ _ _).trans rfl
theorem bk_Mod_feed_105 : blk 18 105 = some (((cd_Mod_feed.lookup 105).getD ([], 0, []))) := rfl
theorem Mod_feed_105 (d : Nat) (a0 : Nat) (x1 : Int) (x2 : Int) (x3 : Int) (x4 : Int) (x5 : Int) (x6 : Int) (h : Hp) : EX d 18 105 [(0, .inr (.inr a0)), (1, .inl x1), (2, .inl x2), (3, .inl x3), (4, .inl x4), (5, .inl x5), (6, .inl x6)] [] h = if sK h a0 = 11 then if sK h a0 = 11 then EX d 18 115 [(0, .inr (.inr a0)), (1, .inl x1), (2, .inl x2), (3, .inl x3), (4, .inl x4), (5, .inl x5), (6, .inl x6)] [] (pI h a0 5 ((hI h a0 5) + 1)) else none else none := (EX_at bk_Mod_feed_105 _ _ _).trans rfl
theorem bk_Mod_feed_115 : blk 18 115 = some (((cd_Mod_feed.lookup 115).getD ([], 0, []))) := rfl
theorem Mod_feed_115 (d : Nat) (a0 : Nat) (x1 : Int) (x2 : Int) (x3 : Int) (x4 : Int) (x5 : Int) (x6 : Int) (h : Hp) : EX d 18 115 [(0, .inr (.inr a0)), (1, .inl x1), (2, .inl x2), (3, .inl x3), (4, .inl x4), (5, .inl x5), (6, .inl x6)] [] h = EX d 18 24 [(0, .inr (.inr a0)), (1, .inl x1), (2, .inl x2), (3, .inl x3), (4, .inl x4), (5, .inl x5), (6, .inl (x6 + 1))] [] h := (EX_at bk_Mod_feed_115 _ _ _).trans rfl
theorem bk_Mod_feed_121 : blk 18 121 = some (((cd_Mod_feed.lookup 121).getD ([], 0, []))) := rfl
theorem Mod_feed_121 (d : Nat) (a0 : Nat) (h : Hp) : EX d 18 121 [(0, .inr (.inr a0))] [] h = if sK h a0 = 11 then some (.inl (hI h a0 5), h) else none := (EX_at bk_Mod_feed_121 _ _ _).trans rfl
/-! within(JJJ)Z of HookOverModel: method 73 -/
theorem bk_Mod_within_0 : blk 73 0 = some (((cd_Mod_within.lookup 0).getD ([], 0, []))) := rfl
theorem Mod_within_0 (d : Nat) (y0 : Int) (y2 : Int) (y4 : Int) (h : Hp) : EX d 73 0 [(0, .inr (.inl y0)), (2, .inr (.inl y2)), (4, .inr (.inl y4))] [] h = if (wr (lCmp y0 y2)) < 0 then EX d 73 17 [] [] h else EX d 73 6 [(0, .inr (.inl y0)), (4, .inr (.inl y4))] [] h := (EX_at bk_Mod_within_0 _ _ _).trans rfl
theorem bk_Mod_within_6 : blk 73 6 = some (((cd_Mod_within.lookup 6).getD ([], 0, []))) := rfl
theorem Mod_within_6 (d : Nat) (y0 : Int) (y4 : Int) (h : Hp) : EX d 73 6 [(0, .inr (.inl y0)), (4, .inr (.inl y4))] [] h = if 0 < (wr (lCmp y0 y4)) then EX d 73 17 [] [] h else EX d 73 13 [] [] h := (EX_at bk_Mod_within_6 _ _ _).trans rfl
theorem bk_Mod_within_13 : blk 73 13 = some (((cd_Mod_within.lookup 13).getD ([], 0, []))) := rfl
theorem Mod_within_13 (d : Nat) (h : Hp) : EX d 73 13 [] [] h = EX d 73 18 [] [.inl 1] h := (EX_at bk_Mod_within_13 _ _ _).trans rfl
theorem bk_Mod_within_17 : blk 73 17 = some (((cd_Mod_within.lookup 17).getD ([], 0, []))) := rfl
theorem Mod_within_17 (d : Nat) (h : Hp) : EX d 73 17 [] [] h = EX d 73 18 [] [.inl 0] h := (EX_at bk_Mod_within_17 _ _ _).trans rfl
theorem bk_Mod_within_18 : blk 73 18 = some (((cd_Mod_within.lookup 18).getD ([], 0, []))) := rfl
theorem Mod_within_18 (d : Nat) (s0 : Int) (h : Hp) : EX d 73 18 [] [.inl s0] h = if ((s0 : Int) = 0 ∨ (s0 : Int) = 1) then some (.inl s0, h) else none := (EX_at bk_Mod_within_18 _ _ _).trans rfl
/-! see(I)I of HookOverModel: method 74 -/
theorem bk_Mod_see_0 : blk 74 0 = some (((cd_Mod_see.lookup 0).getD ([], 0, []))) := rfl
theorem Mod_see_0 (d : Nat) (a0 : Nat) (x1 : Int) (h : Hp) : EX d 74 0 [(0, .inr (.inr a0)), (1, .inl x1)] [] h = if sK h a0 = 11 then if (wr x1) < (wr (hI h a0 8)) then EX d 74 8 [(0, .inr (.inr a0)), (1, .inl x1)] [] h else EX d 74 17 [] [] h else none := (EX_at bk_Mod_see_0 _ _ _).trans rfl
theorem bk_Mod_see_8 : blk 74 8 = some (((cd_Mod_see.lookup 8).getD ([], 0, []))) := rfl
theorem Mod_see_8 (d : Nat) (a0 : Nat) (x1 : Int) (h : Hp) : EX d 74 8 [(0, .inr (.inr a0)), (1, .inl x1)] [] h = if sK h a0 = 11 then if okx h (hR h a0 3) 20 x1 then EX d 74 18 [] [.inl (hI h (hR h a0 3) (ix x1))] h else none else none := (EX_at bk_Mod_see_8 _ _ _).trans rfl
theorem bk_Mod_see_17 : blk 74 17 = some (((cd_Mod_see.lookup 17).getD ([], 0, []))) := rfl
theorem Mod_see_17 (d : Nat) (h : Hp) : EX d 74 17 [] [] h = EX d 74 18 [] [.inl (-1)] h := (EX_at bk_Mod_see_17 _ _ _).trans rfl
theorem bk_Mod_see_18 : blk 74 18 = some (((cd_Mod_see.lookup 18).getD ([], 0, []))) := rfl
theorem Mod_see_18 (d : Nat) (s0 : Int) (h : Hp) : EX d 74 18 [] [.inl s0] h = some (.inl s0, h) := (EX_at bk_Mod_see_18 _ _ _).trans rfl
/-! isSmall(I)Z of HookOverModel: method 75 -/
theorem bk_Mod_isSmall_0 : blk 75 0 = some (((cd_Mod_isSmall.lookup 0).getD ([], 0, []))) := rfl
theorem Mod_isSmall_0 (d : Nat) (x0 : Int) (h : Hp) : EX d 75 0 [(0, .inl x0)] [] h = if (wr x0) < 97 then EX d 75 16 [] [] h else EX d 75 6 [(0, .inl x0)] [] h := (EX_at bk_Mod_isSmall_0 _ _ _).trans rfl
theorem bk_Mod_isSmall_6 : blk 75 6 = some (((cd_Mod_isSmall.lookup 6).getD ([], 0, []))) := rfl
theorem Mod_isSmall_6 (d : Nat) (x0 : Int) (h : Hp) : EX d 75 6 [(0, .inl x0)] [] h = if 122 < (wr x0) then EX d 75 16 [] [] h else EX d 75 12 [] [] h := (EX_at bk_Mod_isSmall_6 _ _ _).trans rfl
theorem bk_Mod_isSmall_12 : blk 75 12 = some (((cd_Mod_isSmall.lookup 12).getD ([], 0, []))) := rfl
theorem Mod_isSmall_12 (d : Nat) (h : Hp) : EX d 75 12 [] [] h = EX d 75 17 [] [.inl 1] h := (EX_at bk_Mod_isSmall_12 _ _ _).trans rfl
theorem bk_Mod_isSmall_16 : blk 75 16 = some (((cd_Mod_isSmall.lookup 16).getD ([], 0, []))) := rfl
theorem Mod_isSmall_16 (d : Nat) (h : Hp) : EX d 75 16 [] [] h = EX d 75 17 [] [.inl 0] h := (EX_at bk_Mod_isSmall_16 _ _ _).trans rfl
theorem bk_Mod_isSmall_17 : blk 75 17 = some (((cd_Mod_isSmall.lookup 17).getD ([], 0, []))) := rfl
theorem Mod_isSmall_17 (d : Nat) (s0 : Int) (h : Hp) : EX d 75 17 [] [.inl s0] h = if ((s0 : Int) = 0 ∨ (s0 : Int) = 1) then some (.inl s0, h) else none := (EX_at bk_Mod_isSmall_17 _ _ _).trans rfl
/-! keyAt()I of HookOverModel: method 76 -/
theorem bk_Mod_keyAt_0 : blk 76 0 = some (((cd_Mod_keyAt.lookup 0).getD ([], 0, []))) := rfl
theorem Mod_keyAt_0 (d : Nat) (a0 : Nat) (h : Hp) : EX d 76 0 [(0, .inr (.inr a0))] [] h = EX d 76 4 [(0, .inr (.inr a0)), (1, .inl 0), (2, .inl 1)] [] h := (EX_at bk_Mod_keyAt_0 _ _ _).trans rfl
theorem bk_Mod_keyAt_4 : blk 76 4 = some (((cd_Mod_keyAt.lookup 4).getD ([], 0, []))) := rfl
theorem Mod_keyAt_4 (d : Nat) (a0 : Nat) (x1 : Int) (x2 : Int) (h : Hp) : EX d 76 4 [(0, .inr (.inr a0)), (1, .inl x1), (2, .inl x2)] [] h = if (sK h 4 = 40 ∧ catS [.inl x2] ≤ 8) then if (wr x2) < (wr (sL h 4)) then EX d 76 13 [(0, .inr (.inr a0)), (1, .inl x1), (2, .inl x2)] [] h else EX d 76 123 [] [] h else none := (EX_at bk_Mod_keyAt_4 _ _ _).trans rfl
theorem bk_Mod_keyAt_13 : blk 76 13 = some (((cd_Mod_keyAt.lookup 13).getD ([], 0, []))) := rfl
theorem Mod_keyAt_13 (d : Nat) (a0 : Nat) (x1 : Int) (x2 : Int) (h : Hp) : EX d 76 13 [(0, .inr (.inr a0)), (1, .inl x1), (2, .inl x2)] [] h = EX d 76 15 [(0, .inr (.inr a0)), (1, .inl x1), (2, .inl x2), (3, .inl 0)] [] h := (EX_at bk_Mod_keyAt_13 _ _ _).trans rfl
theorem bk_Mod_keyAt_15 : blk 76 15 = some (((cd_Mod_keyAt.lookup 15).getD ([], 0, []))) := rfl
theorem Mod_keyAt_15 (d : Nat) (a0 : Nat) (x1 : Int) (x2 : Int) (x3 : Int) (h : Hp) : EX d 76 15 [(0, .inr (.inr a0)), (1, .inl x1), (2, .inl x2), (3, .inl x3)] [] h = if (okx h 4 40 (x2 + x3) ∧ catS [] ≤ 8) then if (wr (hI h 4 (ix (x2 + x3)))) = 32 then EX d 76 69 [(0, .inr (.inr a0)), (1, .inl x1), (2, .inl x2), (3, .inl x3)] [] h else EX d 76 28 [(0, .inr (.inr a0)), (1, .inl x1), (2, .inl x2), (3, .inl x3)] [] h else none := (EX_at bk_Mod_keyAt_15 _ _ _).trans rfl
theorem bk_Mod_keyAt_28 : blk 76 28 = some (((cd_Mod_keyAt.lookup 28).getD ([], 0, []))) := rfl
theorem Mod_keyAt_28 (d : Nat) (a0 : Nat) (x1 : Int) (x2 : Int) (x3 : Int) (h : Hp) : EX d 76 28 [(0, .inr (.inr a0)), (1, .inl x1), (2, .inl x2), (3, .inl x3)] [] h = if sK h a0 = 11 then if sK h a0 = 11 then if (wr ((hI h a0 6) + x3)) < (wr (hI h a0 7)) then EX d 76 41 [(0, .inr (.inr a0)), (1, .inl x1), (2, .inl x2), (3, .inl x3)] [] h else EX d 76 69 [(0, .inr (.inr a0)), (1, .inl x1), (2, .inl x2), (3, .inl x3)] [] h else none else none := (EX_at bk_Mod_keyAt_28 _ _ _).trans rfl
theorem bk_Mod_keyAt_41 : blk 76 41 = some (((cd_Mod_keyAt.lookup 41).getD ([], 0, []))) := rfl
theorem Mod_keyAt_41 (d : Nat) (a0 : Nat) (x1 : Int) (x2 : Int) (x3 : Int) (h : Hp) : EX d 76 41 [(0, .inr (.inr a0)), (1, .inl x1), (2, .inl x2), (3, .inl x3)] [] h = if sK h a0 = 11 then if sK h a0 = 11 then if okx h (hR h a0 3) 20 ((hI h a0 6) + x3) then if (okx h 4 40 (x2 + x3) ∧ catS [.inl (hI h (hR h a0 3) (ix ((hI h a0 6) + x3)))] ≤ 8) then if (wr (hI h (hR h a0 3) (ix ((hI h a0 6) + x3)))) = (wr (hI h 4 (ix (x2 + x3)))) then EX d 76 63 [(0, .inr (.inr a0)), (1, .inl x1), (2, .inl x2), (3, .inl x3)] [] h else EX d 76 69 [(0, .inr (.inr a0)), (1, .inl x1), (2, .inl x2), (3, .inl x3)] [] h else none else none else none else none := (EX_at bk_Mod_keyAt_41 _ _ _).trans rfl
theorem bk_Mod_keyAt_63 : blk 76 63 = some (((cd_Mod_keyAt.lookup 63).getD ([], 0, []))) := rfl
theorem Mod_keyAt_63 (d : Nat) (a0 : Nat) (x1 : Int) (x2 : Int) (x3 : Int) (h : Hp) : EX d 76 63 [(0, .inr (.inr a0)), (1, .inl x1), (2, .inl x2), (3, .inl x3)] [] h = EX d 76 15 [(0, .inr (.inr a0)), (1, .inl x1), (2, .inl x2), (3, .inl (x3 + 1))] [] h := (EX_at bk_Mod_keyAt_63 _ _ _).trans rfl
theorem bk_Mod_keyAt_69 : blk 76 69 = some (((cd_Mod_keyAt.lookup 69).getD ([], 0, []))) := rfl
theorem Mod_keyAt_69 (d : Nat) (a0 : Nat) (x1 : Int) (x2 : Int) (x3 : Int) (h : Hp) : EX d 76 69 [(0, .inr (.inr a0)), (1, .inl x1), (2, .inl x2), (3, .inl x3)] [] h = if (okx h 4 40 (x2 + x3) ∧ catS [] ≤ 8) then if (wr (hI h 4 (ix (x2 + x3)))) = 32 then EX d 76 82 [(0, .inr (.inr a0)), (1, .inl x1), (2, .inl x2), (3, .inl x3)] [] h else EX d 76 97 [(0, .inr (.inr a0)), (1, .inl x1), (2, .inl x2)] [] h else none := (EX_at bk_Mod_keyAt_69 _ _ _).trans rfl
theorem bk_Mod_keyAt_82 : blk 76 82 = some (((cd_Mod_keyAt.lookup 82).getD ([], 0, []))) := rfl
theorem Mod_keyAt_82 (d : Nat) (a0 : Nat) (x1 : Int) (x2 : Int) (x3 : Int) (h : Hp) : EX d 76 82 [(0, .inr (.inr a0)), (1, .inl x1), (2, .inl x2), (3, .inl x3)] [] h = if sK h a0 = 11 then if sK h a0 = 11 then if (wr ((hI h a0 6) + x3)) = (wr (hI h a0 7)) then EX d 76 95 [(1, .inl x1)] [] h else EX d 76 97 [(0, .inr (.inr a0)), (1, .inl x1), (2, .inl x2)] [] h else none else none := (EX_at bk_Mod_keyAt_82 _ _ _).trans rfl
theorem bk_Mod_keyAt_95 : blk 76 95 = some (((cd_Mod_keyAt.lookup 95).getD ([], 0, []))) := rfl
theorem Mod_keyAt_95 (d : Nat) (x1 : Int) (h : Hp) : EX d 76 95 [(1, .inl x1)] [] h = some (.inl x1, h) := (EX_at bk_Mod_keyAt_95 _ _ _).trans rfl
theorem bk_Mod_keyAt_97 : blk 76 97 = some (((cd_Mod_keyAt.lookup 97).getD ([], 0, []))) := rfl
theorem Mod_keyAt_97 (d : Nat) (a0 : Nat) (x1 : Int) (x2 : Int) (h : Hp) : EX d 76 97 [(0, .inr (.inr a0)), (1, .inl x1), (2, .inl x2)] [] h = if (okx h 4 40 x2 ∧ catS [] ≤ 8) then if (wr (hI h 4 (ix x2))) = 32 then EX d 76 114 [(0, .inr (.inr a0)), (1, .inl x1), (2, .inl x2)] [] h else EX d 76 108 [(0, .inr (.inr a0)), (1, .inl x1), (2, .inl x2)] [] h else none := (EX_at bk_Mod_keyAt_97 _ _ _).trans rfl
theorem bk_Mod_keyAt_108 : blk 76 108 = some (((cd_Mod_keyAt.lookup 108).getD ([], 0, []))) := rfl
theorem Mod_keyAt_108 (d : Nat) (a0 : Nat) (x1 : Int) (x2 : Int) (h : Hp) : EX d 76 108 [(0, .inr (.inr a0)), (1, .inl x1), (2, .inl x2)] [] h = EX d 76 97 [(0, .inr (.inr a0)), (1, .inl x1), (2, .inl (x2 + 1))] [] h := (EX_at bk_Mod_keyAt_108 _ _ _).trans rfl
theorem bk_Mod_keyAt_114 : blk 76 114 = some (((cd_Mod_keyAt.lookup 114).getD ([], 0, []))) := rfl
theorem Mod_keyAt_114 (d : Nat) (a0 : Nat) (x1 : Int) (x2 : Int) (h : Hp) : EX d 76 114 [(0, .inr (.inr a0)), (1, .inl x1), (2, .inl x2)] [] h = EX d 76 4 [(0, .inr (.inr a0)), (1, .inl (x1 + 1)), (2, .inl (x2 + 1))] [] h := (EX_at bk_Mod_keyAt_114 _ _ _).trans rfl
theorem bk_Mod_keyAt_123 : blk 76 123 = some (((cd_Mod_keyAt.lookup 123).getD ([], 0, []))) := rfl
theorem Mod_keyAt_123 (d : Nat) (h : Hp) : EX d 76 123 [] [] h = some (.inl 20, h) := (EX_at bk_Mod_keyAt_123 _ _ _).trans rfl
/-! isDigit(I)Z of HookOverModel: method 77 -/
theorem bk_Mod_isDigit_0 : blk 77 0 = some (((cd_Mod_isDigit.lookup 0).getD ([], 0, []))) := rfl
theorem Mod_isDigit_0 (d : Nat) (x0 : Int) (h : Hp) : EX d 77 0 [(0, .inl x0)] [] h = if (wr x0) < 48 then EX d 77 16 [] [] h else EX d 77 6 [(0, .inl x0)] [] h := (EX_at bk_Mod_isDigit_0 _ _ _).trans rfl
theorem bk_Mod_isDigit_6 : blk 77 6 = some (((cd_Mod_isDigit.lookup 6).getD ([], 0, []))) := rfl
theorem Mod_isDigit_6 (d : Nat) (x0 : Int) (h : Hp) : EX d 77 6 [(0, .inl x0)] [] h = if 57 < (wr x0) then EX d 77 16 [] [] h else EX d 77 12 [] [] h := (EX_at bk_Mod_isDigit_6 _ _ _).trans rfl
theorem bk_Mod_isDigit_12 : blk 77 12 = some (((cd_Mod_isDigit.lookup 12).getD ([], 0, []))) := rfl
theorem Mod_isDigit_12 (d : Nat) (h : Hp) : EX d 77 12 [] [] h = EX d 77 17 [] [.inl 1] h := (EX_at bk_Mod_isDigit_12 _ _ _).trans rfl
theorem bk_Mod_isDigit_16 : blk 77 16 = some (((cd_Mod_isDigit.lookup 16).getD ([], 0, []))) := rfl
theorem Mod_isDigit_16 (d : Nat) (h : Hp) : EX d 77 16 [] [] h = EX d 77 17 [] [.inl 0] h := (EX_at bk_Mod_isDigit_16 _ _ _).trans rfl
theorem bk_Mod_isDigit_17 : blk 77 17 = some (((cd_Mod_isDigit.lookup 17).getD ([], 0, []))) := rfl
theorem Mod_isDigit_17 (d : Nat) (s0 : Int) (h : Hp) : EX d 77 17 [] [.inl s0] h = if ((s0 : Int) = 0 ∨ (s0 : Int) = 1) then some (.inl s0, h) else none := (EX_at bk_Mod_isDigit_17 _ _ _).trans rfl
/-! next()V of HookOverModel: method 78 -/
theorem bk_Mod_next_0 : blk 78 0 = some (((cd_Mod_next.lookup 0).getD ([], 0, []))) := rfl
theorem Mod_next_0 (d : Nat) (a0 : Nat) (h : Hp) : EX d 78 0 [(0, .inr (.inr a0))] [] h = if sK h a0 = 11 then if sK h a0 = 11 then EX d 78 8 [(0, .inr (.inr a0))] [] (pI h a0 6 (hI h a0 7)) else none else none := (EX_at bk_Mod_next_0 _ _ _).trans rfl
theorem bk_Mod_next_8 : blk 78 8 = some (((cd_Mod_next.lookup 8).getD ([], 0, []))) := rfl
theorem Mod_next_8 (d : Nat) (a0 : Nat) (h : Hp) : EX d 78 8 [(0, .inr (.inr a0))] [] h = if sK h a0 = 11 then if sK h a0 = 11 then bak (EX d 78) 16 [(0, .inr (.inr a0))] [] false (cal d 74 [.inr (.inr a0), .inl (hI h a0 6)] h) else none else none := (EX_at bk_Mod_next_8 _ _ _).trans rfl
theorem bk_Mod_next_16 : blk 78 16 = some (((cd_Mod_next.lookup 16).getD ([], 0, []))) := rfl
theorem Mod_next_16 (d : Nat) (a0 : Nat) (s0 : Int) (h : Hp) : EX d 78 16 [(0, .inr (.inr a0))] [.inl s0] h = if (wr s0) = 10 then EX d 78 34 [(0, .inr (.inr a0))] [] h else EX d 78 21 [(0, .inr (.inr a0))] [] h := (EX_at bk_Mod_next_16 _ _ _).trans rfl
theorem bk_Mod_next_21 : blk 78 21 = some (((cd_Mod_next.lookup 21).getD ([], 0, []))) := rfl
theorem Mod_next_21 (d : Nat) (a0 : Nat) (h : Hp) : EX d 78 21 [(0, .inr (.inr a0))] [] h = if sK h a0 = 11 then if sK h a0 = 11 then bak (EX d 78) 29 [(0, .inr (.inr a0))] [] false (cal d 74 [.inr (.inr a0), .inl (hI h a0 6)] h) else none else none := (EX_at bk_Mod_next_21 _ _ _).trans rfl
theorem bk_Mod_next_29 : blk 78 29 = some (((cd_Mod_next.lookup 29).getD ([], 0, []))) := rfl
theorem Mod_next_29 (d : Nat) (a0 : Nat) (s0 : Int) (h : Hp) : EX d 78 29 [(0, .inr (.inr a0))] [.inl s0] h = if (wr s0) = 32 then EX d 78 34 [(0, .inr (.inr a0))] [] h else EX d 78 47 [(0, .inr (.inr a0))] [] h := (EX_at bk_Mod_next_29 _ _ _).trans rfl
theorem bk_Mod_next_34 : blk 78 34 = some (((cd_Mod_next.lookup 34).getD ([], 0, []))) := rfl
theorem Mod_next_34 (d : Nat) (a0 : Nat) (h : Hp) : EX d 78 34 [(0, .inr (.inr a0))] [] h = if sK h a0 = 11 then if sK h a0 = 11 then EX d 78 44 [(0, .inr (.inr a0))] [] (pI h a0 6 ((hI h a0 6) + 1)) else none else none := (EX_at bk_Mod_next_34 _ _ _).trans rfl
theorem bk_Mod_next_44 : blk 78 44 = some (((cd_Mod_next.lookup 44).getD ([], 0, []))) := rfl
theorem Mod_next_44 (d : Nat) (a0 : Nat) (h : Hp) : EX d 78 44 [(0, .inr (.inr a0))] [] h = EX d 78 8 [(0, .inr (.inr a0))] [] h := (EX_at bk_Mod_next_44 _ _ _).trans rfl
theorem bk_Mod_next_47 : blk 78 47 = some (((cd_Mod_next.lookup 47).getD ([], 0, []))) := rfl
theorem Mod_next_47 (d : Nat) (a0 : Nat) (h : Hp) : EX d 78 47 [(0, .inr (.inr a0))] [] h = if sK h a0 = 11 then if sK h a0 = 11 then EX d 78 55 [(0, .inr (.inr a0))] [] (pI h a0 7 (hI h a0 6)) else none else none := (EX_at bk_Mod_next_47 _ _ _).trans rfl
theorem bk_Mod_next_55 : blk 78 55 = some (((cd_Mod_next.lookup 55).getD ([], 0, []))) := rfl
theorem Mod_next_55 (d : Nat) (a0 : Nat) (h : Hp) : EX d 78 55 [(0, .inr (.inr a0))] [] h = if sK h a0 = 11 then if sK h a0 = 11 then if (wr (hI h a0 6)) < (wr (hI h a0 8)) then EX d 78 75 [(0, .inr (.inr a0))] [] h else EX d 78 66 [(0, .inr (.inr a0))] [] h else none else none := (EX_at bk_Mod_next_55 _ _ _).trans rfl
theorem bk_Mod_next_66 : blk 78 66 = some (((cd_Mod_next.lookup 66).getD ([], 0, []))) := rfl
theorem Mod_next_66 (d : Nat) (a0 : Nat) (h : Hp) : EX d 78 66 [(0, .inr (.inr a0))] [] h = if sK h a0 = 11 then EX d 78 72 [] [] (pI h a0 9 22) else none := (EX_at bk_Mod_next_66 _ _ _).trans rfl
theorem bk_Mod_next_72 : blk 78 72 = some (((cd_Mod_next.lookup 72).getD ([], 0, []))) := rfl
theorem Mod_next_72 (d : Nat) (h : Hp) : EX d 78 72 [] [] h = EX d 78 294 [] [] h := (EX_at bk_Mod_next_72 _ _ _).trans rfl
theorem bk_Mod_next_75 : blk 78 75 = some (((cd_Mod_next.lookup 75).getD ([], 0, []))) := rfl
theorem Mod_next_75 (d : Nat) (a0 : Nat) (h : Hp) : EX d 78 75 [(0, .inr (.inr a0))] [] h = if sK h a0 = 11 then if sK h a0 = 11 then bak (EX d 78) 83 [(0, .inr (.inr a0))] [] false (cal d 74 [.inr (.inr a0), .inl (hI h a0 6)] h) else none else none := (EX_at bk_Mod_next_75 _ _ _).trans rfl
theorem bk_Mod_next_83 : blk 78 83 = some (((cd_Mod_next.lookup 83).getD ([], 0, []))) := rfl
theorem Mod_next_83 (d : Nat) (a0 : Nat) (s0 : Int) (h : Hp) : EX d 78 83 [(0, .inr (.inr a0))] [.inl s0] h = bak (EX d 78) 86 [(0, .inr (.inr a0))] [] false (cal d 75 [.inl s0] h) := (EX_at bk_Mod_next_83 _ _ _).trans rfl
theorem bk_Mod_next_86 : blk 78 86 = some (((cd_Mod_next.lookup 86).getD ([], 0, []))) := rfl
theorem Mod_next_86 (d : Nat) (a0 : Nat) (s0 : Int) (h : Hp) : EX d 78 86 [(0, .inr (.inr a0))] [.inl s0] h = if (wr s0) = 0 then EX d 78 127 [(0, .inr (.inr a0))] [] h else EX d 78 89 [(0, .inr (.inr a0))] [] h := (EX_at bk_Mod_next_86 _ _ _).trans rfl
theorem bk_Mod_next_89 : blk 78 89 = some (((cd_Mod_next.lookup 89).getD ([], 0, []))) := rfl
theorem Mod_next_89 (d : Nat) (a0 : Nat) (h : Hp) : EX d 78 89 [(0, .inr (.inr a0))] [] h = if sK h a0 = 11 then if sK h a0 = 11 then bak (EX d 78) 97 [(0, .inr (.inr a0))] [] false (cal d 74 [.inr (.inr a0), .inl (hI h a0 7)] h) else none else none := (EX_at bk_Mod_next_89 _ _ _).trans rfl
theorem bk_Mod_next_97 : blk 78 97 = some (((cd_Mod_next.lookup 97).getD ([], 0, []))) := rfl
theorem Mod_next_97 (d : Nat) (a0 : Nat) (s0 : Int) (h : Hp) : EX d 78 97 [(0, .inr (.inr a0))] [.inl s0] h = bak (EX d 78) 100 [(0, .inr (.inr a0))] [] false (cal d 75 [.inl s0] h) := (EX_at bk_Mod_next_97 _ _ _).trans rfl
theorem bk_Mod_next_100 : blk 78 100 = some (((cd_Mod_next.lookup 100).getD ([], 0, []))) := rfl
theorem Mod_next_100 (d : Nat) (a0 : Nat) (s0 : Int) (h : Hp) : EX d 78 100 [(0, .inr (.inr a0))] [.inl s0] h = if (wr s0) = 0 then EX d 78 116 [(0, .inr (.inr a0))] [] h else EX d 78 103 [(0, .inr (.inr a0))] [] h := (EX_at bk_Mod_next_100 _ _ _).trans rfl
theorem bk_Mod_next_103 : blk 78 103 = some (((cd_Mod_next.lookup 103).getD ([], 0, []))) := rfl
theorem Mod_next_103 (d : Nat) (a0 : Nat) (h : Hp) : EX d 78 103 [(0, .inr (.inr a0))] [] h = if sK h a0 = 11 then if sK h a0 = 11 then EX d 78 113 [(0, .inr (.inr a0))] [] (pI h a0 7 ((hI h a0 7) + 1)) else none else none := (EX_at bk_Mod_next_103 _ _ _).trans rfl
theorem bk_Mod_next_113 : blk 78 113 = some (((cd_Mod_next.lookup 113).getD ([], 0, []))) := rfl
theorem Mod_next_113 (d : Nat) (a0 : Nat) (h : Hp) : EX d 78 113 [(0, .inr (.inr a0))] [] h = EX d 78 89 [(0, .inr (.inr a0))] [] h := (EX_at bk_Mod_next_113 _ _ _).trans rfl
theorem bk_Mod_next_116 : blk 78 116 = some (((cd_Mod_next.lookup 116).getD ([], 0, []))) := rfl
theorem Mod_next_116 (d : Nat) (a0 : Nat) (h : Hp) : EX d 78 116 [(0, .inr (.inr a0))] [] h = if sK h a0 = 11 then bak (EX d 78) 121 [] [.inr (.inr a0)] false (cal d 76 [.inr (.inr a0)] h) else none := (EX_at bk_Mod_next_116 _ _ _).trans rfl
theorem bk_Mod_next_121 : blk 78 121 = some (((cd_Mod_next.lookup 121).getD ([], 0, []))) := rfl
theorem Mod_next_121 (d : Nat) (r0 : Nat) (s1 : Int) (h : Hp) : EX d 78 121 [] [.inl s1, .inr (.inr r0)] h = if sK h r0 = 11 then EX d 78 124 [] [] (pI h r0 9 s1) else none := (EX_at bk_Mod_next_121 _ _ _).trans rfl
theorem bk_Mod_next_124 : blk 78 124 = some (((cd_Mod_next.lookup 124).getD ([], 0, []))) := rfl
theorem Mod_next_124 (d : Nat) (h : Hp) : EX d 78 124 [] [] h = EX d 78 294 [] [] h := (EX_at bk_Mod_next_124 _ _ _).trans rfl
theorem bk_Mod_next_127 : blk 78 127 = some (((cd_Mod_next.lookup 127).getD ([], 0, []))) := rfl
theorem Mod_next_127 (d : Nat) (a0 : Nat) (h : Hp) : EX d 78 127 [(0, .inr (.inr a0))] [] h = if sK h a0 = 11 then if sK h a0 = 11 then bak (EX d 78) 135 [(0, .inr (.inr a0))] [] false (cal d 74 [.inr (.inr a0), .inl (hI h a0 6)] h) else none else none := (EX_at bk_Mod_next_127 _ _ _).trans rfl
theorem bk_Mod_next_135 : blk 78 135 = some (((cd_Mod_next.lookup 135).getD ([], 0, []))) := rfl
theorem Mod_next_135 (d : Nat) (a0 : Nat) (s0 : Int) (h : Hp) : EX d 78 135 [(0, .inr (.inr a0))] [.inl s0] h = bak (EX d 78) 138 [(0, .inr (.inr a0))] [] false (cal d 77 [.inl s0] h) := (EX_at bk_Mod_next_135 _ _ _).trans rfl
theorem bk_Mod_next_138 : blk 78 138 = some (((cd_Mod_next.lookup 138).getD ([], 0, []))) := rfl
theorem Mod_next_138 (d : Nat) (a0 : Nat) (s0 : Int) (h : Hp) : EX d 78 138 [(0, .inr (.inr a0))] [.inl s0] h = if (wr s0) = 0 then EX d 78 236 [(0, .inr (.inr a0))] [] h else EX d 78 141 [(0, .inr (.inr a0))] [] h := (EX_at bk_Mod_next_138 _ _ _).trans rfl
theorem bk_Mod_next_141 : blk 78 141 = some (((cd_Mod_next.lookup 141).getD ([], 0, []))) := rfl
theorem Mod_next_141 (d : Nat) (a0 : Nat) (h : Hp) : EX d 78 141 [(0, .inr (.inr a0))] [] h = if sK h a0 = 11 then EX d 78 146 [(0, .inr (.inr a0))] [] (pI h a0 10 0) else none := (EX_at bk_Mod_next_141 _ _ _).trans rfl
theorem bk_Mod_next_146 : blk 78 146 = some (((cd_Mod_next.lookup 146).getD ([], 0, []))) := rfl
theorem Mod_next_146 (d : Nat) (a0 : Nat) (h : Hp) : EX d 78 146 [(0, .inr (.inr a0))] [] h = if sK h a0 = 11 then if sK h a0 = 11 then bak (EX d 78) 154 [(0, .inr (.inr a0))] [] false (cal d 74 [.inr (.inr a0), .inl (hI h a0 7)] h) else none else none := (EX_at bk_Mod_next_146 _ _ _).trans rfl
theorem bk_Mod_next_154 : blk 78 154 = some (((cd_Mod_next.lookup 154).getD ([], 0, []))) := rfl
theorem Mod_next_154 (d : Nat) (a0 : Nat) (s0 : Int) (h : Hp) : EX d 78 154 [(0, .inr (.inr a0))] [.inl s0] h = bak (EX d 78) 157 [(0, .inr (.inr a0))] [] false (cal d 77 [.inl s0] h) := (EX_at bk_Mod_next_154 _ _ _).trans rfl
theorem bk_Mod_next_157 : blk 78 157 = some (((cd_Mod_next.lookup 157).getD ([], 0, []))) := rfl
theorem Mod_next_157 (d : Nat) (a0 : Nat) (s0 : Int) (h : Hp) : EX d 78 157 [(0, .inr (.inr a0))] [.inl s0] h = if (wr s0) = 0 then EX d 78 209 [(0, .inr (.inr a0))] [] h else EX d 78 160 [(0, .inr (.inr a0))] [] h := (EX_at bk_Mod_next_157 _ _ _).trans rfl
theorem bk_Mod_next_160 : blk 78 160 = some (((cd_Mod_next.lookup 160).getD ([], 0, []))) := rfl
theorem Mod_next_160 (d : Nat) (a0 : Nat) (h : Hp) : EX d 78 160 [(0, .inr (.inr a0))] [] h = if sK h a0 = 11 then if sK h a0 = 11 then if (wr ((hI h a0 7) - (hI h a0 6))) < 3 then EX d 78 173 [(0, .inr (.inr a0))] [] h else EX d 78 196 [(0, .inr (.inr a0))] [] h else none else none := (EX_at bk_Mod_next_160 _ _ _).trans rfl
theorem bk_Mod_next_173 : blk 78 173 = some (((cd_Mod_next.lookup 173).getD ([], 0, []))) := rfl
theorem Mod_next_173 (d : Nat) (a0 : Nat) (h : Hp) : EX d 78 173 [(0, .inr (.inr a0))] [] h = if sK h a0 = 11 then if sK h a0 = 11 then if sK h a0 = 11 then bak (EX d 78) 189 [(0, .inr (.inr a0))] [.inl (10 * (hI h a0 10)), .inr (.inr a0)] false (cal d 74 [.inr (.inr a0), .inl (hI h a0 7)] h) else none else none else none := (EX_at bk_Mod_next_173 _ _ _).trans rfl
theorem bk_Mod_next_189 : blk 78 189 = some (((cd_Mod_next.lookup 189).getD ([], 0, []))) := rfl
theorem Mod_next_189 (d : Nat) (a0 : Nat) (r0 : Nat) (s1 : Int) (s2 : Int) (h : Hp) : EX d 78 189 [(0, .inr (.inr a0))] [.inl s2, .inl s1, .inr (.inr r0)] h = if sK h r0 = 11 then EX d 78 196 [(0, .inr (.inr a0))] [] (pI h r0 10 ((s1 + s2) - 48)) else none := (EX_at bk_Mod_next_189 _ _ _).trans rfl
theorem bk_Mod_next_196 : blk 78 196 = some (((cd_Mod_next.lookup 196).getD ([], 0, []))) := rfl
theorem Mod_next_196 (d : Nat) (a0 : Nat) (h : Hp) : EX d 78 196 [(0, .inr (.inr a0))] [] h = if sK h a0 = 11 then if sK h a0 = 11 then EX d 78 206 [(0, .inr (.inr a0))] [] (pI h a0 7 ((hI h a0 7) + 1)) else none else none := (EX_at bk_Mod_next_196 _ _ _).trans rfl
theorem bk_Mod_next_206 : blk 78 206 = some (((cd_Mod_next.lookup 206).getD ([], 0, []))) := rfl
theorem Mod_next_206 (d : Nat) (a0 : Nat) (h : Hp) : EX d 78 206 [(0, .inr (.inr a0))] [] h = EX d 78 146 [(0, .inr (.inr a0))] [] h := (EX_at bk_Mod_next_206 _ _ _).trans rfl
theorem bk_Mod_next_209 : blk 78 209 = some (((cd_Mod_next.lookup 209).getD ([], 0, []))) := rfl
theorem Mod_next_209 (d : Nat) (a0 : Nat) (h : Hp) : EX d 78 209 [(0, .inr (.inr a0))] [] h = if sK h a0 = 11 then if sK h a0 = 11 then if 3 < (wr ((hI h a0 7) - (hI h a0 6))) then EX d 78 223 [] [.inr (.inr a0)] h else EX d 78 228 [] [.inr (.inr a0)] h else none else none := (EX_at bk_Mod_next_209 _ _ _).trans rfl
theorem bk_Mod_next_223 : blk 78 223 = some (((cd_Mod_next.lookup 223).getD ([], 0, []))) := rfl
theorem Mod_next_223 (d : Nat) (r0 : Nat) (h : Hp) : EX d 78 223 [] [.inr (.inr r0)] h = EX d 78 230 [] [.inl 23, .inr (.inr r0)] h := (EX_at bk_Mod_next_223 _ _ _).trans rfl
theorem bk_Mod_next_228 : blk 78 228 = some (((cd_Mod_next.lookup 228).getD ([], 0, []))) := rfl
theorem Mod_next_228 (d : Nat) (r0 : Nat) (h : Hp) : EX d 78 228 [] [.inr (.inr r0)] h = EX d 78 230 [] [.inl 21, .inr (.inr r0)] h := (EX_at bk_Mod_next_228 _ _ _).trans rfl
theorem bk_Mod_next_230 : blk 78 230 = some (((cd_Mod_next.lookup 230).getD ([], 0, []))) := rfl
theorem Mod_next_230 (d : Nat) (r0 : Nat) (s1 : Int) (h : Hp) : EX d 78 230 [] [.inl s1, .inr (.inr r0)] h = if sK h r0 = 11 then EX d 78 233 [] [] (pI h r0 9 s1) else none := (EX_at bk_Mod_next_230 _ _ _).trans rfl
theorem bk_Mod_next_233 : blk 78 233 = some (((cd_Mod_next.lookup 233).getD ([], 0, []))) := rfl
theorem Mod_next_233 (d : Nat) (h : Hp) : EX d 78 233 [] [] h = EX d 78 294 [] [] h := (EX_at bk_Mod_next_233 _ _ _).trans rfl
theorem bk_Mod_next_236 : blk 78 236 = some (((cd_Mod_next.lookup 236).getD ([], 0, []))) := rfl
theorem Mod_next_236 (d : Nat) (a0 : Nat) (h : Hp) : EX d 78 236 [(0, .inr (.inr a0))] [] h = if sK h a0 = 11 then if sK h a0 = 11 then EX d 78 246 [(0, .inr (.inr a0))] [] (pI h a0 7 ((hI h a0 7) + 1)) else none else none := (EX_at bk_Mod_next_236 _ _ _).trans rfl
theorem bk_Mod_next_246 : blk 78 246 = some (((cd_Mod_next.lookup 246).getD ([], 0, []))) := rfl
theorem Mod_next_246 (d : Nat) (a0 : Nat) (h : Hp) : EX d 78 246 [(0, .inr (.inr a0))] [] h = if sK h a0 = 11 then EX d 78 252 [(0, .inr (.inr a0))] [] (pI h a0 9 23) else none := (EX_at bk_Mod_next_246 _ _ _).trans rfl
theorem bk_Mod_next_252 : blk 78 252 = some (((cd_Mod_next.lookup 252).getD ([], 0, []))) := rfl
theorem Mod_next_252 (d : Nat) (a0 : Nat) (h : Hp) : EX d 78 252 [(0, .inr (.inr a0))] [] h = EX d 78 254 [(0, .inr (.inr a0)), (1, .inl 0)] [] h := (EX_at bk_Mod_next_252 _ _ _).trans rfl
theorem bk_Mod_next_254 : blk 78 254 = some (((cd_Mod_next.lookup 254).getD ([], 0, []))) := rfl
theorem Mod_next_254 (d : Nat) (a0 : Nat) (x1 : Int) (h : Hp) : EX d 78 254 [(0, .inr (.inr a0)), (1, .inl x1)] [] h = if (sK h 3 = 40 ∧ catS [.inl x1] ≤ 8) then if (wr x1) < (wr (sL h 3)) then EX d 78 263 [(0, .inr (.inr a0)), (1, .inl x1)] [] h else EX d 78 294 [] [] h else none := (EX_at bk_Mod_next_254 _ _ _).trans rfl
theorem bk_Mod_next_263 : blk 78 263 = some (((cd_Mod_next.lookup 263).getD ([], 0, []))) := rfl
theorem Mod_next_263 (d : Nat) (a0 : Nat) (x1 : Int) (h : Hp) : EX d 78 263 [(0, .inr (.inr a0)), (1, .inl x1)] [] h = if sK h a0 = 11 then if sK h a0 = 11 then bak (EX d 78) 271 [(0, .inr (.inr a0)), (1, .inl x1)] [] false (cal d 74 [.inr (.inr a0), .inl (hI h a0 6)] h) else none else none := (EX_at bk_Mod_next_263 _ _ _).trans rfl
theorem bk_Mod_next_271 : blk 78 271 = some (((cd_Mod_next.lookup 271).getD ([], 0, []))) := rfl
theorem Mod_next_271 (d : Nat) (a0 : Nat) (x1 : Int) (s0 : Int) (h : Hp) : EX d 78 271 [(0, .inr (.inr a0)), (1, .inl x1)] [.inl s0] h = if (okx h 3 40 x1 ∧ catS [.inl s0] ≤ 8) then if (wr s0) = (wr (hI h 3 (ix x1))) then EX d 78 280 [(0, .inr (.inr a0)), (1, .inl x1)] [] h else EX d 78 288 [(0, .inr (.inr a0)), (1, .inl x1)] [] h else none := (EX_at bk_Mod_next_271 _ _ _).trans rfl
theorem bk_Mod_next_280 : blk 78 280 = some (((cd_Mod_next.lookup 280).getD ([], 0, []))) := rfl
theorem Mod_next_280 (d : Nat) (a0 : Nat) (x1 : Int) (h : Hp) : EX d 78 280 [(0, .inr (.inr a0)), (1, .inl x1)] [] h = if sK h a0 = 11 then EX d 78 288 [(0, .inr (.inr a0)), (1, .inl x1)] [] (pI h a0 9 (25 + x1)) else none := (EX_at bk_Mod_next_280 _ _ _).trans rfl
theorem bk_Mod_next_288 : blk 78 288 = some (((cd_Mod_next.lookup 288).getD ([], 0, []))) := rfl
theorem Mod_next_288 (d : Nat) (a0 : Nat) (x1 : Int) (h : Hp) : EX d 78 288 [(0, .inr (.inr a0)), (1, .inl x1)] [] h = EX d 78 254 [(0, .inr (.inr a0)), (1, .inl (x1 + 1))] [] h := (EX_at bk_Mod_next_288 _ _ _).trans rfl
theorem bk_Mod_next_294 : blk 78 294 = some (((cd_Mod_next.lookup 294).getD ([], 0, []))) := rfl
theorem Mod_next_294 (d : Nat) (h : Hp) : EX d 78 294 [] [] h = some (.inl 0, h) := (EX_at bk_Mod_next_294 _ _ _).trans rfl
/-! is(I)Z of HookOverModel: method 79 -/
theorem bk_Mod_is_0 : blk 79 0 = some (((cd_Mod_is.lookup 0).getD ([], 0, []))) := rfl
theorem Mod_is_0 (d : Nat) (a0 : Nat) (x1 : Int) (h : Hp) : EX d 79 0 [(0, .inr (.inr a0)), (1, .inl x1)] [] h = if sK h a0 = 11 then if (wr (hI h a0 11)) = 0 then EX d 79 7 [(0, .inr (.inr a0)), (1, .inl x1)] [] h else EX d 79 19 [] [] h else none := (EX_at bk_Mod_is_0 _ _ _).trans rfl
theorem bk_Mod_is_7 : blk 79 7 = some (((cd_Mod_is.lookup 7).getD ([], 0, []))) := rfl
theorem Mod_is_7 (d : Nat) (a0 : Nat) (x1 : Int) (h : Hp) : EX d 79 7 [(0, .inr (.inr a0)), (1, .inl x1)] [] h = if sK h a0 = 11 then if (wr (hI h a0 9)) = (wr x1) then EX d 79 15 [] [] h else EX d 79 19 [] [] h else none := (EX_at bk_Mod_is_7 _ _ _).trans rfl
theorem bk_Mod_is_15 : blk 79 15 = some (((cd_Mod_is.lookup 15).getD ([], 0, []))) := rfl
theorem Mod_is_15 (d : Nat) (h : Hp) : EX d 79 15 [] [] h = EX d 79 20 [] [.inl 1] h := (EX_at bk_Mod_is_15 _ _ _).trans rfl
theorem bk_Mod_is_19 : blk 79 19 = some (((cd_Mod_is.lookup 19).getD ([], 0, []))) := rfl
theorem Mod_is_19 (d : Nat) (h : Hp) : EX d 79 19 [] [] h = EX d 79 20 [] [.inl 0] h := (EX_at bk_Mod_is_19 _ _ _).trans rfl
theorem bk_Mod_is_20 : blk 79 20 = some (((cd_Mod_is.lookup 20).getD ([], 0, []))) := rfl
theorem Mod_is_20 (d : Nat) (s0 : Int) (h : Hp) : EX d 79 20 [] [.inl s0] h = if ((s0 : Int) = 0 ∨ (s0 : Int) = 1) then some (.inl s0, h) else none := (EX_at bk_Mod_is_20 _ _ _).trans rfl
/-! fails(I)V of HookOverModel: method 80 -/
theorem bk_Mod_fails_0 : blk 80 0 = some (((cd_Mod_fails.lookup 0).getD ([], 0, []))) := rfl
theorem Mod_fails_0 (d : Nat) (a0 : Nat) (x1 : Int) (h : Hp) : EX d 80 0 [(0, .inr (.inr a0)), (1, .inl x1)] [] h = if sK h a0 = 11 then if (wr (hI h a0 11)) = 0 then EX d 80 8 [(0, .inr (.inr a0)), (1, .inl x1)] [] h else EX d 80 7 [] [] h else none := (EX_at bk_Mod_fails_0 _ _ _).trans rfl
theorem bk_Mod_fails_7 : blk 80 7 = some (((cd_Mod_fails.lookup 7).getD ([], 0, []))) := rfl
theorem Mod_fails_7 (d : Nat) (h : Hp) : EX d 80 7 [] [] h = some (.inl 0, h) := (EX_at bk_Mod_fails_7 _ _ _).trans rfl
theorem bk_Mod_fails_8 : blk 80 8 = some (((cd_Mod_fails.lookup 8).getD ([], 0, []))) := rfl
theorem Mod_fails_8 (d : Nat) (a0 : Nat) (x1 : Int) (h : Hp) : EX d 80 8 [(0, .inr (.inr a0)), (1, .inl x1)] [] h = if sK h a0 = 11 then if (wr (hI h a0 9)) = 23 then EX d 80 18 [(0, .inr (.inr a0))] [.inr (.inr a0)] h else EX d 80 22 [(0, .inr (.inr a0)), (1, .inl x1)] [.inr (.inr a0)] h else none := (EX_at bk_Mod_fails_8 _ _ _).trans rfl
theorem bk_Mod_fails_18 : blk 80 18 = some (((cd_Mod_fails.lookup 18).getD ([], 0, []))) := rfl
theorem Mod_fails_18 (d : Nat) (a0 : Nat) (r0 : Nat) (h : Hp) : EX d 80 18 [(0, .inr (.inr a0))] [.inr (.inr r0)] h = EX d 80 23 [(0, .inr (.inr a0))] [.inl 1, .inr (.inr r0)] h := (EX_at bk_Mod_fails_18 _ _ _).trans rfl
theorem bk_Mod_fails_22 : blk 80 22 = some (((cd_Mod_fails.lookup 22).getD ([], 0, []))) := rfl
theorem Mod_fails_22 (d : Nat) (a0 : Nat) (x1 : Int) (r0 : Nat) (h : Hp) : EX d 80 22 [(0, .inr (.inr a0)), (1, .inl x1)] [.inr (.inr r0)] h = EX d 80 23 [(0, .inr (.inr a0))] [.inl x1, .inr (.inr r0)] h := (EX_at bk_Mod_fails_22 _ _ _).trans rfl
theorem bk_Mod_fails_23 : blk 80 23 = some (((cd_Mod_fails.lookup 23).getD ([], 0, []))) := rfl
theorem Mod_fails_23 (d : Nat) (a0 : Nat) (r0 : Nat) (s1 : Int) (h : Hp) : EX d 80 23 [(0, .inr (.inr a0))] [.inl s1, .inr (.inr r0)] h = if sK h r0 = 11 then EX d 80 26 [(0, .inr (.inr a0))] [] (pI h r0 11 s1) else none := (EX_at bk_Mod_fails_23 _ _ _).trans rfl
theorem bk_Mod_fails_26 : blk 80 26 = some (((cd_Mod_fails.lookup 26).getD ([], 0, []))) := rfl
theorem Mod_fails_26 (d : Nat) (a0 : Nat) (h : Hp) : EX d 80 26 [(0, .inr (.inr a0))] [] h = if sK h a0 = 11 then if sK h a0 = 11 then EX d 80 34 [] [] (pI h a0 12 (hI h a0 6)) else none else none := (EX_at bk_Mod_fails_26 _ _ _).trans rfl
theorem bk_Mod_fails_34 : blk 80 34 = some (((cd_Mod_fails.lookup 34).getD ([], 0, []))) := rfl
theorem Mod_fails_34 (d : Nat) (h : Hp) : EX d 80 34 [] [] h = some (.inl 0, h) := (EX_at bk_Mod_fails_34 _ _ _).trans rfl
/-! takes(II)I of HookOverModel: method 81 -/
theorem bk_Mod_takes_0 : blk 81 0 = some (((cd_Mod_takes.lookup 0).getD ([], 0, []))) := rfl
theorem Mod_takes_0 (d : Nat) (a0 : Nat) (x1 : Int) (x2 : Int) (h : Hp) : EX d 81 0 [(0, .inr (.inr a0)), (1, .inl x1), (2, .inl x2)] [] h = if sK h a0 = 11 then bak (EX d 81) 6 [(0, .inr (.inr a0)), (1, .inl x1), (2, .inl x2)] [] false (cal d 79 [.inr (.inr a0), .inl 21] h) else none := (EX_at bk_Mod_takes_0 _ _ _).trans rfl
theorem bk_Mod_takes_6 : blk 81 6 = some (((cd_Mod_takes.lookup 6).getD ([], 0, []))) := rfl
theorem Mod_takes_6 (d : Nat) (a0 : Nat) (x1 : Int) (x2 : Int) (s0 : Int) (h : Hp) : EX d 81 6 [(0, .inr (.inr a0)), (1, .inl x1), (2, .inl x2)] [.inl s0] h = if (wr s0) = 0 then EX d 81 9 [(0, .inr (.inr a0))] [] h else EX d 81 17 [(0, .inr (.inr a0)), (1, .inl x1), (2, .inl x2)] [] h := (EX_at bk_Mod_takes_6 _ _ _).trans rfl
theorem bk_Mod_takes_9 : blk 81 9 = some (((cd_Mod_takes.lookup 9).getD ([], 0, []))) := rfl
theorem Mod_takes_9 (d : Nat) (a0 : Nat) (h : Hp) : EX d 81 9 [(0, .inr (.inr a0))] [] h = if sK h a0 = 11 then bak (EX d 81) 14 [(0, .inr (.inr a0))] [] true (cal d 80 [.inr (.inr a0), .inl 2] h) else none := (EX_at bk_Mod_takes_9 _ _ _).trans rfl
theorem bk_Mod_takes_14 : blk 81 14 = some (((cd_Mod_takes.lookup 14).getD ([], 0, []))) := rfl
theorem Mod_takes_14 (d : Nat) (a0 : Nat) (h : Hp) : EX d 81 14 [(0, .inr (.inr a0))] [] h = EX d 81 37 [(0, .inr (.inr a0))] [] h := (EX_at bk_Mod_takes_14 _ _ _).trans rfl
theorem bk_Mod_takes_17 : blk 81 17 = some (((cd_Mod_takes.lookup 17).getD ([], 0, []))) := rfl
theorem Mod_takes_17 (d : Nat) (a0 : Nat) (x1 : Int) (x2 : Int) (h : Hp) : EX d 81 17 [(0, .inr (.inr a0)), (1, .inl x1), (2, .inl x2)] [] h = if sK h a0 = 11 then bak (EX d 81) 29 [(0, .inr (.inr a0))] [] false (cal d 73 [.inr (.inl (wr (hI h a0 10))), .inr (.inl (wr x1)), .inr (.inl (wr x2))] h) else none := (EX_at bk_Mod_takes_17 _ _ _).trans rfl
theorem bk_Mod_takes_29 : blk 81 29 = some (((cd_Mod_takes.lookup 29).getD ([], 0, []))) := rfl
theorem Mod_takes_29 (d : Nat) (a0 : Nat) (s0 : Int) (h : Hp) : EX d 81 29 [(0, .inr (.inr a0))] [.inl s0] h = if (wr s0) = 0 then EX d 81 32 [(0, .inr (.inr a0))] [] h else EX d 81 37 [(0, .inr (.inr a0))] [] h := (EX_at bk_Mod_takes_29 _ _ _).trans rfl
theorem bk_Mod_takes_32 : blk 81 32 = some (((cd_Mod_takes.lookup 32).getD ([], 0, []))) := rfl
theorem Mod_takes_32 (d : Nat) (a0 : Nat) (h : Hp) : EX d 81 32 [(0, .inr (.inr a0))] [] h = if sK h a0 = 11 then bak (EX d 81) 37 [(0, .inr (.inr a0))] [] true (cal d 80 [.inr (.inr a0), .inl 3] h) else none := (EX_at bk_Mod_takes_32 _ _ _).trans rfl
theorem bk_Mod_takes_37 : blk 81 37 = some (((cd_Mod_takes.lookup 37).getD ([], 0, []))) := rfl
theorem Mod_takes_37 (d : Nat) (a0 : Nat) (h : Hp) : EX d 81 37 [(0, .inr (.inr a0))] [] h = if sK h a0 = 11 then if sK h a0 = 11 then if (wr (hI h a0 11)) = 0 then EX d 81 49 [(0, .inr (.inr a0)), (3, .inl (hI h a0 10))] [] h else EX d 81 53 [(3, .inl (hI h a0 10))] [] h else none else none := (EX_at bk_Mod_takes_37 _ _ _).trans rfl
theorem bk_Mod_takes_49 : blk 81 49 = some (((cd_Mod_takes.lookup 49).getD ([], 0, []))) := rfl
theorem Mod_takes_49 (d : Nat) (a0 : Nat) (x3 : Int) (h : Hp) : EX d 81 49 [(0, .inr (.inr a0)), (3, .inl x3)] [] h = if sK h a0 = 11 then bak (EX d 81) 53 [(3, .inl x3)] [] true (cal d 78 [.inr (.inr a0)] h) else none := (EX_at bk_Mod_takes_49 _ _ _).trans rfl
theorem bk_Mod_takes_53 : blk 81 53 = some (((cd_Mod_takes.lookup 53).getD ([], 0, []))) := rfl
theorem Mod_takes_53 (d : Nat) (x3 : Int) (h : Hp) : EX d 81 53 [(3, .inl x3)] [] h = some (.inl x3, h) := (EX_at bk_Mod_takes_53 _ _ _).trans rfl
/-! takesRow(I)I of HookOverModel: method 82 -/
theorem bk_Mod_takesRow_0 : blk 82 0 = some (((cd_Mod_takesRow.lookup 0).getD ([], 0, []))) := rfl
theorem Mod_takesRow_0 (d : Nat) (a0 : Nat) (x1 : Int) (h : Hp) : EX d 82 0 [(0, .inr (.inr a0)), (1, .inl x1)] [] h = EX d 82 2 [(0, .inr (.inr a0)), (1, .inl x1), (2, .inl 0)] [] h := (EX_at bk_Mod_takesRow_0 _ _ _).trans rfl
theorem bk_Mod_takesRow_2 : blk 82 2 = some (((cd_Mod_takesRow.lookup 2).getD ([], 0, []))) := rfl
theorem Mod_takesRow_2 (d : Nat) (a0 : Nat) (x1 : Int) (x2 : Int) (h : Hp) : EX d 82 2 [(0, .inr (.inr a0)), (1, .inl x1), (2, .inl x2)] [] h = if sK h a0 = 11 then if (wr (hI h a0 11)) = 0 then EX d 82 9 [(0, .inr (.inr a0)), (1, .inl x1), (2, .inl x2)] [] h else EX d 82 89 [(2, .inl x2)] [] h else none := (EX_at bk_Mod_takesRow_2 _ _ _).trans rfl
theorem bk_Mod_takesRow_9 : blk 82 9 = some (((cd_Mod_takesRow.lookup 9).getD ([], 0, []))) := rfl
theorem Mod_takesRow_9 (d : Nat) (a0 : Nat) (x1 : Int) (x2 : Int) (h : Hp) : EX d 82 9 [(0, .inr (.inr a0)), (1, .inl x1), (2, .inl x2)] [] h = if (wr x2) = 0 then EX d 82 22 [(0, .inr (.inr a0)), (1, .inl x1), (2, .inl x2)] [] h else EX d 82 13 [(0, .inr (.inr a0)), (1, .inl x1), (2, .inl x2)] [] h := (EX_at bk_Mod_takesRow_9 _ _ _).trans rfl
theorem bk_Mod_takesRow_13 : blk 82 13 = some (((cd_Mod_takesRow.lookup 13).getD ([], 0, []))) := rfl
theorem Mod_takesRow_13 (d : Nat) (a0 : Nat) (x1 : Int) (x2 : Int) (h : Hp) : EX d 82 13 [(0, .inr (.inr a0)), (1, .inl x1), (2, .inl x2)] [] h = if sK h a0 = 11 then bak (EX d 82) 19 [(0, .inr (.inr a0)), (1, .inl x1), (2, .inl x2)] [] false (cal d 79 [.inr (.inr a0), .inl 21] h) else none := (EX_at bk_Mod_takesRow_13 _ _ _).trans rfl
theorem bk_Mod_takesRow_19 : blk 82 19 = some (((cd_Mod_takesRow.lookup 19).getD ([], 0, []))) := rfl
theorem Mod_takesRow_19 (d : Nat) (a0 : Nat) (x1 : Int) (x2 : Int) (s0 : Int) (h : Hp) : EX d 82 19 [(0, .inr (.inr a0)), (1, .inl x1), (2, .inl x2)] [.inl s0] h = if (wr s0) = 0 then EX d 82 89 [(2, .inl x2)] [] h else EX d 82 22 [(0, .inr (.inr a0)), (1, .inl x1), (2, .inl x2)] [] h := (EX_at bk_Mod_takesRow_19 _ _ _).trans rfl
theorem bk_Mod_takesRow_22 : blk 82 22 = some (((cd_Mod_takesRow.lookup 22).getD ([], 0, []))) := rfl
theorem Mod_takesRow_22 (d : Nat) (a0 : Nat) (x1 : Int) (x2 : Int) (h : Hp) : EX d 82 22 [(0, .inr (.inr a0)), (1, .inl x1), (2, .inl x2)] [] h = if (wr x2) = 11 then EX d 82 28 [(0, .inr (.inr a0)), (1, .inl x1), (2, .inl x2)] [] h else EX d 82 57 [(0, .inr (.inr a0)), (1, .inl x1), (2, .inl x2)] [] h := (EX_at bk_Mod_takesRow_22 _ _ _).trans rfl
theorem bk_Mod_takesRow_28 : blk 82 28 = some (((cd_Mod_takesRow.lookup 28).getD ([], 0, []))) := rfl
theorem Mod_takesRow_28 (d : Nat) (a0 : Nat) (x1 : Int) (x2 : Int) (h : Hp) : EX d 82 28 [(0, .inr (.inr a0)), (1, .inl x1), (2, .inl x2)] [] h = if sK h a0 = 11 then bak (EX d 82) 34 [(0, .inr (.inr a0)), (1, .inl x1), (2, .inl x2)] [] false (cal d 79 [.inr (.inr a0), .inl 21] h) else none := (EX_at bk_Mod_takesRow_28 _ _ _).trans rfl
theorem bk_Mod_takesRow_34 : blk 82 34 = some (((cd_Mod_takesRow.lookup 34).getD ([], 0, []))) := rfl
theorem Mod_takesRow_34 (d : Nat) (a0 : Nat) (x1 : Int) (x2 : Int) (s0 : Int) (h : Hp) : EX d 82 34 [(0, .inr (.inr a0)), (1, .inl x1), (2, .inl x2)] [.inl s0] h = if (wr s0) = 0 then EX d 82 57 [(0, .inr (.inr a0)), (1, .inl x1), (2, .inl x2)] [] h else EX d 82 37 [(0, .inr (.inr a0)), (1, .inl x1), (2, .inl x2)] [] h := (EX_at bk_Mod_takesRow_34 _ _ _).trans rfl
theorem bk_Mod_takesRow_37 : blk 82 37 = some (((cd_Mod_takesRow.lookup 37).getD ([], 0, []))) := rfl
theorem Mod_takesRow_37 (d : Nat) (a0 : Nat) (x1 : Int) (x2 : Int) (h : Hp) : EX d 82 37 [(0, .inr (.inr a0)), (1, .inl x1), (2, .inl x2)] [] h = if sK h a0 = 11 then bak (EX d 82) 49 [(0, .inr (.inr a0)), (1, .inl x1), (2, .inl x2)] [] false (cal d 73 [.inr (.inl (wr (hI h a0 10))), .inr (.inl 1), .inr (.inl 99)] h) else none := (EX_at bk_Mod_takesRow_37 _ _ _).trans rfl
theorem bk_Mod_takesRow_49 : blk 82 49 = some (((cd_Mod_takesRow.lookup 49).getD ([], 0, []))) := rfl
theorem Mod_takesRow_49 (d : Nat) (a0 : Nat) (x1 : Int) (x2 : Int) (s0 : Int) (h : Hp) : EX d 82 49 [(0, .inr (.inr a0)), (1, .inl x1), (2, .inl x2)] [.inl s0] h = if (wr s0) = 0 then EX d 82 57 [(0, .inr (.inr a0)), (1, .inl x1), (2, .inl x2)] [] h else EX d 82 52 [(0, .inr (.inr a0)), (1, .inl x1), (2, .inl x2)] [] h := (EX_at bk_Mod_takesRow_49 _ _ _).trans rfl
theorem bk_Mod_takesRow_52 : blk 82 52 = some (((cd_Mod_takesRow.lookup 52).getD ([], 0, []))) := rfl
theorem Mod_takesRow_52 (d : Nat) (a0 : Nat) (x1 : Int) (x2 : Int) (h : Hp) : EX d 82 52 [(0, .inr (.inr a0)), (1, .inl x1), (2, .inl x2)] [] h = if sK h a0 = 11 then bak (EX d 82) 57 [(0, .inr (.inr a0)), (1, .inl x1), (2, .inl x2)] [] true (cal d 80 [.inr (.inr a0), .inl 4] h) else none := (EX_at bk_Mod_takesRow_52 _ _ _).trans rfl
theorem bk_Mod_takesRow_57 : blk 82 57 = some (((cd_Mod_takesRow.lookup 57).getD ([], 0, []))) := rfl
theorem Mod_takesRow_57 (d : Nat) (a0 : Nat) (x1 : Int) (x2 : Int) (h : Hp) : EX d 82 57 [(0, .inr (.inr a0)), (1, .inl x1), (2, .inl x2)] [] h = if sK h a0 = 11 then bak (EX d 82) 64 [(0, .inr (.inr a0)), (1, .inl x1), (2, .inl x2)] [] false (cal d 81 [.inr (.inr a0), .inl 1, .inl 99] h) else none := (EX_at bk_Mod_takesRow_57 _ _ _).trans rfl
theorem bk_Mod_takesRow_64 : blk 82 64 = some (((cd_Mod_takesRow.lookup 64).getD ([], 0, []))) := rfl
theorem Mod_takesRow_64 (d : Nat) (a0 : Nat) (x1 : Int) (x2 : Int) (s0 : Int) (h : Hp) : EX d 82 64 [(0, .inr (.inr a0)), (1, .inl x1), (2, .inl x2)] [.inl s0] h = if sK h a0 = 11 then if (wr (hI h a0 11)) = 0 then EX d 82 74 [(0, .inr (.inr a0)), (1, .inl x1), (2, .inl x2), (3, .inl s0)] [] h else EX d 82 72 [] [] h else none := (EX_at bk_Mod_takesRow_64 _ _ _).trans rfl
theorem bk_Mod_takesRow_72 : blk 82 72 = some (((cd_Mod_takesRow.lookup 72).getD ([], 0, []))) := rfl
theorem Mod_takesRow_72 (d : Nat) (h : Hp) : EX d 82 72 [] [] h = some (.inl 0, h) := (EX_at bk_Mod_takesRow_72 _ _ _).trans rfl
theorem bk_Mod_takesRow_74 : blk 82 74 = some (((cd_Mod_takesRow.lookup 74).getD ([], 0, []))) := rfl
theorem Mod_takesRow_74 (d : Nat) (a0 : Nat) (x1 : Int) (x2 : Int) (x3 : Int) (h : Hp) : EX d 82 74 [(0, .inr (.inr a0)), (1, .inl x1), (2, .inl x2), (3, .inl x3)] [] h = if sK h a0 = 11 then if okx h (hR h a0 4) 20 (x1 + x2) then EX d 82 83 [(0, .inr (.inr a0)), (1, .inl x1), (2, .inl x2)] [] (pI h (hR h a0 4) (ix (x1 + x2)) x3) else none else none := (EX_at bk_Mod_takesRow_74 _ _ _).trans rfl
theorem bk_Mod_takesRow_83 : blk 82 83 = some (((cd_Mod_takesRow.lookup 83).getD ([], 0, []))) := rfl
theorem Mod_takesRow_83 (d : Nat) (a0 : Nat) (x1 : Int) (x2 : Int) (h : Hp) : EX d 82 83 [(0, .inr (.inr a0)), (1, .inl x1), (2, .inl x2)] [] h = EX d 82 2 [(0, .inr (.inr a0)), (1, .inl x1), (2, .inl (x2 + 1))] [] h := (EX_at bk_Mod_takesRow_83 _ _ _).trans rfl
theorem bk_Mod_takesRow_89 : blk 82 89 = some (((cd_Mod_takesRow.lookup 89).getD ([], 0, []))) := rfl
theorem Mod_takesRow_89 (d : Nat) (x2 : Int) (h : Hp) : EX d 82 89 [(2, .inl x2)] [] h = some (.inl x2, h) := (EX_at bk_Mod_takesRow_89 _ _ _).trans rfl
/-! eats(I)Z of HookOverModel: method 83 -/
theorem bk_Mod_eats_0 : blk 83 0 = some (((cd_Mod_eats.lookup 0).getD ([], 0, []))) := rfl
theorem Mod_eats_0 (d : Nat) (a0 : Nat) (x1 : Int) (h : Hp) : EX d 83 0 [(0, .inr (.inr a0)), (1, .inl x1)] [] h = if sK h a0 = 11 then bak (EX d 83) 5 [(0, .inr (.inr a0))] [] false (cal d 79 [.inr (.inr a0), .inl x1] h) else none := (EX_at bk_Mod_eats_0 _ _ _).trans rfl
theorem bk_Mod_eats_5 : blk 83 5 = some (((cd_Mod_eats.lookup 5).getD ([], 0, []))) := rfl
theorem Mod_eats_5 (d : Nat) (a0 : Nat) (s0 : Int) (h : Hp) : EX d 83 5 [(0, .inr (.inr a0))] [.inl s0] h = if (wr s0) = 0 then EX d 83 8 [] [] h else EX d 83 10 [(0, .inr (.inr a0))] [] h := (EX_at bk_Mod_eats_5 _ _ _).trans rfl
theorem bk_Mod_eats_8 : blk 83 8 = some (((cd_Mod_eats.lookup 8).getD ([], 0, []))) := rfl
theorem Mod_eats_8 (d : Nat) (h : Hp) : EX d 83 8 [] [] h = some (.inl 0, h) := (EX_at bk_Mod_eats_8 _ _ _).trans rfl
theorem bk_Mod_eats_10 : blk 83 10 = some (((cd_Mod_eats.lookup 10).getD ([], 0, []))) := rfl
theorem Mod_eats_10 (d : Nat) (a0 : Nat) (h : Hp) : EX d 83 10 [(0, .inr (.inr a0))] [] h = if sK h a0 = 11 then bak (EX d 83) 14 [] [] true (cal d 78 [.inr (.inr a0)] h) else none := (EX_at bk_Mod_eats_10 _ _ _).trans rfl
theorem bk_Mod_eats_14 : blk 83 14 = some (((cd_Mod_eats.lookup 14).getD ([], 0, []))) := rfl
theorem Mod_eats_14 (d : Nat) (h : Hp) : EX d 83 14 [] [] h = some (.inl 1, h) := (EX_at bk_Mod_eats_14 _ _ _).trans rfl
/-! goesIn(I)Z of HookOverModel: method 84 -/
theorem bk_Mod_goesIn_0 : blk 84 0 = some (((cd_Mod_goesIn.lookup 0).getD ([], 0, []))) := rfl
theorem Mod_goesIn_0 (d : Nat) (a0 : Nat) (x1 : Int) (h : Hp) : EX d 84 0 [(0, .inr (.inr a0)), (1, .inl x1)] [] h = if (wr x1) = 6 then EX d 84 6 [(0, .inr (.inr a0))] [] h else EX d 84 11 [(0, .inr (.inr a0))] [] h := (EX_at bk_Mod_goesIn_0 _ _ _).trans rfl
theorem bk_Mod_goesIn_6 : blk 84 6 = some (((cd_Mod_goesIn.lookup 6).getD ([], 0, []))) := rfl
theorem Mod_goesIn_6 (d : Nat) (a0 : Nat) (h : Hp) : EX d 84 6 [(0, .inr (.inr a0))] [] h = if sK h a0 = 11 then bak (EX d 84) 11 [(0, .inr (.inr a0))] [] true (cal d 80 [.inr (.inr a0), .inl 4] h) else none := (EX_at bk_Mod_goesIn_6 _ _ _).trans rfl
theorem bk_Mod_goesIn_11 : blk 84 11 = some (((cd_Mod_goesIn.lookup 11).getD ([], 0, []))) := rfl
theorem Mod_goesIn_11 (d : Nat) (a0 : Nat) (h : Hp) : EX d 84 11 [(0, .inr (.inr a0))] [] h = if sK h a0 = 11 then if (wr (hI h a0 11)) = 0 then EX d 84 18 [(0, .inr (.inr a0))] [] h else EX d 84 22 [(0, .inr (.inr a0))] [] h else none := (EX_at bk_Mod_goesIn_11 _ _ _).trans rfl
theorem bk_Mod_goesIn_18 : blk 84 18 = some (((cd_Mod_goesIn.lookup 18).getD ([], 0, []))) := rfl
theorem Mod_goesIn_18 (d : Nat) (a0 : Nat) (h : Hp) : EX d 84 18 [(0, .inr (.inr a0))] [] h = if sK h a0 = 11 then bak (EX d 84) 22 [(0, .inr (.inr a0))] [] true (cal d 78 [.inr (.inr a0)] h) else none := (EX_at bk_Mod_goesIn_18 _ _ _).trans rfl
theorem bk_Mod_goesIn_22 : blk 84 22 = some (((cd_Mod_goesIn.lookup 22).getD ([], 0, []))) := rfl
theorem Mod_goesIn_22 (d : Nat) (a0 : Nat) (h : Hp) : EX d 84 22 [(0, .inr (.inr a0))] [] h = if sK h a0 = 11 then if (wr (hI h a0 11)) = 0 then EX d 84 29 [] [] h else EX d 84 33 [] [] h else none := (EX_at bk_Mod_goesIn_22 _ _ _).trans rfl
theorem bk_Mod_goesIn_29 : blk 84 29 = some (((cd_Mod_goesIn.lookup 29).getD ([], 0, []))) := rfl
theorem Mod_goesIn_29 (d : Nat) (h : Hp) : EX d 84 29 [] [] h = EX d 84 34 [] [.inl 1] h := (EX_at bk_Mod_goesIn_29 _ _ _).trans rfl
theorem bk_Mod_goesIn_33 : blk 84 33 = some (((cd_Mod_goesIn.lookup 33).getD ([], 0, []))) := rfl
theorem Mod_goesIn_33 (d : Nat) (h : Hp) : EX d 84 33 [] [] h = EX d 84 34 [] [.inl 0] h := (EX_at bk_Mod_goesIn_33 _ _ _).trans rfl
theorem bk_Mod_goesIn_34 : blk 84 34 = some (((cd_Mod_goesIn.lookup 34).getD ([], 0, []))) := rfl
theorem Mod_goesIn_34 (d : Nat) (s0 : Int) (h : Hp) : EX d 84 34 [] [.inl s0] h = if ((s0 : Int) = 0 ∨ (s0 : Int) = 1) then some (.inl s0, h) else none := (EX_at bk_Mod_goesIn_34 _ _ _).trans rfl
/-! codes(I)V of HookOverModel: method 85 -/
theorem bk_Mod_codes_0 : blk 85 0 = some (((cd_Mod_codes.lookup 0).getD ([], 0, []))) := rfl
theorem Mod_codes_0 (d : Nat) (a0 : Nat) (x1 : Int) (h : Hp) : EX d 85 0 [(0, .inr (.inr a0)), (1, .inl x1)] [] h = if sK h a0 = 11 then if (wr (hI h a0 11)) = 0 then EX d 85 8 [(0, .inr (.inr a0)), (1, .inl x1)] [] h else EX d 85 7 [] [] h else none := (EX_at bk_Mod_codes_0 _ _ _).trans rfl
theorem bk_Mod_codes_7 : blk 85 7 = some (((cd_Mod_codes.lookup 7).getD ([], 0, []))) := rfl
theorem Mod_codes_7 (d : Nat) (h : Hp) : EX d 85 7 [] [] h = some (.inl 0, h) := (EX_at bk_Mod_codes_7 _ _ _).trans rfl
theorem bk_Mod_codes_8 : blk 85 8 = some (((cd_Mod_codes.lookup 8).getD ([], 0, []))) := rfl
theorem Mod_codes_8 (d : Nat) (a0 : Nat) (x1 : Int) (h : Hp) : EX d 85 8 [(0, .inr (.inr a0)), (1, .inl x1)] [] h = if sK h a0 = 11 then if sK h a0 = 11 then if okx h (hR h a0 4) 20 214 then if okx h (hR h a0 4) 20 (215 + (hI h (hR h a0 4) 214)) then EX d 85 26 [(0, .inr (.inr a0))] [] (pI h (hR h a0 4) (ix (215 + (hI h (hR h a0 4) 214))) x1) else none else none else none else none := (EX_at bk_Mod_codes_8 _ _ _).trans rfl
theorem bk_Mod_codes_26 : blk 85 26 = some (((cd_Mod_codes.lookup 26).getD ([], 0, []))) := rfl
theorem Mod_codes_26 (d : Nat) (a0 : Nat) (h : Hp) : EX d 85 26 [(0, .inr (.inr a0))] [] h = if sK h a0 = 11 then if okx h (hR h a0 4) 20 214 then if okx h (hR h a0 4) 20 214 then EX d 85 38 [] [] (pI h (hR h a0 4) 214 ((hI h (hR h a0 4) 214) + 1)) else none else none else none := (EX_at bk_Mod_codes_26 _ _ _).trans rfl
theorem bk_Mod_codes_38 : blk 85 38 = some (((cd_Mod_codes.lookup 38).getD ([], 0, []))) := rfl
theorem Mod_codes_38 (d : Nat) (h : Hp) : EX d 85 38 [] [] h = some (.inl 0, h) := (EX_at bk_Mod_codes_38 _ _ _).trans rfl
/-! readAtom(I)V of HookOverModel: method 86 -/
theorem bk_Mod_readAtom_0 : blk 86 0 = some (((cd_Mod_readAtom.lookup 0).getD ([], 0, []))) := rfl
theorem Mod_readAtom_0 (d : Nat) (a0 : Nat) (x1 : Int) (h : Hp) : EX d 86 0 [(0, .inr (.inr a0)), (1, .inl x1)] [] h = if sK h a0 = 11 then bak (EX d 86) 6 [(0, .inr (.inr a0)), (1, .inl x1)] [] false (cal d 79 [.inr (.inr a0), .inl 21] h) else none := (EX_at bk_Mod_readAtom_0 _ _ _).trans rfl
theorem bk_Mod_readAtom_6 : blk 86 6 = some (((cd_Mod_readAtom.lookup 6).getD ([], 0, []))) := rfl
theorem Mod_readAtom_6 (d : Nat) (a0 : Nat) (x1 : Int) (s0 : Int) (h : Hp) : EX d 86 6 [(0, .inr (.inr a0)), (1, .inl x1)] [.inl s0] h = if (wr s0) = 0 then EX d 86 24 [(0, .inr (.inr a0)), (1, .inl x1)] [] h else EX d 86 9 [(0, .inr (.inr a0))] [] h := (EX_at bk_Mod_readAtom_6 _ _ _).trans rfl
theorem bk_Mod_readAtom_9 : blk 86 9 = some (((cd_Mod_readAtom.lookup 9).getD ([], 0, []))) := rfl
theorem Mod_readAtom_9 (d : Nat) (a0 : Nat) (h : Hp) : EX d 86 9 [(0, .inr (.inr a0))] [] h = if sK h a0 = 11 then if sK h a0 = 11 then bak (EX d 86) 17 [(0, .inr (.inr a0))] [] true (cal d 85 [.inr (.inr a0), .inl (hI h a0 10)] h) else none else none := (EX_at bk_Mod_readAtom_9 _ _ _).trans rfl
theorem bk_Mod_readAtom_17 : blk 86 17 = some (((cd_Mod_readAtom.lookup 17).getD ([], 0, []))) := rfl
theorem Mod_readAtom_17 (d : Nat) (a0 : Nat) (h : Hp) : EX d 86 17 [(0, .inr (.inr a0))] [] h = if sK h a0 = 11 then bak (EX d 86) 21 [] [] true (cal d 78 [.inr (.inr a0)] h) else none := (EX_at bk_Mod_readAtom_17 _ _ _).trans rfl
theorem bk_Mod_readAtom_21 : blk 86 21 = some (((cd_Mod_readAtom.lookup 21).getD ([], 0, []))) := rfl
theorem Mod_readAtom_21 (d : Nat) (h : Hp) : EX d 86 21 [] [] h = EX d 86 153 [] [] h := (EX_at bk_Mod_readAtom_21 _ _ _).trans rfl
theorem bk_Mod_readAtom_24 : blk 86 24 = some (((cd_Mod_readAtom.lookup 24).getD ([], 0, []))) := rfl
theorem Mod_readAtom_24 (d : Nat) (a0 : Nat) (x1 : Int) (h : Hp) : EX d 86 24 [(0, .inr (.inr a0)), (1, .inl x1)] [] h = if sK h a0 = 11 then bak (EX d 86) 29 [(0, .inr (.inr a0)), (1, .inl x1)] [] false (cal d 83 [.inr (.inr a0), .inl 2] h) else none := (EX_at bk_Mod_readAtom_24 _ _ _).trans rfl
theorem bk_Mod_readAtom_29 : blk 86 29 = some (((cd_Mod_readAtom.lookup 29).getD ([], 0, []))) := rfl
theorem Mod_readAtom_29 (d : Nat) (a0 : Nat) (x1 : Int) (s0 : Int) (h : Hp) : EX d 86 29 [(0, .inr (.inr a0)), (1, .inl x1)] [.inl s0] h = if (wr s0) = 0 then EX d 86 42 [(0, .inr (.inr a0)), (1, .inl x1)] [] h else EX d 86 32 [(0, .inr (.inr a0))] [] h := (EX_at bk_Mod_readAtom_29 _ _ _).trans rfl
theorem bk_Mod_readAtom_32 : blk 86 32 = some (((cd_Mod_readAtom.lookup 32).getD ([], 0, []))) := rfl
theorem Mod_readAtom_32 (d : Nat) (a0 : Nat) (h : Hp) : EX d 86 32 [(0, .inr (.inr a0))] [] h = if sK h a0 = 11 then bak (EX d 86) 39 [] [] true (cal d 85 [.inr (.inr a0), .inl 1000] h) else none := (EX_at bk_Mod_readAtom_32 _ _ _).trans rfl
theorem bk_Mod_readAtom_39 : blk 86 39 = some (((cd_Mod_readAtom.lookup 39).getD ([], 0, []))) := rfl
theorem Mod_readAtom_39 (d : Nat) (h : Hp) : EX d 86 39 [] [] h = EX d 86 153 [] [] h := (EX_at bk_Mod_readAtom_39 _ _ _).trans rfl
theorem bk_Mod_readAtom_42 : blk 86 42 = some (((cd_Mod_readAtom.lookup 42).getD ([], 0, []))) := rfl
theorem Mod_readAtom_42 (d : Nat) (a0 : Nat) (x1 : Int) (h : Hp) : EX d 86 42 [(0, .inr (.inr a0)), (1, .inl x1)] [] h = if sK h a0 = 11 then bak (EX d 86) 47 [(0, .inr (.inr a0)), (1, .inl x1)] [] false (cal d 83 [.inr (.inr a0), .inl 4] h) else none := (EX_at bk_Mod_readAtom_42 _ _ _).trans rfl
theorem bk_Mod_readAtom_47 : blk 86 47 = some (((cd_Mod_readAtom.lookup 47).getD ([], 0, []))) := rfl
theorem Mod_readAtom_47 (d : Nat) (a0 : Nat) (x1 : Int) (s0 : Int) (h : Hp) : EX d 86 47 [(0, .inr (.inr a0)), (1, .inl x1)] [.inl s0] h = if (wr s0) = 0 then EX d 86 60 [(0, .inr (.inr a0)), (1, .inl x1)] [] h else EX d 86 50 [(0, .inr (.inr a0))] [] h := (EX_at bk_Mod_readAtom_47 _ _ _).trans rfl
theorem bk_Mod_readAtom_50 : blk 86 50 = some (((cd_Mod_readAtom.lookup 50).getD ([], 0, []))) := rfl
theorem Mod_readAtom_50 (d : Nat) (a0 : Nat) (h : Hp) : EX d 86 50 [(0, .inr (.inr a0))] [] h = if sK h a0 = 11 then bak (EX d 86) 57 [] [] true (cal d 85 [.inr (.inr a0), .inl 1001] h) else none := (EX_at bk_Mod_readAtom_50 _ _ _).trans rfl
theorem bk_Mod_readAtom_57 : blk 86 57 = some (((cd_Mod_readAtom.lookup 57).getD ([], 0, []))) := rfl
theorem Mod_readAtom_57 (d : Nat) (h : Hp) : EX d 86 57 [] [] h = EX d 86 153 [] [] h := (EX_at bk_Mod_readAtom_57 _ _ _).trans rfl
theorem bk_Mod_readAtom_60 : blk 86 60 = some (((cd_Mod_readAtom.lookup 60).getD ([], 0, []))) := rfl
theorem Mod_readAtom_60 (d : Nat) (a0 : Nat) (x1 : Int) (h : Hp) : EX d 86 60 [(0, .inr (.inr a0)), (1, .inl x1)] [] h = if sK h a0 = 11 then if (wr (hI h a0 11)) = 0 then EX d 86 67 [(0, .inr (.inr a0)), (1, .inl x1)] [] h else EX d 86 106 [(0, .inr (.inr a0)), (1, .inl x1)] [] h else none := (EX_at bk_Mod_readAtom_60 _ _ _).trans rfl
theorem bk_Mod_readAtom_67 : blk 86 67 = some (((cd_Mod_readAtom.lookup 67).getD ([], 0, []))) := rfl
theorem Mod_readAtom_67 (d : Nat) (a0 : Nat) (x1 : Int) (h : Hp) : EX d 86 67 [(0, .inr (.inr a0)), (1, .inl x1)] [] h = if sK h a0 = 11 then bak (EX d 86) 81 [(0, .inr (.inr a0)), (1, .inl x1)] [] false (cal d 73 [.inr (.inl (wr (hI h a0 9))), .inr (.inl 14), .inr (.inl 17)] h) else none := (EX_at bk_Mod_readAtom_67 _ _ _).trans rfl
theorem bk_Mod_readAtom_81 : blk 86 81 = some (((cd_Mod_readAtom.lookup 81).getD ([], 0, []))) := rfl
theorem Mod_readAtom_81 (d : Nat) (a0 : Nat) (x1 : Int) (s0 : Int) (h : Hp) : EX d 86 81 [(0, .inr (.inr a0)), (1, .inl x1)] [.inl s0] h = if (wr s0) = 0 then EX d 86 106 [(0, .inr (.inr a0)), (1, .inl x1)] [] h else EX d 86 84 [(0, .inr (.inr a0))] [] h := (EX_at bk_Mod_readAtom_81 _ _ _).trans rfl
theorem bk_Mod_readAtom_84 : blk 86 84 = some (((cd_Mod_readAtom.lookup 84).getD ([], 0, []))) := rfl
theorem Mod_readAtom_84 (d : Nat) (a0 : Nat) (h : Hp) : EX d 86 84 [(0, .inr (.inr a0))] [] h = if sK h a0 = 11 then if sK h a0 = 11 then bak (EX d 86) 99 [(0, .inr (.inr a0))] [] true (cal d 85 [.inr (.inr a0), .inl ((1002 + (hI h a0 9)) - 14)] h) else none else none := (EX_at bk_Mod_readAtom_84 _ _ _).trans rfl
theorem bk_Mod_readAtom_99 : blk 86 99 = some (((cd_Mod_readAtom.lookup 99).getD ([], 0, []))) := rfl
theorem Mod_readAtom_99 (d : Nat) (a0 : Nat) (h : Hp) : EX d 86 99 [(0, .inr (.inr a0))] [] h = if sK h a0 = 11 then bak (EX d 86) 103 [] [] true (cal d 78 [.inr (.inr a0)] h) else none := (EX_at bk_Mod_readAtom_99 _ _ _).trans rfl
theorem bk_Mod_readAtom_103 : blk 86 103 = some (((cd_Mod_readAtom.lookup 103).getD ([], 0, []))) := rfl
theorem Mod_readAtom_103 (d : Nat) (h : Hp) : EX d 86 103 [] [] h = EX d 86 153 [] [] h := (EX_at bk_Mod_readAtom_103 _ _ _).trans rfl
theorem bk_Mod_readAtom_106 : blk 86 106 = some (((cd_Mod_readAtom.lookup 106).getD ([], 0, []))) := rfl
theorem Mod_readAtom_106 (d : Nat) (a0 : Nat) (x1 : Int) (h : Hp) : EX d 86 106 [(0, .inr (.inr a0)), (1, .inl x1)] [] h = if sK h a0 = 11 then bak (EX d 86) 112 [(0, .inr (.inr a0)), (1, .inl x1)] [] false (cal d 79 [.inr (.inr a0), .inl 30] h) else none := (EX_at bk_Mod_readAtom_106 _ _ _).trans rfl
theorem bk_Mod_readAtom_112 : blk 86 112 = some (((cd_Mod_readAtom.lookup 112).getD ([], 0, []))) := rfl
theorem Mod_readAtom_112 (d : Nat) (a0 : Nat) (x1 : Int) (s0 : Int) (h : Hp) : EX d 86 112 [(0, .inr (.inr a0)), (1, .inl x1)] [.inl s0] h = if (wr s0) = 0 then EX d 86 148 [(0, .inr (.inr a0))] [] h else EX d 86 115 [(0, .inr (.inr a0)), (1, .inl x1)] [] h := (EX_at bk_Mod_readAtom_112 _ _ _).trans rfl
theorem bk_Mod_readAtom_115 : blk 86 115 = some (((cd_Mod_readAtom.lookup 115).getD ([], 0, []))) := rfl
theorem Mod_readAtom_115 (d : Nat) (a0 : Nat) (x1 : Int) (h : Hp) : EX d 86 115 [(0, .inr (.inr a0)), (1, .inl x1)] [] h = if sK h a0 = 11 then bak (EX d 86) 120 [(0, .inr (.inr a0)), (1, .inl x1)] [] false (cal d 84 [.inr (.inr a0), .inl x1] h) else none := (EX_at bk_Mod_readAtom_115 _ _ _).trans rfl
theorem bk_Mod_readAtom_120 : blk 86 120 = some (((cd_Mod_readAtom.lookup 120).getD ([], 0, []))) := rfl
theorem Mod_readAtom_120 (d : Nat) (a0 : Nat) (x1 : Int) (s0 : Int) (h : Hp) : EX d 86 120 [(0, .inr (.inr a0)), (1, .inl x1)] [.inl s0] h = if (wr s0) = 0 then EX d 86 123 [] [] h else EX d 86 124 [(0, .inr (.inr a0)), (1, .inl x1)] [] h := (EX_at bk_Mod_readAtom_120 _ _ _).trans rfl
theorem bk_Mod_readAtom_123 : blk 86 123 = some (((cd_Mod_readAtom.lookup 123).getD ([], 0, []))) := rfl
theorem Mod_readAtom_123 (d : Nat) (h : Hp) : EX d 86 123 [] [] h = some (.inl 0, h) := (EX_at bk_Mod_readAtom_123 _ _ _).trans rfl
theorem bk_Mod_readAtom_124 : blk 86 124 = some (((cd_Mod_readAtom.lookup 124).getD ([], 0, []))) := rfl
theorem Mod_readAtom_124 (d : Nat) (a0 : Nat) (x1 : Int) (h : Hp) : EX d 86 124 [(0, .inr (.inr a0)), (1, .inl x1)] [] h = if sK h a0 = 11 then bak (EX d 86) 131 [(0, .inr (.inr a0))] [] true (cal d 88 [.inr (.inr a0), .inl (x1 + 1)] h) else none := (EX_at bk_Mod_readAtom_124 _ _ _).trans rfl
theorem bk_Mod_readAtom_131 : blk 86 131 = some (((cd_Mod_readAtom.lookup 131).getD ([], 0, []))) := rfl
theorem Mod_readAtom_131 (d : Nat) (a0 : Nat) (h : Hp) : EX d 86 131 [(0, .inr (.inr a0))] [] h = if sK h a0 = 11 then bak (EX d 86) 137 [(0, .inr (.inr a0))] [] false (cal d 83 [.inr (.inr a0), .inl 31] h) else none := (EX_at bk_Mod_readAtom_131 _ _ _).trans rfl
theorem bk_Mod_readAtom_137 : blk 86 137 = some (((cd_Mod_readAtom.lookup 137).getD ([], 0, []))) := rfl
theorem Mod_readAtom_137 (d : Nat) (a0 : Nat) (s0 : Int) (h : Hp) : EX d 86 137 [(0, .inr (.inr a0))] [.inl s0] h = if (wr s0) = 0 then EX d 86 140 [(0, .inr (.inr a0))] [] h else EX d 86 153 [] [] h := (EX_at bk_Mod_readAtom_137 _ _ _).trans rfl
theorem bk_Mod_readAtom_140 : blk 86 140 = some (((cd_Mod_readAtom.lookup 140).getD ([], 0, []))) := rfl
theorem Mod_readAtom_140 (d : Nat) (a0 : Nat) (h : Hp) : EX d 86 140 [(0, .inr (.inr a0))] [] h = if sK h a0 = 11 then bak (EX d 86) 145 [] [] true (cal d 80 [.inr (.inr a0), .inl 2] h) else none := (EX_at bk_Mod_readAtom_140 _ _ _).trans rfl
theorem bk_Mod_readAtom_145 : blk 86 145 = some (((cd_Mod_readAtom.lookup 145).getD ([], 0, []))) := rfl
theorem Mod_readAtom_145 (d : Nat) (h : Hp) : EX d 86 145 [] [] h = EX d 86 153 [] [] h := (EX_at bk_Mod_readAtom_145 _ _ _).trans rfl
theorem bk_Mod_readAtom_148 : blk 86 148 = some (((cd_Mod_readAtom.lookup 148).getD ([], 0, []))) := rfl
theorem Mod_readAtom_148 (d : Nat) (a0 : Nat) (h : Hp) : EX d 86 148 [(0, .inr (.inr a0))] [] h = if sK h a0 = 11 then bak (EX d 86) 153 [] [] true (cal d 80 [.inr (.inr a0), .inl 2] h) else none := (EX_at bk_Mod_readAtom_148 _ _ _).trans rfl
theorem bk_Mod_readAtom_153 : blk 86 153 = some (((cd_Mod_readAtom.lookup 153).getD ([], 0, []))) := rfl
theorem Mod_readAtom_153 (d : Nat) (h : Hp) : EX d 86 153 [] [] h = some (.inl 0, h) := (EX_at bk_Mod_readAtom_153 _ _ _).trans rfl
/-! readTerm(I)V of HookOverModel: method 87 -/
theorem bk_Mod_readTerm_0 : blk 87 0 = some (((cd_Mod_readTerm.lookup 0).getD ([], 0, []))) := rfl
theorem Mod_readTerm_0 (d : Nat) (a0 : Nat) (x1 : Int) (h : Hp) : EX d 87 0 [(0, .inr (.inr a0)), (1, .inl x1)] [] h = if sK h a0 = 11 then bak (EX d 87) 5 [(0, .inr (.inr a0)), (1, .inl x1)] [] true (cal d 86 [.inr (.inr a0), .inl x1] h) else none := (EX_at bk_Mod_readTerm_0 _ _ _).trans rfl
theorem bk_Mod_readTerm_5 : blk 87 5 = some (((cd_Mod_readTerm.lookup 5).getD ([], 0, []))) := rfl
theorem Mod_readTerm_5 (d : Nat) (a0 : Nat) (x1 : Int) (h : Hp) : EX d 87 5 [(0, .inr (.inr a0)), (1, .inl x1)] [] h = if sK h a0 = 11 then bak (EX d 87) 11 [(0, .inr (.inr a0)), (1, .inl x1)] [] false (cal d 83 [.inr (.inr a0), .inl 29] h) else none := (EX_at bk_Mod_readTerm_5 _ _ _).trans rfl
theorem bk_Mod_readTerm_11 : blk 87 11 = some (((cd_Mod_readTerm.lookup 11).getD ([], 0, []))) := rfl
theorem Mod_readTerm_11 (d : Nat) (a0 : Nat) (x1 : Int) (s0 : Int) (h : Hp) : EX d 87 11 [(0, .inr (.inr a0)), (1, .inl x1)] [.inl s0] h = if (wr s0) = 0 then EX d 87 29 [] [] h else EX d 87 14 [(0, .inr (.inr a0)), (1, .inl x1)] [] h := (EX_at bk_Mod_readTerm_11 _ _ _).trans rfl
theorem bk_Mod_readTerm_14 : blk 87 14 = some (((cd_Mod_readTerm.lookup 14).getD ([], 0, []))) := rfl
theorem Mod_readTerm_14 (d : Nat) (a0 : Nat) (x1 : Int) (h : Hp) : EX d 87 14 [(0, .inr (.inr a0)), (1, .inl x1)] [] h = if sK h a0 = 11 then bak (EX d 87) 19 [(0, .inr (.inr a0)), (1, .inl x1)] [] true (cal d 86 [.inr (.inr a0), .inl x1] h) else none := (EX_at bk_Mod_readTerm_14 _ _ _).trans rfl
theorem bk_Mod_readTerm_19 : blk 87 19 = some (((cd_Mod_readTerm.lookup 19).getD ([], 0, []))) := rfl
theorem Mod_readTerm_19 (d : Nat) (a0 : Nat) (x1 : Int) (h : Hp) : EX d 87 19 [(0, .inr (.inr a0)), (1, .inl x1)] [] h = if sK h a0 = 11 then bak (EX d 87) 26 [(0, .inr (.inr a0)), (1, .inl x1)] [] true (cal d 85 [.inr (.inr a0), .inl 3002] h) else none := (EX_at bk_Mod_readTerm_19 _ _ _).trans rfl
theorem bk_Mod_readTerm_26 : blk 87 26 = some (((cd_Mod_readTerm.lookup 26).getD ([], 0, []))) := rfl
theorem Mod_readTerm_26 (d : Nat) (a0 : Nat) (x1 : Int) (h : Hp) : EX d 87 26 [(0, .inr (.inr a0)), (1, .inl x1)] [] h = EX d 87 5 [(0, .inr (.inr a0)), (1, .inl x1)] [] h := (EX_at bk_Mod_readTerm_26 _ _ _).trans rfl
theorem bk_Mod_readTerm_29 : blk 87 29 = some (((cd_Mod_readTerm.lookup 29).getD ([], 0, []))) := rfl
theorem Mod_readTerm_29 (d : Nat) (h : Hp) : EX d 87 29 [] [] h = some (.inl 0, h) := (EX_at bk_Mod_readTerm_29 _ _ _).trans rfl
/-! readSum(I)V of HookOverModel: method 88 -/
theorem bk_Mod_readSum_0 : blk 88 0 = some (((cd_Mod_readSum.lookup 0).getD ([], 0, []))) := rfl
theorem Mod_readSum_0 (d : Nat) (a0 : Nat) (x1 : Int) (h : Hp) : EX d 88 0 [(0, .inr (.inr a0)), (1, .inl x1)] [] h = if sK h a0 = 11 then bak (EX d 88) 5 [(0, .inr (.inr a0)), (1, .inl x1)] [] true (cal d 87 [.inr (.inr a0), .inl x1] h) else none := (EX_at bk_Mod_readSum_0 _ _ _).trans rfl
theorem bk_Mod_readSum_5 : blk 88 5 = some (((cd_Mod_readSum.lookup 5).getD ([], 0, []))) := rfl
theorem Mod_readSum_5 (d : Nat) (a0 : Nat) (x1 : Int) (h : Hp) : EX d 88 5 [(0, .inr (.inr a0)), (1, .inl x1)] [] h = if sK h a0 = 11 then bak (EX d 88) 11 [(0, .inr (.inr a0)), (1, .inl x1)] [] false (cal d 79 [.inr (.inr a0), .inl 27] h) else none := (EX_at bk_Mod_readSum_5 _ _ _).trans rfl
theorem bk_Mod_readSum_11 : blk 88 11 = some (((cd_Mod_readSum.lookup 11).getD ([], 0, []))) := rfl
theorem Mod_readSum_11 (d : Nat) (a0 : Nat) (x1 : Int) (s0 : Int) (h : Hp) : EX d 88 11 [(0, .inr (.inr a0)), (1, .inl x1)] [.inl s0] h = if (wr s0) = 0 then EX d 88 14 [(0, .inr (.inr a0)), (1, .inl x1)] [] h else EX d 88 23 [(0, .inr (.inr a0)), (1, .inl x1)] [] h := (EX_at bk_Mod_readSum_11 _ _ _).trans rfl
theorem bk_Mod_readSum_14 : blk 88 14 = some (((cd_Mod_readSum.lookup 14).getD ([], 0, []))) := rfl
theorem Mod_readSum_14 (d : Nat) (a0 : Nat) (x1 : Int) (h : Hp) : EX d 88 14 [(0, .inr (.inr a0)), (1, .inl x1)] [] h = if sK h a0 = 11 then bak (EX d 88) 20 [(0, .inr (.inr a0)), (1, .inl x1)] [] false (cal d 79 [.inr (.inr a0), .inl 28] h) else none := (EX_at bk_Mod_readSum_14 _ _ _).trans rfl
theorem bk_Mod_readSum_20 : blk 88 20 = some (((cd_Mod_readSum.lookup 20).getD ([], 0, []))) := rfl
theorem Mod_readSum_20 (d : Nat) (a0 : Nat) (x1 : Int) (s0 : Int) (h : Hp) : EX d 88 20 [(0, .inr (.inr a0)), (1, .inl x1)] [.inl s0] h = if (wr s0) = 0 then EX d 88 59 [] [] h else EX d 88 23 [(0, .inr (.inr a0)), (1, .inl x1)] [] h := (EX_at bk_Mod_readSum_20 _ _ _).trans rfl
theorem bk_Mod_readSum_23 : blk 88 23 = some (((cd_Mod_readSum.lookup 23).getD ([], 0, []))) := rfl
theorem Mod_readSum_23 (d : Nat) (a0 : Nat) (x1 : Int) (h : Hp) : EX d 88 23 [(0, .inr (.inr a0)), (1, .inl x1)] [] h = if sK h a0 = 11 then if (wr (hI h a0 9)) = 27 then EX d 88 32 [(0, .inr (.inr a0)), (1, .inl x1)] [] h else EX d 88 38 [(0, .inr (.inr a0)), (1, .inl x1)] [] h else none := (EX_at bk_Mod_readSum_23 _ _ _).trans rfl
theorem bk_Mod_readSum_32 : blk 88 32 = some (((cd_Mod_readSum.lookup 32).getD ([], 0, []))) := rfl
theorem Mod_readSum_32 (d : Nat) (a0 : Nat) (x1 : Int) (h : Hp) : EX d 88 32 [(0, .inr (.inr a0)), (1, .inl x1)] [] h = EX d 88 41 [(0, .inr (.inr a0)), (1, .inl x1)] [.inl 3000] h := (EX_at bk_Mod_readSum_32 _ _ _).trans rfl
theorem bk_Mod_readSum_38 : blk 88 38 = some (((cd_Mod_readSum.lookup 38).getD ([], 0, []))) := rfl
theorem Mod_readSum_38 (d : Nat) (a0 : Nat) (x1 : Int) (h : Hp) : EX d 88 38 [(0, .inr (.inr a0)), (1, .inl x1)] [] h = EX d 88 41 [(0, .inr (.inr a0)), (1, .inl x1)] [.inl 3001] h := (EX_at bk_Mod_readSum_38 _ _ _).trans rfl
theorem bk_Mod_readSum_41 : blk 88 41 = some (((cd_Mod_readSum.lookup 41).getD ([], 0, []))) := rfl
theorem Mod_readSum_41 (d : Nat) (a0 : Nat) (x1 : Int) (s0 : Int) (h : Hp) : EX d 88 41 [(0, .inr (.inr a0)), (1, .inl x1)] [.inl s0] h = if sK h a0 = 11 then bak (EX d 88) 46 [(0, .inr (.inr a0)), (1, .inl x1), (2, .inl s0)] [] true (cal d 78 [.inr (.inr a0)] h) else none := (EX_at bk_Mod_readSum_41 _ _ _).trans rfl
theorem bk_Mod_readSum_46 : blk 88 46 = some (((cd_Mod_readSum.lookup 46).getD ([], 0, []))) := rfl
theorem Mod_readSum_46 (d : Nat) (a0 : Nat) (x1 : Int) (x2 : Int) (h : Hp) : EX d 88 46 [(0, .inr (.inr a0)), (1, .inl x1), (2, .inl x2)] [] h = if sK h a0 = 11 then bak (EX d 88) 51 [(0, .inr (.inr a0)), (1, .inl x1), (2, .inl x2)] [] true (cal d 87 [.inr (.inr a0), .inl x1] h) else none := (EX_at bk_Mod_readSum_46 _ _ _).trans rfl
theorem bk_Mod_readSum_51 : blk 88 51 = some (((cd_Mod_readSum.lookup 51).getD ([], 0, []))) := rfl
theorem Mod_readSum_51 (d : Nat) (a0 : Nat) (x1 : Int) (x2 : Int) (h : Hp) : EX d 88 51 [(0, .inr (.inr a0)), (1, .inl x1), (2, .inl x2)] [] h = if sK h a0 = 11 then bak (EX d 88) 56 [(0, .inr (.inr a0)), (1, .inl x1)] [] true (cal d 85 [.inr (.inr a0), .inl x2] h) else none := (EX_at bk_Mod_readSum_51 _ _ _).trans rfl
theorem bk_Mod_readSum_56 : blk 88 56 = some (((cd_Mod_readSum.lookup 56).getD ([], 0, []))) := rfl
theorem Mod_readSum_56 (d : Nat) (a0 : Nat) (x1 : Int) (h : Hp) : EX d 88 56 [(0, .inr (.inr a0)), (1, .inl x1)] [] h = EX d 88 5 [(0, .inr (.inr a0)), (1, .inl x1)] [] h := (EX_at bk_Mod_readSum_56 _ _ _).trans rfl
theorem bk_Mod_readSum_59 : blk 88 59 = some (((cd_Mod_readSum.lookup 59).getD ([], 0, []))) := rfl
theorem Mod_readSum_59 (d : Nat) (h : Hp) : EX d 88 59 [] [] h = some (.inl 0, h) := (EX_at bk_Mod_readSum_59 _ _ _).trans rfl
/-! readUnit(I)V of HookOverModel: method 89 -/
theorem bk_Mod_readUnit_0 : blk 89 0 = some (((cd_Mod_readUnit.lookup 0).getD ([], 0, []))) := rfl
theorem Mod_readUnit_0 (d : Nat) (a0 : Nat) (x1 : Int) (h : Hp) : EX d 89 0 [(0, .inr (.inr a0)), (1, .inl x1)] [] h = if sK h a0 = 11 then bak (EX d 89) 6 [(0, .inr (.inr a0)), (1, .inl x1)] [] false (cal d 79 [.inr (.inr a0), .inl 13] h) else none := (EX_at bk_Mod_readUnit_0 _ _ _).trans rfl
theorem bk_Mod_readUnit_6 : blk 89 6 = some (((cd_Mod_readUnit.lookup 6).getD ([], 0, []))) := rfl
theorem Mod_readUnit_6 (d : Nat) (a0 : Nat) (x1 : Int) (s0 : Int) (h : Hp) : EX d 89 6 [(0, .inr (.inr a0)), (1, .inl x1)] [.inl s0] h = if (wr s0) = 0 then EX d 89 33 [(0, .inr (.inr a0)), (1, .inl x1)] [] h else EX d 89 9 [(0, .inr (.inr a0)), (1, .inl x1)] [] h := (EX_at bk_Mod_readUnit_6 _ _ _).trans rfl
theorem bk_Mod_readUnit_9 : blk 89 9 = some (((cd_Mod_readUnit.lookup 9).getD ([], 0, []))) := rfl
theorem Mod_readUnit_9 (d : Nat) (a0 : Nat) (x1 : Int) (h : Hp) : EX d 89 9 [(0, .inr (.inr a0)), (1, .inl x1)] [] h = if sK h a0 = 11 then bak (EX d 89) 14 [(0, .inr (.inr a0)), (1, .inl x1)] [] false (cal d 84 [.inr (.inr a0), .inl x1] h) else none := (EX_at bk_Mod_readUnit_9 _ _ _).trans rfl
theorem bk_Mod_readUnit_14 : blk 89 14 = some (((cd_Mod_readUnit.lookup 14).getD ([], 0, []))) := rfl
theorem Mod_readUnit_14 (d : Nat) (a0 : Nat) (x1 : Int) (s0 : Int) (h : Hp) : EX d 89 14 [(0, .inr (.inr a0)), (1, .inl x1)] [.inl s0] h = if (wr s0) = 0 then EX d 89 17 [] [] h else EX d 89 18 [(0, .inr (.inr a0)), (1, .inl x1)] [] h := (EX_at bk_Mod_readUnit_14 _ _ _).trans rfl
theorem bk_Mod_readUnit_17 : blk 89 17 = some (((cd_Mod_readUnit.lookup 17).getD ([], 0, []))) := rfl
theorem Mod_readUnit_17 (d : Nat) (h : Hp) : EX d 89 17 [] [] h = some (.inl 0, h) := (EX_at bk_Mod_readUnit_17 _ _ _).trans rfl
theorem bk_Mod_readUnit_18 : blk 89 18 = some (((cd_Mod_readUnit.lookup 18).getD ([], 0, []))) := rfl
theorem Mod_readUnit_18 (d : Nat) (a0 : Nat) (x1 : Int) (h : Hp) : EX d 89 18 [(0, .inr (.inr a0)), (1, .inl x1)] [] h = if sK h a0 = 11 then bak (EX d 89) 25 [(0, .inr (.inr a0))] [] true (cal d 89 [.inr (.inr a0), .inl (x1 + 1)] h) else none := (EX_at bk_Mod_readUnit_18 _ _ _).trans rfl
theorem bk_Mod_readUnit_25 : blk 89 25 = some (((cd_Mod_readUnit.lookup 25).getD ([], 0, []))) := rfl
theorem Mod_readUnit_25 (d : Nat) (a0 : Nat) (h : Hp) : EX d 89 25 [(0, .inr (.inr a0))] [] h = if sK h a0 = 11 then bak (EX d 89) 32 [] [] true (cal d 85 [.inr (.inr a0), .inl 3008] h) else none := (EX_at bk_Mod_readUnit_25 _ _ _).trans rfl
theorem bk_Mod_readUnit_32 : blk 89 32 = some (((cd_Mod_readUnit.lookup 32).getD ([], 0, []))) := rfl
theorem Mod_readUnit_32 (d : Nat) (h : Hp) : EX d 89 32 [] [] h = some (.inl 0, h) := (EX_at bk_Mod_readUnit_32 _ _ _).trans rfl
theorem bk_Mod_readUnit_33 : blk 89 33 = some (((cd_Mod_readUnit.lookup 33).getD ([], 0, []))) := rfl
theorem Mod_readUnit_33 (d : Nat) (a0 : Nat) (x1 : Int) (h : Hp) : EX d 89 33 [(0, .inr (.inr a0)), (1, .inl x1)] [] h = if sK h a0 = 11 then bak (EX d 89) 39 [(0, .inr (.inr a0)), (1, .inl x1)] [] false (cal d 79 [.inr (.inr a0), .inl 32] h) else none := (EX_at bk_Mod_readUnit_33 _ _ _).trans rfl
theorem bk_Mod_readUnit_39 : blk 89 39 = some (((cd_Mod_readUnit.lookup 39).getD ([], 0, []))) := rfl
theorem Mod_readUnit_39 (d : Nat) (a0 : Nat) (x1 : Int) (s0 : Int) (h : Hp) : EX d 89 39 [(0, .inr (.inr a0)), (1, .inl x1)] [.inl s0] h = if (wr s0) = 0 then EX d 89 73 [(0, .inr (.inr a0)), (1, .inl x1)] [] h else EX d 89 42 [(0, .inr (.inr a0)), (1, .inl x1)] [] h := (EX_at bk_Mod_readUnit_39 _ _ _).trans rfl
theorem bk_Mod_readUnit_42 : blk 89 42 = some (((cd_Mod_readUnit.lookup 42).getD ([], 0, []))) := rfl
theorem Mod_readUnit_42 (d : Nat) (a0 : Nat) (x1 : Int) (h : Hp) : EX d 89 42 [(0, .inr (.inr a0)), (1, .inl x1)] [] h = if sK h a0 = 11 then bak (EX d 89) 47 [(0, .inr (.inr a0)), (1, .inl x1)] [] false (cal d 84 [.inr (.inr a0), .inl x1] h) else none := (EX_at bk_Mod_readUnit_42 _ _ _).trans rfl
theorem bk_Mod_readUnit_47 : blk 89 47 = some (((cd_Mod_readUnit.lookup 47).getD ([], 0, []))) := rfl
theorem Mod_readUnit_47 (d : Nat) (a0 : Nat) (x1 : Int) (s0 : Int) (h : Hp) : EX d 89 47 [(0, .inr (.inr a0)), (1, .inl x1)] [.inl s0] h = if (wr s0) = 0 then EX d 89 50 [] [] h else EX d 89 51 [(0, .inr (.inr a0)), (1, .inl x1)] [] h := (EX_at bk_Mod_readUnit_47 _ _ _).trans rfl
theorem bk_Mod_readUnit_50 : blk 89 50 = some (((cd_Mod_readUnit.lookup 50).getD ([], 0, []))) := rfl
theorem Mod_readUnit_50 (d : Nat) (h : Hp) : EX d 89 50 [] [] h = some (.inl 0, h) := (EX_at bk_Mod_readUnit_50 _ _ _).trans rfl
theorem bk_Mod_readUnit_51 : blk 89 51 = some (((cd_Mod_readUnit.lookup 51).getD ([], 0, []))) := rfl
theorem Mod_readUnit_51 (d : Nat) (a0 : Nat) (x1 : Int) (h : Hp) : EX d 89 51 [(0, .inr (.inr a0)), (1, .inl x1)] [] h = if sK h a0 = 11 then bak (EX d 89) 58 [(0, .inr (.inr a0))] [] true (cal d 91 [.inr (.inr a0), .inl (x1 + 1)] h) else none := (EX_at bk_Mod_readUnit_51 _ _ _).trans rfl
theorem bk_Mod_readUnit_58 : blk 89 58 = some (((cd_Mod_readUnit.lookup 58).getD ([], 0, []))) := rfl
theorem Mod_readUnit_58 (d : Nat) (a0 : Nat) (h : Hp) : EX d 89 58 [(0, .inr (.inr a0))] [] h = if sK h a0 = 11 then bak (EX d 89) 64 [(0, .inr (.inr a0))] [] false (cal d 83 [.inr (.inr a0), .inl 33] h) else none := (EX_at bk_Mod_readUnit_58 _ _ _).trans rfl
theorem bk_Mod_readUnit_64 : blk 89 64 = some (((cd_Mod_readUnit.lookup 64).getD ([], 0, []))) := rfl
theorem Mod_readUnit_64 (d : Nat) (a0 : Nat) (s0 : Int) (h : Hp) : EX d 89 64 [(0, .inr (.inr a0))] [.inl s0] h = if (wr s0) = 0 then EX d 89 67 [(0, .inr (.inr a0))] [] h else EX d 89 72 [] [] h := (EX_at bk_Mod_readUnit_64 _ _ _).trans rfl
theorem bk_Mod_readUnit_67 : blk 89 67 = some (((cd_Mod_readUnit.lookup 67).getD ([], 0, []))) := rfl
theorem Mod_readUnit_67 (d : Nat) (a0 : Nat) (h : Hp) : EX d 89 67 [(0, .inr (.inr a0))] [] h = if sK h a0 = 11 then bak (EX d 89) 72 [] [] true (cal d 80 [.inr (.inr a0), .inl 2] h) else none := (EX_at bk_Mod_readUnit_67 _ _ _).trans rfl
theorem bk_Mod_readUnit_72 : blk 89 72 = some (((cd_Mod_readUnit.lookup 72).getD ([], 0, []))) := rfl
theorem Mod_readUnit_72 (d : Nat) (h : Hp) : EX d 89 72 [] [] h = some (.inl 0, h) := (EX_at bk_Mod_readUnit_72 _ _ _).trans rfl
theorem bk_Mod_readUnit_73 : blk 89 73 = some (((cd_Mod_readUnit.lookup 73).getD ([], 0, []))) := rfl
theorem Mod_readUnit_73 (d : Nat) (a0 : Nat) (x1 : Int) (h : Hp) : EX d 89 73 [(0, .inr (.inr a0)), (1, .inl x1)] [] h = if sK h a0 = 11 then bak (EX d 89) 78 [(0, .inr (.inr a0)), (1, .inl x1)] [] true (cal d 88 [.inr (.inr a0), .inl x1] h) else none := (EX_at bk_Mod_readUnit_73 _ _ _).trans rfl
theorem bk_Mod_readUnit_78 : blk 89 78 = some (((cd_Mod_readUnit.lookup 78).getD ([], 0, []))) := rfl
theorem Mod_readUnit_78 (d : Nat) (a0 : Nat) (x1 : Int) (h : Hp) : EX d 89 78 [(0, .inr (.inr a0)), (1, .inl x1)] [] h = if sK h a0 = 11 then bak (EX d 89) 84 [(0, .inr (.inr a0)), (1, .inl x1)] [] false (cal d 79 [.inr (.inr a0), .inl 34] h) else none := (EX_at bk_Mod_readUnit_78 _ _ _).trans rfl
theorem bk_Mod_readUnit_84 : blk 89 84 = some (((cd_Mod_readUnit.lookup 84).getD ([], 0, []))) := rfl
theorem Mod_readUnit_84 (d : Nat) (a0 : Nat) (x1 : Int) (s0 : Int) (h : Hp) : EX d 89 84 [(0, .inr (.inr a0)), (1, .inl x1)] [.inl s0] h = if (wr s0) = 0 then EX d 89 93 [(0, .inr (.inr a0)), (1, .inl x1)] [] h else EX d 89 87 [(0, .inr (.inr a0)), (1, .inl x1)] [] h := (EX_at bk_Mod_readUnit_84 _ _ _).trans rfl
theorem bk_Mod_readUnit_87 : blk 89 87 = some (((cd_Mod_readUnit.lookup 87).getD ([], 0, []))) := rfl
theorem Mod_readUnit_87 (d : Nat) (a0 : Nat) (x1 : Int) (h : Hp) : EX d 89 87 [(0, .inr (.inr a0)), (1, .inl x1)] [] h = EX d 89 111 [(0, .inr (.inr a0)), (1, .inl x1)] [.inl 3003] h := (EX_at bk_Mod_readUnit_87 _ _ _).trans rfl
theorem bk_Mod_readUnit_93 : blk 89 93 = some (((cd_Mod_readUnit.lookup 93).getD ([], 0, []))) := rfl
theorem Mod_readUnit_93 (d : Nat) (a0 : Nat) (x1 : Int) (h : Hp) : EX d 89 93 [(0, .inr (.inr a0)), (1, .inl x1)] [] h = if sK h a0 = 11 then bak (EX d 89) 99 [(0, .inr (.inr a0)), (1, .inl x1)] [] false (cal d 79 [.inr (.inr a0), .inl 35] h) else none := (EX_at bk_Mod_readUnit_93 _ _ _).trans rfl
theorem bk_Mod_readUnit_99 : blk 89 99 = some (((cd_Mod_readUnit.lookup 99).getD ([], 0, []))) := rfl
theorem Mod_readUnit_99 (d : Nat) (a0 : Nat) (x1 : Int) (s0 : Int) (h : Hp) : EX d 89 99 [(0, .inr (.inr a0)), (1, .inl x1)] [.inl s0] h = if (wr s0) = 0 then EX d 89 108 [(0, .inr (.inr a0)), (1, .inl x1)] [] h else EX d 89 102 [(0, .inr (.inr a0)), (1, .inl x1)] [] h := (EX_at bk_Mod_readUnit_99 _ _ _).trans rfl
theorem bk_Mod_readUnit_102 : blk 89 102 = some (((cd_Mod_readUnit.lookup 102).getD ([], 0, []))) := rfl
theorem Mod_readUnit_102 (d : Nat) (a0 : Nat) (x1 : Int) (h : Hp) : EX d 89 102 [(0, .inr (.inr a0)), (1, .inl x1)] [] h = EX d 89 111 [(0, .inr (.inr a0)), (1, .inl x1)] [.inl 3004] h := (EX_at bk_Mod_readUnit_102 _ _ _).trans rfl
theorem bk_Mod_readUnit_108 : blk 89 108 = some (((cd_Mod_readUnit.lookup 108).getD ([], 0, []))) := rfl
theorem Mod_readUnit_108 (d : Nat) (a0 : Nat) (x1 : Int) (h : Hp) : EX d 89 108 [(0, .inr (.inr a0)), (1, .inl x1)] [] h = EX d 89 111 [(0, .inr (.inr a0)), (1, .inl x1)] [.inl 3005] h := (EX_at bk_Mod_readUnit_108 _ _ _).trans rfl
theorem bk_Mod_readUnit_111 : blk 89 111 = some (((cd_Mod_readUnit.lookup 111).getD ([], 0, []))) := rfl
theorem Mod_readUnit_111 (d : Nat) (a0 : Nat) (x1 : Int) (s0 : Int) (h : Hp) : EX d 89 111 [(0, .inr (.inr a0)), (1, .inl x1)] [.inl s0] h = if sK h a0 = 11 then bak (EX d 89) 118 [(0, .inr (.inr a0)), (1, .inl x1), (2, .inl s0)] [] false (cal d 79 [.inr (.inr a0), .inl 34] h) else none := (EX_at bk_Mod_readUnit_111 _ _ _).trans rfl
theorem bk_Mod_readUnit_118 : blk 89 118 = some (((cd_Mod_readUnit.lookup 118).getD ([], 0, []))) := rfl
theorem Mod_readUnit_118 (d : Nat) (a0 : Nat) (x1 : Int) (x2 : Int) (s0 : Int) (h : Hp) : EX d 89 118 [(0, .inr (.inr a0)), (1, .inl x1), (2, .inl x2)] [.inl s0] h = if (wr s0) = 0 then EX d 89 121 [(0, .inr (.inr a0)), (1, .inl x1), (2, .inl x2)] [] h else EX d 89 139 [(0, .inr (.inr a0)), (1, .inl x1), (2, .inl x2)] [] h := (EX_at bk_Mod_readUnit_118 _ _ _).trans rfl
theorem bk_Mod_readUnit_121 : blk 89 121 = some (((cd_Mod_readUnit.lookup 121).getD ([], 0, []))) := rfl
theorem Mod_readUnit_121 (d : Nat) (a0 : Nat) (x1 : Int) (x2 : Int) (h : Hp) : EX d 89 121 [(0, .inr (.inr a0)), (1, .inl x1), (2, .inl x2)] [] h = if sK h a0 = 11 then bak (EX d 89) 127 [(0, .inr (.inr a0)), (1, .inl x1), (2, .inl x2)] [] false (cal d 79 [.inr (.inr a0), .inl 35] h) else none := (EX_at bk_Mod_readUnit_121 _ _ _).trans rfl
theorem bk_Mod_readUnit_127 : blk 89 127 = some (((cd_Mod_readUnit.lookup 127).getD ([], 0, []))) := rfl
theorem Mod_readUnit_127 (d : Nat) (a0 : Nat) (x1 : Int) (x2 : Int) (s0 : Int) (h : Hp) : EX d 89 127 [(0, .inr (.inr a0)), (1, .inl x1), (2, .inl x2)] [.inl s0] h = if (wr s0) = 0 then EX d 89 130 [(0, .inr (.inr a0)), (1, .inl x1), (2, .inl x2)] [] h else EX d 89 139 [(0, .inr (.inr a0)), (1, .inl x1), (2, .inl x2)] [] h := (EX_at bk_Mod_readUnit_127 _ _ _).trans rfl
theorem bk_Mod_readUnit_130 : blk 89 130 = some (((cd_Mod_readUnit.lookup 130).getD ([], 0, []))) := rfl
theorem Mod_readUnit_130 (d : Nat) (a0 : Nat) (x1 : Int) (x2 : Int) (h : Hp) : EX d 89 130 [(0, .inr (.inr a0)), (1, .inl x1), (2, .inl x2)] [] h = if sK h a0 = 11 then bak (EX d 89) 136 [(0, .inr (.inr a0)), (1, .inl x1), (2, .inl x2)] [] false (cal d 79 [.inr (.inr a0), .inl 36] h) else none := (EX_at bk_Mod_readUnit_130 _ _ _).trans rfl
theorem bk_Mod_readUnit_136 : blk 89 136 = some (((cd_Mod_readUnit.lookup 136).getD ([], 0, []))) := rfl
theorem Mod_readUnit_136 (d : Nat) (a0 : Nat) (x1 : Int) (x2 : Int) (s0 : Int) (h : Hp) : EX d 89 136 [(0, .inr (.inr a0)), (1, .inl x1), (2, .inl x2)] [.inl s0] h = if (wr s0) = 0 then EX d 89 146 [(0, .inr (.inr a0)), (1, .inl x1), (2, .inl x2)] [] h else EX d 89 139 [(0, .inr (.inr a0)), (1, .inl x1), (2, .inl x2)] [] h := (EX_at bk_Mod_readUnit_136 _ _ _).trans rfl
theorem bk_Mod_readUnit_139 : blk 89 139 = some (((cd_Mod_readUnit.lookup 139).getD ([], 0, []))) := rfl
theorem Mod_readUnit_139 (d : Nat) (a0 : Nat) (x1 : Int) (x2 : Int) (h : Hp) : EX d 89 139 [(0, .inr (.inr a0)), (1, .inl x1), (2, .inl x2)] [] h = if sK h a0 = 11 then bak (EX d 89) 143 [(0, .inr (.inr a0)), (1, .inl x1), (2, .inl x2)] [] true (cal d 78 [.inr (.inr a0)] h) else none := (EX_at bk_Mod_readUnit_139 _ _ _).trans rfl
theorem bk_Mod_readUnit_143 : blk 89 143 = some (((cd_Mod_readUnit.lookup 143).getD ([], 0, []))) := rfl
theorem Mod_readUnit_143 (d : Nat) (a0 : Nat) (x1 : Int) (x2 : Int) (h : Hp) : EX d 89 143 [(0, .inr (.inr a0)), (1, .inl x1), (2, .inl x2)] [] h = EX d 89 151 [(0, .inr (.inr a0)), (1, .inl x1), (2, .inl x2)] [] h := (EX_at bk_Mod_readUnit_143 _ _ _).trans rfl
theorem bk_Mod_readUnit_146 : blk 89 146 = some (((cd_Mod_readUnit.lookup 146).getD ([], 0, []))) := rfl
theorem Mod_readUnit_146 (d : Nat) (a0 : Nat) (x1 : Int) (x2 : Int) (h : Hp) : EX d 89 146 [(0, .inr (.inr a0)), (1, .inl x1), (2, .inl x2)] [] h = if sK h a0 = 11 then bak (EX d 89) 151 [(0, .inr (.inr a0)), (1, .inl x1), (2, .inl x2)] [] true (cal d 80 [.inr (.inr a0), .inl 2] h) else none := (EX_at bk_Mod_readUnit_146 _ _ _).trans rfl
theorem bk_Mod_readUnit_151 : blk 89 151 = some (((cd_Mod_readUnit.lookup 151).getD ([], 0, []))) := rfl
theorem Mod_readUnit_151 (d : Nat) (a0 : Nat) (x1 : Int) (x2 : Int) (h : Hp) : EX d 89 151 [(0, .inr (.inr a0)), (1, .inl x1), (2, .inl x2)] [] h = if sK h a0 = 11 then bak (EX d 89) 156 [(0, .inr (.inr a0)), (2, .inl x2)] [] true (cal d 88 [.inr (.inr a0), .inl x1] h) else none := (EX_at bk_Mod_readUnit_151 _ _ _).trans rfl
theorem bk_Mod_readUnit_156 : blk 89 156 = some (((cd_Mod_readUnit.lookup 156).getD ([], 0, []))) := rfl
theorem Mod_readUnit_156 (d : Nat) (a0 : Nat) (x2 : Int) (h : Hp) : EX d 89 156 [(0, .inr (.inr a0)), (2, .inl x2)] [] h = if sK h a0 = 11 then bak (EX d 89) 161 [] [] true (cal d 85 [.inr (.inr a0), .inl x2] h) else none := (EX_at bk_Mod_readUnit_156 _ _ _).trans rfl
theorem bk_Mod_readUnit_161 : blk 89 161 = some (((cd_Mod_readUnit.lookup 161).getD ([], 0, []))) := rfl
theorem Mod_readUnit_161 (d : Nat) (h : Hp) : EX d 89 161 [] [] h = some (.inl 0, h) := (EX_at bk_Mod_readUnit_161 _ _ _).trans rfl
/-! readBoth(I)V of HookOverModel: method 90 -/
theorem bk_Mod_readBoth_0 : blk 90 0 = some (((cd_Mod_readBoth.lookup 0).getD ([], 0, []))) := rfl
theorem Mod_readBoth_0 (d : Nat) (a0 : Nat) (x1 : Int) (h : Hp) : EX d 90 0 [(0, .inr (.inr a0)), (1, .inl x1)] [] h = if sK h a0 = 11 then bak (EX d 90) 5 [(0, .inr (.inr a0)), (1, .inl x1)] [] true (cal d 89 [.inr (.inr a0), .inl x1] h) else none := (EX_at bk_Mod_readBoth_0 _ _ _).trans rfl
theorem bk_Mod_readBoth_5 : blk 90 5 = some (((cd_Mod_readBoth.lookup 5).getD ([], 0, []))) := rfl
theorem Mod_readBoth_5 (d : Nat) (a0 : Nat) (x1 : Int) (h : Hp) : EX d 90 5 [(0, .inr (.inr a0)), (1, .inl x1)] [] h = if sK h a0 = 11 then bak (EX d 90) 11 [(0, .inr (.inr a0)), (1, .inl x1)] [] false (cal d 83 [.inr (.inr a0), .inl 12] h) else none := (EX_at bk_Mod_readBoth_5 _ _ _).trans rfl
theorem bk_Mod_readBoth_11 : blk 90 11 = some (((cd_Mod_readBoth.lookup 11).getD ([], 0, []))) := rfl
theorem Mod_readBoth_11 (d : Nat) (a0 : Nat) (x1 : Int) (s0 : Int) (h : Hp) : EX d 90 11 [(0, .inr (.inr a0)), (1, .inl x1)] [.inl s0] h = if (wr s0) = 0 then EX d 90 29 [] [] h else EX d 90 14 [(0, .inr (.inr a0)), (1, .inl x1)] [] h := (EX_at bk_Mod_readBoth_11 _ _ _).trans rfl
theorem bk_Mod_readBoth_14 : blk 90 14 = some (((cd_Mod_readBoth.lookup 14).getD ([], 0, []))) := rfl
theorem Mod_readBoth_14 (d : Nat) (a0 : Nat) (x1 : Int) (h : Hp) : EX d 90 14 [(0, .inr (.inr a0)), (1, .inl x1)] [] h = if sK h a0 = 11 then bak (EX d 90) 19 [(0, .inr (.inr a0)), (1, .inl x1)] [] true (cal d 89 [.inr (.inr a0), .inl x1] h) else none := (EX_at bk_Mod_readBoth_14 _ _ _).trans rfl
theorem bk_Mod_readBoth_19 : blk 90 19 = some (((cd_Mod_readBoth.lookup 19).getD ([], 0, []))) := rfl
theorem Mod_readBoth_19 (d : Nat) (a0 : Nat) (x1 : Int) (h : Hp) : EX d 90 19 [(0, .inr (.inr a0)), (1, .inl x1)] [] h = if sK h a0 = 11 then bak (EX d 90) 26 [(0, .inr (.inr a0)), (1, .inl x1)] [] true (cal d 85 [.inr (.inr a0), .inl 3006] h) else none := (EX_at bk_Mod_readBoth_19 _ _ _).trans rfl
theorem bk_Mod_readBoth_26 : blk 90 26 = some (((cd_Mod_readBoth.lookup 26).getD ([], 0, []))) := rfl
theorem Mod_readBoth_26 (d : Nat) (a0 : Nat) (x1 : Int) (h : Hp) : EX d 90 26 [(0, .inr (.inr a0)), (1, .inl x1)] [] h = EX d 90 5 [(0, .inr (.inr a0)), (1, .inl x1)] [] h := (EX_at bk_Mod_readBoth_26 _ _ _).trans rfl
theorem bk_Mod_readBoth_29 : blk 90 29 = some (((cd_Mod_readBoth.lookup 29).getD ([], 0, []))) := rfl
theorem Mod_readBoth_29 (d : Nat) (h : Hp) : EX d 90 29 [] [] h = some (.inl 0, h) := (EX_at bk_Mod_readBoth_29 _ _ _).trans rfl
/-! readTruth(I)V of HookOverModel: method 91 -/
theorem bk_Mod_readTruth_0 : blk 91 0 = some (((cd_Mod_readTruth.lookup 0).getD ([], 0, []))) := rfl
theorem Mod_readTruth_0 (d : Nat) (a0 : Nat) (x1 : Int) (h : Hp) : EX d 91 0 [(0, .inr (.inr a0)), (1, .inl x1)] [] h = if sK h a0 = 11 then bak (EX d 91) 5 [(0, .inr (.inr a0)), (1, .inl x1)] [] true (cal d 90 [.inr (.inr a0), .inl x1] h) else none := (EX_at bk_Mod_readTruth_0 _ _ _).trans rfl
theorem bk_Mod_readTruth_5 : blk 91 5 = some (((cd_Mod_readTruth.lookup 5).getD ([], 0, []))) := rfl
theorem Mod_readTruth_5 (d : Nat) (a0 : Nat) (x1 : Int) (h : Hp) : EX d 91 5 [(0, .inr (.inr a0)), (1, .inl x1)] [] h = if sK h a0 = 11 then bak (EX d 91) 11 [(0, .inr (.inr a0)), (1, .inl x1)] [] false (cal d 83 [.inr (.inr a0), .inl 11] h) else none := (EX_at bk_Mod_readTruth_5 _ _ _).trans rfl
theorem bk_Mod_readTruth_11 : blk 91 11 = some (((cd_Mod_readTruth.lookup 11).getD ([], 0, []))) := rfl
theorem Mod_readTruth_11 (d : Nat) (a0 : Nat) (x1 : Int) (s0 : Int) (h : Hp) : EX d 91 11 [(0, .inr (.inr a0)), (1, .inl x1)] [.inl s0] h = if (wr s0) = 0 then EX d 91 29 [] [] h else EX d 91 14 [(0, .inr (.inr a0)), (1, .inl x1)] [] h := (EX_at bk_Mod_readTruth_11 _ _ _).trans rfl
theorem bk_Mod_readTruth_14 : blk 91 14 = some (((cd_Mod_readTruth.lookup 14).getD ([], 0, []))) := rfl
theorem Mod_readTruth_14 (d : Nat) (a0 : Nat) (x1 : Int) (h : Hp) : EX d 91 14 [(0, .inr (.inr a0)), (1, .inl x1)] [] h = if sK h a0 = 11 then bak (EX d 91) 19 [(0, .inr (.inr a0)), (1, .inl x1)] [] true (cal d 90 [.inr (.inr a0), .inl x1] h) else none := (EX_at bk_Mod_readTruth_14 _ _ _).trans rfl
theorem bk_Mod_readTruth_19 : blk 91 19 = some (((cd_Mod_readTruth.lookup 19).getD ([], 0, []))) := rfl
theorem Mod_readTruth_19 (d : Nat) (a0 : Nat) (x1 : Int) (h : Hp) : EX d 91 19 [(0, .inr (.inr a0)), (1, .inl x1)] [] h = if sK h a0 = 11 then bak (EX d 91) 26 [(0, .inr (.inr a0)), (1, .inl x1)] [] true (cal d 85 [.inr (.inr a0), .inl 3007] h) else none := (EX_at bk_Mod_readTruth_19 _ _ _).trans rfl
theorem bk_Mod_readTruth_26 : blk 91 26 = some (((cd_Mod_readTruth.lookup 26).getD ([], 0, []))) := rfl
theorem Mod_readTruth_26 (d : Nat) (a0 : Nat) (x1 : Int) (h : Hp) : EX d 91 26 [(0, .inr (.inr a0)), (1, .inl x1)] [] h = EX d 91 5 [(0, .inr (.inr a0)), (1, .inl x1)] [] h := (EX_at bk_Mod_readTruth_26 _ _ _).trans rfl
theorem bk_Mod_readTruth_29 : blk 91 29 = some (((cd_Mod_readTruth.lookup 29).getD ([], 0, []))) := rfl
theorem Mod_readTruth_29 (d : Nat) (h : Hp) : EX d 91 29 [] [] h = some (.inl 0, h) := (EX_at bk_Mod_readTruth_29 _ _ _).trans rfl
/-! readLaw()V of HookOverModel: method 92 -/
theorem bk_Mod_readLaw_0 : blk 92 0 = some (((cd_Mod_readLaw.lookup 0).getD ([], 0, []))) := rfl
theorem Mod_readLaw_0 (d : Nat) (a0 : Nat) (h : Hp) : EX d 92 0 [(0, .inr (.inr a0))] [] h = if sK h a0 = 11 then bak (EX d 92) 4 [(0, .inr (.inr a0))] [] true (cal d 78 [.inr (.inr a0)] h) else none := (EX_at bk_Mod_readLaw_0 _ _ _).trans rfl
theorem bk_Mod_readLaw_4 : blk 92 4 = some (((cd_Mod_readLaw.lookup 4).getD ([], 0, []))) := rfl
theorem Mod_readLaw_4 (d : Nat) (a0 : Nat) (h : Hp) : EX d 92 4 [(0, .inr (.inr a0))] [] h = if sK h a0 = 11 then bak (EX d 92) 10 [(0, .inr (.inr a0))] [] false (cal d 83 [.inr (.inr a0), .inl 26] h) else none := (EX_at bk_Mod_readLaw_4 _ _ _).trans rfl
theorem bk_Mod_readLaw_10 : blk 92 10 = some (((cd_Mod_readLaw.lookup 10).getD ([], 0, []))) := rfl
theorem Mod_readLaw_10 (d : Nat) (a0 : Nat) (s0 : Int) (h : Hp) : EX d 92 10 [(0, .inr (.inr a0))] [.inl s0] h = if (wr s0) = 0 then EX d 92 13 [(0, .inr (.inr a0))] [] h else EX d 92 18 [(0, .inr (.inr a0))] [] h := (EX_at bk_Mod_readLaw_10 _ _ _).trans rfl
theorem bk_Mod_readLaw_13 : blk 92 13 = some (((cd_Mod_readLaw.lookup 13).getD ([], 0, []))) := rfl
theorem Mod_readLaw_13 (d : Nat) (a0 : Nat) (h : Hp) : EX d 92 13 [(0, .inr (.inr a0))] [] h = if sK h a0 = 11 then bak (EX d 92) 18 [(0, .inr (.inr a0))] [] true (cal d 80 [.inr (.inr a0), .inl 2] h) else none := (EX_at bk_Mod_readLaw_13 _ _ _).trans rfl
theorem bk_Mod_readLaw_18 : blk 92 18 = some (((cd_Mod_readLaw.lookup 18).getD ([], 0, []))) := rfl
theorem Mod_readLaw_18 (d : Nat) (a0 : Nat) (h : Hp) : EX d 92 18 [(0, .inr (.inr a0))] [] h = if sK h a0 = 11 then if okx h (hR h a0 4) 20 214 then EX d 92 27 [(0, .inr (.inr a0))] [] (pI h (hR h a0 4) 214 0) else none else none := (EX_at bk_Mod_readLaw_18 _ _ _).trans rfl
theorem bk_Mod_readLaw_27 : blk 92 27 = some (((cd_Mod_readLaw.lookup 27).getD ([], 0, []))) := rfl
theorem Mod_readLaw_27 (d : Nat) (a0 : Nat) (h : Hp) : EX d 92 27 [(0, .inr (.inr a0))] [] h = if sK h a0 = 11 then bak (EX d 92) 32 [(0, .inr (.inr a0))] [] true (cal d 91 [.inr (.inr a0), .inl 0] h) else none := (EX_at bk_Mod_readLaw_27 _ _ _).trans rfl
theorem bk_Mod_readLaw_32 : blk 92 32 = some (((cd_Mod_readLaw.lookup 32).getD ([], 0, []))) := rfl
theorem Mod_readLaw_32 (d : Nat) (a0 : Nat) (h : Hp) : EX d 92 32 [(0, .inr (.inr a0))] [] h = if sK h a0 = 11 then if (wr (hI h a0 11)) = 0 then EX d 92 39 [(0, .inr (.inr a0))] [] h else EX d 92 47 [] [] h else none := (EX_at bk_Mod_readLaw_32 _ _ _).trans rfl
theorem bk_Mod_readLaw_39 : blk 92 39 = some (((cd_Mod_readLaw.lookup 39).getD ([], 0, []))) := rfl
theorem Mod_readLaw_39 (d : Nat) (a0 : Nat) (h : Hp) : EX d 92 39 [(0, .inr (.inr a0))] [] h = if sK h a0 = 11 then if okx h (hR h a0 4) 20 9 then EX d 92 47 [] [] (pI h (hR h a0 4) 9 1) else none else none := (EX_at bk_Mod_readLaw_39 _ _ _).trans rfl
theorem bk_Mod_readLaw_47 : blk 92 47 = some (((cd_Mod_readLaw.lookup 47).getD ([], 0, []))) := rfl
theorem Mod_readLaw_47 (d : Nat) (h : Hp) : EX d 92 47 [] [] h = some (.inl 0, h) := (EX_at bk_Mod_readLaw_47 _ _ _).trans rfl
/-! readChair()V of HookOverModel: method 93 -/
theorem bk_Mod_readChair_0 : blk 93 0 = some (((cd_Mod_readChair.lookup 0).getD ([], 0, []))) := rfl
theorem Mod_readChair_0 (d : Nat) (a0 : Nat) (h : Hp) : EX d 93 0 [(0, .inr (.inr a0))] [] h = if sK h a0 = 11 then bak (EX d 93) 7 [(0, .inr (.inr a0))] [] false (cal d 81 [.inr (.inr a0), .inl 0, .inl 9] h) else none := (EX_at bk_Mod_readChair_0 _ _ _).trans rfl
theorem bk_Mod_readChair_7 : blk 93 7 = some (((cd_Mod_readChair.lookup 7).getD ([], 0, []))) := rfl
theorem Mod_readChair_7 (d : Nat) (a0 : Nat) (s0 : Int) (h : Hp) : EX d 93 7 [(0, .inr (.inr a0))] [.inl s0] h = if sK h a0 = 11 then bak (EX d 93) 15 [(0, .inr (.inr a0)), (1, .inl s0)] [] false (cal d 81 [.inr (.inr a0), .inl 0, .inl 99] h) else none := (EX_at bk_Mod_readChair_7 _ _ _).trans rfl
theorem bk_Mod_readChair_15 : blk 93 15 = some (((cd_Mod_readChair.lookup 15).getD ([], 0, []))) := rfl
theorem Mod_readChair_15 (d : Nat) (a0 : Nat) (x1 : Int) (s0 : Int) (h : Hp) : EX d 93 15 [(0, .inr (.inr a0)), (1, .inl x1)] [.inl s0] h = if sK h a0 = 11 then bak (EX d 93) 23 [(0, .inr (.inr a0)), (1, .inl x1), (2, .inl s0)] [] false (cal d 81 [.inr (.inr a0), .inl 1, .inl 99] h) else none := (EX_at bk_Mod_readChair_15 _ _ _).trans rfl
theorem bk_Mod_readChair_23 : blk 93 23 = some (((cd_Mod_readChair.lookup 23).getD ([], 0, []))) := rfl
theorem Mod_readChair_23 (d : Nat) (a0 : Nat) (x1 : Int) (x2 : Int) (s0 : Int) (h : Hp) : EX d 93 23 [(0, .inr (.inr a0)), (1, .inl x1), (2, .inl x2)] [.inl s0] h = if sK h a0 = 11 then if (wr (hI h a0 11)) = 0 then EX d 93 32 [(0, .inr (.inr a0)), (1, .inl x1), (2, .inl x2), (3, .inl s0)] [] h else EX d 93 31 [] [] h else none := (EX_at bk_Mod_readChair_23 _ _ _).trans rfl
theorem bk_Mod_readChair_31 : blk 93 31 = some (((cd_Mod_readChair.lookup 31).getD ([], 0, []))) := rfl
theorem Mod_readChair_31 (d : Nat) (h : Hp) : EX d 93 31 [] [] h = some (.inl 0, h) := (EX_at bk_Mod_readChair_31 _ _ _).trans rfl
theorem bk_Mod_readChair_32 : blk 93 32 = some (((cd_Mod_readChair.lookup 32).getD ([], 0, []))) := rfl
theorem Mod_readChair_32 (d : Nat) (a0 : Nat) (x1 : Int) (x2 : Int) (x3 : Int) (h : Hp) : EX d 93 32 [(0, .inr (.inr a0)), (1, .inl x1), (2, .inl x2), (3, .inl x3)] [] h = if sK h a0 = 11 then if okx h (hR h a0 4) 20 3 then EX d 93 39 [(0, .inr (.inr a0)), (2, .inl x2), (3, .inl x3)] [] (pI h (hR h a0 4) 3 x1) else none else none := (EX_at bk_Mod_readChair_32 _ _ _).trans rfl
theorem bk_Mod_readChair_39 : blk 93 39 = some (((cd_Mod_readChair.lookup 39).getD ([], 0, []))) := rfl
theorem Mod_readChair_39 (d : Nat) (a0 : Nat) (x2 : Int) (x3 : Int) (h : Hp) : EX d 93 39 [(0, .inr (.inr a0)), (2, .inl x2), (3, .inl x3)] [] h = if sK h a0 = 11 then if okx h (hR h a0 4) 20 4 then EX d 93 46 [(0, .inr (.inr a0)), (3, .inl x3)] [] (pI h (hR h a0 4) 4 x2) else none else none := (EX_at bk_Mod_readChair_39 _ _ _).trans rfl
theorem bk_Mod_readChair_46 : blk 93 46 = some (((cd_Mod_readChair.lookup 46).getD ([], 0, []))) := rfl
theorem Mod_readChair_46 (d : Nat) (a0 : Nat) (x3 : Int) (h : Hp) : EX d 93 46 [(0, .inr (.inr a0)), (3, .inl x3)] [] h = if sK h a0 = 11 then if okx h (hR h a0 4) 20 5 then EX d 93 53 [] [] (pI h (hR h a0 4) 5 x3) else none else none := (EX_at bk_Mod_readChair_46 _ _ _).trans rfl
theorem bk_Mod_readChair_53 : blk 93 53 = some (((cd_Mod_readChair.lookup 53).getD ([], 0, []))) := rfl
theorem Mod_readChair_53 (d : Nat) (h : Hp) : EX d 93 53 [] [] h = some (.inl 0, h) := (EX_at bk_Mod_readChair_53 _ _ _).trans rfl
/-! readSlip()V of HookOverModel: method 94 -/
theorem bk_Mod_readSlip_0 : blk 94 0 = some (((cd_Mod_readSlip.lookup 0).getD ([], 0, []))) := rfl
theorem Mod_readSlip_0 (d : Nat) (a0 : Nat) (h : Hp) : EX d 94 0 [(0, .inr (.inr a0))] [] h = if sK h a0 = 11 then bak (EX d 94) 7 [(0, .inr (.inr a0))] [] false (cal d 81 [.inr (.inr a0), .inl 0, .inl 9] h) else none := (EX_at bk_Mod_readSlip_0 _ _ _).trans rfl
theorem bk_Mod_readSlip_7 : blk 94 7 = some (((cd_Mod_readSlip.lookup 7).getD ([], 0, []))) := rfl
theorem Mod_readSlip_7 (d : Nat) (a0 : Nat) (s0 : Int) (h : Hp) : EX d 94 7 [(0, .inr (.inr a0))] [.inl s0] h = if sK h a0 = 11 then bak (EX d 94) 16 [(0, .inr (.inr a0)), (1, .inl s0)] [] false (cal d 81 [.inr (.inr a0), .inl 0, .inl 999] h) else none := (EX_at bk_Mod_readSlip_7 _ _ _).trans rfl
theorem bk_Mod_readSlip_16 : blk 94 16 = some (((cd_Mod_readSlip.lookup 16).getD ([], 0, []))) := rfl
theorem Mod_readSlip_16 (d : Nat) (a0 : Nat) (x1 : Int) (s0 : Int) (h : Hp) : EX d 94 16 [(0, .inr (.inr a0)), (1, .inl x1)] [.inl s0] h = if sK h a0 = 11 then if (wr (hI h a0 11)) = 0 then EX d 94 25 [(0, .inr (.inr a0)), (1, .inl x1), (2, .inl s0)] [] h else EX d 94 24 [] [] h else none := (EX_at bk_Mod_readSlip_16 _ _ _).trans rfl
theorem bk_Mod_readSlip_24 : blk 94 24 = some (((cd_Mod_readSlip.lookup 24).getD ([], 0, []))) := rfl
theorem Mod_readSlip_24 (d : Nat) (h : Hp) : EX d 94 24 [] [] h = some (.inl 0, h) := (EX_at bk_Mod_readSlip_24 _ _ _).trans rfl
theorem bk_Mod_readSlip_25 : blk 94 25 = some (((cd_Mod_readSlip.lookup 25).getD ([], 0, []))) := rfl
theorem Mod_readSlip_25 (d : Nat) (a0 : Nat) (x1 : Int) (x2 : Int) (h : Hp) : EX d 94 25 [(0, .inr (.inr a0)), (1, .inl x1), (2, .inl x2)] [] h = if sK h a0 = 11 then if okx h (hR h a0 4) 20 7 then EX d 94 33 [(0, .inr (.inr a0)), (2, .inl x2)] [] (pI h (hR h a0 4) 7 x1) else none else none := (EX_at bk_Mod_readSlip_25 _ _ _).trans rfl
theorem bk_Mod_readSlip_33 : blk 94 33 = some (((cd_Mod_readSlip.lookup 33).getD ([], 0, []))) := rfl
theorem Mod_readSlip_33 (d : Nat) (a0 : Nat) (x2 : Int) (h : Hp) : EX d 94 33 [(0, .inr (.inr a0)), (2, .inl x2)] [] h = if sK h a0 = 11 then if okx h (hR h a0 4) 20 8 then EX d 94 41 [] [] (pI h (hR h a0 4) 8 x2) else none else none := (EX_at bk_Mod_readSlip_33 _ _ _).trans rfl
theorem bk_Mod_readSlip_41 : blk 94 41 = some (((cd_Mod_readSlip.lookup 41).getD ([], 0, []))) := rfl
theorem Mod_readSlip_41 (d : Nat) (h : Hp) : EX d 94 41 [] [] h = some (.inl 0, h) := (EX_at bk_Mod_readSlip_41 _ _ _).trans rfl
/-! isHung()Z of HookOverModel: method 95 -/
theorem bk_Mod_isHung_0 : blk 95 0 = some (((cd_Mod_isHung.lookup 0).getD ([], 0, []))) := rfl
theorem Mod_isHung_0 (d : Nat) (a0 : Nat) (h : Hp) : EX d 95 0 [(0, .inr (.inr a0))] [] h = if sK h a0 = 11 then if okx h (hR h a0 4) 20 1 then if 0 < (wr (hI h (hR h a0 4) 1)) then EX d 95 9 [(0, .inr (.inr a0))] [] h else EX d 95 22 [] [] h else none else none := (EX_at bk_Mod_isHung_0 _ _ _).trans rfl
theorem bk_Mod_isHung_9 : blk 95 9 = some (((cd_Mod_isHung.lookup 9).getD ([], 0, []))) := rfl
theorem Mod_isHung_9 (d : Nat) (a0 : Nat) (h : Hp) : EX d 95 9 [(0, .inr (.inr a0))] [] h = if sK h a0 = 11 then if okx h (hR h a0 4) 20 2 then if 0 < (wr (hI h (hR h a0 4) 2)) then EX d 95 18 [] [] h else EX d 95 22 [] [] h else none else none := (EX_at bk_Mod_isHung_9 _ _ _).trans rfl
theorem bk_Mod_isHung_18 : blk 95 18 = some (((cd_Mod_isHung.lookup 18).getD ([], 0, []))) := rfl
theorem Mod_isHung_18 (d : Nat) (h : Hp) : EX d 95 18 [] [] h = EX d 95 23 [] [.inl 1] h := (EX_at bk_Mod_isHung_18 _ _ _).trans rfl
theorem bk_Mod_isHung_22 : blk 95 22 = some (((cd_Mod_isHung.lookup 22).getD ([], 0, []))) := rfl
theorem Mod_isHung_22 (d : Nat) (h : Hp) : EX d 95 22 [] [] h = EX d 95 23 [] [.inl 0] h := (EX_at bk_Mod_isHung_22 _ _ _).trans rfl
theorem bk_Mod_isHung_23 : blk 95 23 = some (((cd_Mod_isHung.lookup 23).getD ([], 0, []))) := rfl
theorem Mod_isHung_23 (d : Nat) (s0 : Int) (h : Hp) : EX d 95 23 [] [.inl s0] h = if ((s0 : Int) = 0 ∨ (s0 : Int) = 1) then some (.inl s0, h) else none := (EX_at bk_Mod_isHung_23 _ _ _).trans rfl
/-! readMark(II)V of HookOverModel: method 96 -/
theorem bk_Mod_readMark_0 : blk 96 0 = some (((cd_Mod_readMark.lookup 0).getD ([], 0, []))) := rfl
theorem Mod_readMark_0 (d : Nat) (a0 : Nat) (x1 : Int) (x2 : Int) (h : Hp) : EX d 96 0 [(0, .inr (.inr a0)), (1, .inl x1), (2, .inl x2)] [] h = if sK h a0 = 11 then bak (EX d 96) 8 [(0, .inr (.inr a0)), (2, .inl x2)] [] false (cal d 81 [.inr (.inr a0), .inl 0, .inl (x1 - 1)] h) else none := (EX_at bk_Mod_readMark_0 _ _ _).trans rfl
theorem bk_Mod_readMark_8 : blk 96 8 = some (((cd_Mod_readMark.lookup 8).getD ([], 0, []))) := rfl
theorem Mod_readMark_8 (d : Nat) (a0 : Nat) (x2 : Int) (s0 : Int) (h : Hp) : EX d 96 8 [(0, .inr (.inr a0)), (2, .inl x2)] [.inl s0] h = if sK h a0 = 11 then bak (EX d 96) 14 [(0, .inr (.inr a0)), (2, .inl x2), (3, .inl s0)] [] false (cal d 83 [.inr (.inr a0), .inl 3] h) else none := (EX_at bk_Mod_readMark_8 _ _ _).trans rfl
theorem bk_Mod_readMark_14 : blk 96 14 = some (((cd_Mod_readMark.lookup 14).getD ([], 0, []))) := rfl
theorem Mod_readMark_14 (d : Nat) (a0 : Nat) (x2 : Int) (x3 : Int) (s0 : Int) (h : Hp) : EX d 96 14 [(0, .inr (.inr a0)), (2, .inl x2), (3, .inl x3)] [.inl s0] h = if (wr s0) = 0 then EX d 96 17 [(0, .inr (.inr a0)), (2, .inl x2), (3, .inl x3)] [] h else EX d 96 22 [(0, .inr (.inr a0)), (2, .inl x2), (3, .inl x3)] [] h := (EX_at bk_Mod_readMark_14 _ _ _).trans rfl
theorem bk_Mod_readMark_17 : blk 96 17 = some (((cd_Mod_readMark.lookup 17).getD ([], 0, []))) := rfl
theorem Mod_readMark_17 (d : Nat) (a0 : Nat) (x2 : Int) (x3 : Int) (h : Hp) : EX d 96 17 [(0, .inr (.inr a0)), (2, .inl x2), (3, .inl x3)] [] h = if sK h a0 = 11 then bak (EX d 96) 22 [(0, .inr (.inr a0)), (2, .inl x2), (3, .inl x3)] [] true (cal d 80 [.inr (.inr a0), .inl 2] h) else none := (EX_at bk_Mod_readMark_17 _ _ _).trans rfl
theorem bk_Mod_readMark_22 : blk 96 22 = some (((cd_Mod_readMark.lookup 22).getD ([], 0, []))) := rfl
theorem Mod_readMark_22 (d : Nat) (a0 : Nat) (x2 : Int) (x3 : Int) (h : Hp) : EX d 96 22 [(0, .inr (.inr a0)), (2, .inl x2), (3, .inl x3)] [] h = if sK h a0 = 11 then bak (EX d 96) 29 [(0, .inr (.inr a0)), (2, .inl x2), (3, .inl x3)] [] false (cal d 81 [.inr (.inr a0), .inl 0, .inl 99] h) else none := (EX_at bk_Mod_readMark_22 _ _ _).trans rfl
theorem bk_Mod_readMark_29 : blk 96 29 = some (((cd_Mod_readMark.lookup 29).getD ([], 0, []))) := rfl
theorem Mod_readMark_29 (d : Nat) (a0 : Nat) (x2 : Int) (x3 : Int) (s0 : Int) (h : Hp) : EX d 96 29 [(0, .inr (.inr a0)), (2, .inl x2), (3, .inl x3)] [.inl s0] h = if sK h a0 = 11 then if (wr (hI h a0 11)) = 0 then EX d 96 38 [(0, .inr (.inr a0)), (2, .inl x2), (3, .inl x3), (4, .inl s0)] [] h else EX d 96 48 [] [] h else none := (EX_at bk_Mod_readMark_29 _ _ _).trans rfl
theorem bk_Mod_readMark_38 : blk 96 38 = some (((cd_Mod_readMark.lookup 38).getD ([], 0, []))) := rfl
theorem Mod_readMark_38 (d : Nat) (a0 : Nat) (x2 : Int) (x3 : Int) (x4 : Int) (h : Hp) : EX d 96 38 [(0, .inr (.inr a0)), (2, .inl x2), (3, .inl x3), (4, .inl x4)] [] h = if sK h a0 = 11 then if okx h (hR h a0 4) 20 (x2 + x3) then EX d 96 48 [] [] (pI h (hR h a0 4) (ix (x2 + x3)) x4) else none else none := (EX_at bk_Mod_readMark_38 _ _ _).trans rfl
theorem bk_Mod_readMark_48 : blk 96 48 = some (((cd_Mod_readMark.lookup 48).getD ([], 0, []))) := rfl
theorem Mod_readMark_48 (d : Nat) (h : Hp) : EX d 96 48 [] [] h = some (.inl 0, h) := (EX_at bk_Mod_readMark_48 _ _ _).trans rfl
/-! hookAt([II)I of HookOverModel: method 97 -/
theorem bk_Mod_hookAt_0 : blk 97 0 = some (((cd_Mod_hookAt.lookup 0).getD ([], 0, []))) := rfl
theorem Mod_hookAt_0 (d : Nat) (a0 : Nat) (x1 : Int) (h : Hp) : EX d 97 0 [(0, .inr (.inr a0)), (1, .inl x1)] [] h = EX d 97 2 [(0, .inr (.inr a0)), (1, .inl x1), (2, .inl 0)] [] h := (EX_at bk_Mod_hookAt_0 _ _ _).trans rfl
theorem bk_Mod_hookAt_2 : blk 97 2 = some (((cd_Mod_hookAt.lookup 2).getD ([], 0, []))) := rfl
theorem Mod_hookAt_2 (d : Nat) (a0 : Nat) (x1 : Int) (x2 : Int) (h : Hp) : EX d 97 2 [(0, .inr (.inr a0)), (1, .inl x1), (2, .inl x2)] [] h = if okx h a0 20 1 then if (wr x2) < (wr (hI h a0 1)) then EX d 97 9 [(0, .inr (.inr a0)), (1, .inl x1), (2, .inl x2)] [] h else EX d 97 27 [] [] h else none := (EX_at bk_Mod_hookAt_2 _ _ _).trans rfl
theorem bk_Mod_hookAt_9 : blk 97 9 = some (((cd_Mod_hookAt.lookup 9).getD ([], 0, []))) := rfl
theorem Mod_hookAt_9 (d : Nat) (a0 : Nat) (x1 : Int) (x2 : Int) (h : Hp) : EX d 97 9 [(0, .inr (.inr a0)), (1, .inl x1), (2, .inl x2)] [] h = if okx h a0 20 (61 + x2) then if (wr (hI h a0 (ix (61 + x2)))) = (wr x1) then EX d 97 19 [(2, .inl x2)] [] h else EX d 97 21 [(0, .inr (.inr a0)), (1, .inl x1), (2, .inl x2)] [] h else none := (EX_at bk_Mod_hookAt_9 _ _ _).trans rfl
theorem bk_Mod_hookAt_19 : blk 97 19 = some (((cd_Mod_hookAt.lookup 19).getD ([], 0, []))) := rfl
theorem Mod_hookAt_19 (d : Nat) (x2 : Int) (h : Hp) : EX d 97 19 [(2, .inl x2)] [] h = some (.inl x2, h) := (EX_at bk_Mod_hookAt_19 _ _ _).trans rfl
theorem bk_Mod_hookAt_21 : blk 97 21 = some (((cd_Mod_hookAt.lookup 21).getD ([], 0, []))) := rfl
theorem Mod_hookAt_21 (d : Nat) (a0 : Nat) (x1 : Int) (x2 : Int) (h : Hp) : EX d 97 21 [(0, .inr (.inr a0)), (1, .inl x1), (2, .inl x2)] [] h = EX d 97 2 [(0, .inr (.inr a0)), (1, .inl x1), (2, .inl (x2 + 1))] [] h := (EX_at bk_Mod_hookAt_21 _ _ _).trans rfl
theorem bk_Mod_hookAt_27 : blk 97 27 = some (((cd_Mod_hookAt.lookup 27).getD ([], 0, []))) := rfl
theorem Mod_hookAt_27 (d : Nat) (h : Hp) : EX d 97 27 [] [] h = some (.inl (-1), h) := (EX_at bk_Mod_hookAt_27 _ _ _).trans rfl
/-! isIn(JI)Z of HookOverModel: method 98 -/
theorem bk_Mod_isIn_0 : blk 98 0 = some (((cd_Mod_isIn.lookup 0).getD ([], 0, []))) := rfl
theorem Mod_isIn_0 (d : Nat) (y0 : Int) (x2 : Int) (h : Hp) : EX d 98 0 [(0, .inr (.inl y0)), (2, .inl x2)] [] h = if (wr (lCmp (lAnd (lShr y0 x2) 1) 1)) = 0 then EX d 98 10 [] [] h else EX d 98 14 [] [] h := (EX_at bk_Mod_isIn_0 _ _ _).trans rfl
theorem bk_Mod_isIn_10 : blk 98 10 = some (((cd_Mod_isIn.lookup 10).getD ([], 0, []))) := rfl
theorem Mod_isIn_10 (d : Nat) (h : Hp) : EX d 98 10 [] [] h = EX d 98 15 [] [.inl 1] h := (EX_at bk_Mod_isIn_10 _ _ _).trans rfl
theorem bk_Mod_isIn_14 : blk 98 14 = some (((cd_Mod_isIn.lookup 14).getD ([], 0, []))) := rfl
theorem Mod_isIn_14 (d : Nat) (h : Hp) : EX d 98 14 [] [] h = EX d 98 15 [] [.inl 0] h := (EX_at bk_Mod_isIn_14 _ _ _).trans rfl
theorem bk_Mod_isIn_15 : blk 98 15 = some (((cd_Mod_isIn.lookup 15).getD ([], 0, []))) := rfl
theorem Mod_isIn_15 (d : Nat) (s0 : Int) (h : Hp) : EX d 98 15 [] [.inl s0] h = if ((s0 : Int) = 0 ∨ (s0 : Int) = 1) then some (.inl s0, h) else none := (EX_at bk_Mod_isIn_15 _ _ _).trans rfl
/-! sag([IIIII)I of HookOverModel: method 99 -/
theorem bk_Mod_sag_0 : blk 99 0 = some (((cd_Mod_sag.lookup 0).getD ([], 0, []))) := rfl
theorem Mod_sag_0 (d : Nat) (a0 : Nat) (x1 : Int) (x2 : Int) (x3 : Int) (x4 : Int) (h : Hp) : EX d 99 0 [(0, .inr (.inr a0)), (1, .inl x1), (2, .inl x2), (3, .inl x3), (4, .inl x4)] [] h = EX d 99 6 [(0, .inr (.inr a0)), (2, .inl x2), (3, .inl x3), (4, .inl x4), (5, .inl 0), (6, .inl x1)] [] h := (EX_at bk_Mod_sag_0 _ _ _).trans rfl
theorem bk_Mod_sag_6 : blk 99 6 = some (((cd_Mod_sag.lookup 6).getD ([], 0, []))) := rfl
theorem Mod_sag_6 (d : Nat) (a0 : Nat) (x2 : Int) (x3 : Int) (x4 : Int) (x5 : Int) (x6 : Int) (h : Hp) : EX d 99 6 [(0, .inr (.inr a0)), (2, .inl x2), (3, .inl x3), (4, .inl x4), (5, .inl x5), (6, .inl x6)] [] h = if (wr x6) < (wr x3) then EX d 99 12 [(0, .inr (.inr a0)), (2, .inl x2), (3, .inl x3), (4, .inl x4), (5, .inl x5), (6, .inl x6)] [] h else EX d 99 30 [(0, .inr (.inr a0)), (2, .inl x2), (4, .inl x4), (5, .inl x5)] [] h := (EX_at bk_Mod_sag_6 _ _ _).trans rfl
theorem bk_Mod_sag_12 : blk 99 12 = some (((cd_Mod_sag.lookup 12).getD ([], 0, []))) := rfl
theorem Mod_sag_12 (d : Nat) (a0 : Nat) (x2 : Int) (x3 : Int) (x4 : Int) (x5 : Int) (x6 : Int) (h : Hp) : EX d 99 12 [(0, .inr (.inr a0)), (2, .inl x2), (3, .inl x3), (4, .inl x4), (5, .inl x5), (6, .inl x6)] [] h = if okx h a0 20 (11 + x6) then EX d 99 6 [(0, .inr (.inr a0)), (2, .inl x2), (3, .inl x3), (4, .inl x4), (5, .inl (x5 + (hI h a0 (ix (11 + x6))))), (6, .inl (x6 + 1))] [] h else none := (EX_at bk_Mod_sag_12 _ _ _).trans rfl
theorem bk_Mod_sag_30 : blk 99 30 = some (((cd_Mod_sag.lookup 30).getD ([], 0, []))) := rfl
theorem Mod_sag_30 (d : Nat) (a0 : Nat) (x2 : Int) (x4 : Int) (x5 : Int) (h : Hp) : EX d 99 30 [(0, .inr (.inr a0)), (2, .inl x2), (4, .inl x4), (5, .inl x5)] [] h = EX d 99 33 [(0, .inr (.inr a0)), (4, .inl x4), (5, .inl x5), (6, .inl x2)] [] h := (EX_at bk_Mod_sag_30 _ _ _).trans rfl
theorem bk_Mod_sag_33 : blk 99 33 = some (((cd_Mod_sag.lookup 33).getD ([], 0, []))) := rfl
theorem Mod_sag_33 (d : Nat) (a0 : Nat) (x4 : Int) (x5 : Int) (x6 : Int) (h : Hp) : EX d 99 33 [(0, .inr (.inr a0)), (4, .inl x4), (5, .inl x5), (6, .inl x6)] [] h = if (wr x6) < (wr x4) then EX d 99 40 [(0, .inr (.inr a0)), (4, .inl x4), (5, .inl x5), (6, .inl x6)] [] h else EX d 99 58 [(5, .inl x5)] [] h := (EX_at bk_Mod_sag_33 _ _ _).trans rfl
theorem bk_Mod_sag_40 : blk 99 40 = some (((cd_Mod_sag.lookup 40).getD ([], 0, []))) := rfl
theorem Mod_sag_40 (d : Nat) (a0 : Nat) (x4 : Int) (x5 : Int) (x6 : Int) (h : Hp) : EX d 99 40 [(0, .inr (.inr a0)), (4, .inl x4), (5, .inl x5), (6, .inl x6)] [] h = if okx h a0 20 (23 + x6) then EX d 99 33 [(0, .inr (.inr a0)), (4, .inl x4), (5, .inl (x5 - (hI h a0 (ix (23 + x6))))), (6, .inl (x6 + 1))] [] h else none := (EX_at bk_Mod_sag_40 _ _ _).trans rfl
theorem bk_Mod_sag_58 : blk 99 58 = some (((cd_Mod_sag.lookup 58).getD ([], 0, []))) := rfl
theorem Mod_sag_58 (d : Nat) (x5 : Int) (h : Hp) : EX d 99 58 [(5, .inl x5)] [] h = some (.inl x5, h) := (EX_at bk_Mod_sag_58 _ _ _).trans rfl
/-! whyNot([III)I of HookOverModel: method 100 -/
theorem bk_Mod_whyNot_0 : blk 100 0 = some (((cd_Mod_whyNot.lookup 0).getD ([], 0, []))) := rfl
theorem Mod_whyNot_0 (d : Nat) (a0 : Nat) (x1 : Int) (x2 : Int) (h : Hp) : EX d 100 0 [(0, .inr (.inr a0)), (1, .inl x1), (2, .inl x2)] [] h = if okx h a0 20 1 then bak (EX d 100) 12 [(0, .inr (.inr a0)), (1, .inl x1), (2, .inl x2)] [] false (cal d 73 [.inr (.inl (wr x1)), .inr (.inl 0), .inr (.inl (wr ((hI h a0 1) - 1)))] h) else none := (EX_at bk_Mod_whyNot_0 _ _ _).trans rfl
theorem bk_Mod_whyNot_12 : blk 100 12 = some (((cd_Mod_whyNot.lookup 12).getD ([], 0, []))) := rfl
theorem Mod_whyNot_12 (d : Nat) (a0 : Nat) (x1 : Int) (x2 : Int) (s0 : Int) (h : Hp) : EX d 100 12 [(0, .inr (.inr a0)), (1, .inl x1), (2, .inl x2)] [.inl s0] h = if (wr s0) = 0 then EX d 100 30 [] [] h else EX d 100 15 [(0, .inr (.inr a0)), (1, .inl x1), (2, .inl x2)] [] h := (EX_at bk_Mod_whyNot_12 _ _ _).trans rfl
theorem bk_Mod_whyNot_15 : blk 100 15 = some (((cd_Mod_whyNot.lookup 15).getD ([], 0, []))) := rfl
theorem Mod_whyNot_15 (d : Nat) (a0 : Nat) (x1 : Int) (x2 : Int) (h : Hp) : EX d 100 15 [(0, .inr (.inr a0)), (1, .inl x1), (2, .inl x2)] [] h = if okx h a0 20 2 then bak (EX d 100) 27 [(0, .inr (.inr a0)), (1, .inl x1), (2, .inl x2)] [] false (cal d 73 [.inr (.inl (wr x2)), .inr (.inl 0), .inr (.inl (wr ((hI h a0 2) - 1)))] h) else none := (EX_at bk_Mod_whyNot_15 _ _ _).trans rfl
theorem bk_Mod_whyNot_27 : blk 100 27 = some (((cd_Mod_whyNot.lookup 27).getD ([], 0, []))) := rfl
theorem Mod_whyNot_27 (d : Nat) (a0 : Nat) (x1 : Int) (x2 : Int) (s0 : Int) (h : Hp) : EX d 100 27 [(0, .inr (.inr a0)), (1, .inl x1), (2, .inl x2)] [.inl s0] h = if (wr s0) = 0 then EX d 100 30 [] [] h else EX d 100 32 [(0, .inr (.inr a0)), (1, .inl x1), (2, .inl x2)] [] h := (EX_at bk_Mod_whyNot_27 _ _ _).trans rfl
theorem bk_Mod_whyNot_30 : blk 100 30 = some (((cd_Mod_whyNot.lookup 30).getD ([], 0, []))) := rfl
theorem Mod_whyNot_30 (d : Nat) (h : Hp) : EX d 100 30 [] [] h = some (.inl 1, h) := (EX_at bk_Mod_whyNot_30 _ _ _).trans rfl
theorem bk_Mod_whyNot_32 : blk 100 32 = some (((cd_Mod_whyNot.lookup 32).getD ([], 0, []))) := rfl
theorem Mod_whyNot_32 (d : Nat) (a0 : Nat) (x1 : Int) (x2 : Int) (h : Hp) : EX d 100 32 [(0, .inr (.inr a0)), (1, .inl x1), (2, .inl x2)] [] h = if okx h a0 20 (61 + x1) then if (wr (hI h a0 (ix (61 + x1)))) = (-1) then EX d 100 42 [(0, .inr (.inr a0)), (1, .inl x1), (2, .inl x2)] [] h else EX d 100 63 [] [] h else none := (EX_at bk_Mod_whyNot_32 _ _ _).trans rfl
theorem bk_Mod_whyNot_42 : blk 100 42 = some (((cd_Mod_whyNot.lookup 42).getD ([], 0, []))) := rfl
theorem Mod_whyNot_42 (d : Nat) (a0 : Nat) (x1 : Int) (x2 : Int) (h : Hp) : EX d 100 42 [(0, .inr (.inr a0)), (1, .inl x1), (2, .inl x2)] [] h = bak (EX d 100) 47 [(0, .inr (.inr a0)), (1, .inl x1), (2, .inl x2)] [] false (cal d 97 [.inr (.inr a0), .inl x2] h) := (EX_at bk_Mod_whyNot_42 _ _ _).trans rfl
theorem bk_Mod_whyNot_47 : blk 100 47 = some (((cd_Mod_whyNot.lookup 47).getD ([], 0, []))) := rfl
theorem Mod_whyNot_47 (d : Nat) (a0 : Nat) (x1 : Int) (x2 : Int) (s0 : Int) (h : Hp) : EX d 100 47 [(0, .inr (.inr a0)), (1, .inl x1), (2, .inl x2)] [.inl s0] h = if (wr s0) = (-1) then EX d 100 51 [(0, .inr (.inr a0)), (1, .inl x1), (2, .inl x2)] [] h else EX d 100 63 [] [] h := (EX_at bk_Mod_whyNot_47 _ _ _).trans rfl
theorem bk_Mod_whyNot_51 : blk 100 51 = some (((cd_Mod_whyNot.lookup 51).getD ([], 0, []))) := rfl
theorem Mod_whyNot_51 (d : Nat) (a0 : Nat) (x1 : Int) (x2 : Int) (h : Hp) : EX d 100 51 [(0, .inr (.inr a0)), (1, .inl x1), (2, .inl x2)] [] h = if okx h a0 20 10 then bak (EX d 100) 60 [(0, .inr (.inr a0)), (1, .inl x1), (2, .inl x2)] [] false (cal d 98 [.inr (.inl (wr (hI h a0 10))), .inl x2] h) else none := (EX_at bk_Mod_whyNot_51 _ _ _).trans rfl
theorem bk_Mod_whyNot_60 : blk 100 60 = some (((cd_Mod_whyNot.lookup 60).getD ([], 0, []))) := rfl
theorem Mod_whyNot_60 (d : Nat) (a0 : Nat) (x1 : Int) (x2 : Int) (s0 : Int) (h : Hp) : EX d 100 60 [(0, .inr (.inr a0)), (1, .inl x1), (2, .inl x2)] [.inl s0] h = if (wr s0) = 0 then EX d 100 65 [(0, .inr (.inr a0)), (1, .inl x1), (2, .inl x2)] [] h else EX d 100 63 [] [] h := (EX_at bk_Mod_whyNot_60 _ _ _).trans rfl
theorem bk_Mod_whyNot_63 : blk 100 63 = some (((cd_Mod_whyNot.lookup 63).getD ([], 0, []))) := rfl
theorem Mod_whyNot_63 (d : Nat) (h : Hp) : EX d 100 63 [] [] h = some (.inl 2, h) := (EX_at bk_Mod_whyNot_63 _ _ _).trans rfl
theorem bk_Mod_whyNot_65 : blk 100 65 = some (((cd_Mod_whyNot.lookup 65).getD ([], 0, []))) := rfl
theorem Mod_whyNot_65 (d : Nat) (a0 : Nat) (x1 : Int) (x2 : Int) (h : Hp) : EX d 100 65 [(0, .inr (.inr a0)), (1, .inl x1), (2, .inl x2)] [] h = EX d 100 73 [(0, .inr (.inr a0)), (1, .inl x1), (2, .inl x2), (3, .inl (-1)), (4, .inl (-1)), (5, .inl 0)] [] h := (EX_at bk_Mod_whyNot_65 _ _ _).trans rfl
theorem bk_Mod_whyNot_73 : blk 100 73 = some (((cd_Mod_whyNot.lookup 73).getD ([], 0, []))) := rfl
theorem Mod_whyNot_73 (d : Nat) (a0 : Nat) (x1 : Int) (x2 : Int) (x3 : Int) (x4 : Int) (x5 : Int) (h : Hp) : EX d 100 73 [(0, .inr (.inr a0)), (1, .inl x1), (2, .inl x2), (3, .inl x3), (4, .inl x4), (5, .inl x5)] [] h = if okx h a0 20 1 then if (wr x5) < (wr (hI h a0 1)) then EX d 100 81 [(0, .inr (.inr a0)), (1, .inl x1), (2, .inl x2), (3, .inl x3), (4, .inl x4), (5, .inl x5)] [] h else EX d 100 156 [(0, .inr (.inr a0)), (1, .inl x1), (2, .inl x2), (3, .inl x3), (4, .inl x4)] [] h else none := (EX_at bk_Mod_whyNot_73 _ _ _).trans rfl
theorem bk_Mod_whyNot_81 : blk 100 81 = some (((cd_Mod_whyNot.lookup 81).getD ([], 0, []))) := rfl
theorem Mod_whyNot_81 (d : Nat) (a0 : Nat) (x1 : Int) (x2 : Int) (x3 : Int) (x4 : Int) (x5 : Int) (h : Hp) : EX d 100 81 [(0, .inr (.inr a0)), (1, .inl x1), (2, .inl x2), (3, .inl x3), (4, .inl x4), (5, .inl x5)] [] h = if okx h a0 20 (61 + x5) then if (wr (hI h a0 (ix (61 + x5)))) = (-1) then EX d 100 92 [(0, .inr (.inr a0)), (1, .inl x1), (2, .inl x2), (3, .inl x3), (4, .inl x4), (5, .inl x5)] [] h else EX d 100 95 [(0, .inr (.inr a0)), (1, .inl x1), (2, .inl x2), (3, .inl x3), (4, .inl x4), (5, .inl x5)] [] h else none := (EX_at bk_Mod_whyNot_81 _ _ _).trans rfl
theorem bk_Mod_whyNot_92 : blk 100 92 = some (((cd_Mod_whyNot.lookup 92).getD ([], 0, []))) := rfl
theorem Mod_whyNot_92 (d : Nat) (a0 : Nat) (x1 : Int) (x2 : Int) (x3 : Int) (x4 : Int) (x5 : Int) (h : Hp) : EX d 100 92 [(0, .inr (.inr a0)), (1, .inl x1), (2, .inl x2), (3, .inl x3), (4, .inl x4), (5, .inl x5)] [] h = EX d 100 150 [(0, .inr (.inr a0)), (1, .inl x1), (2, .inl x2), (3, .inl x3), (4, .inl x4), (5, .inl x5)] [] h := (EX_at bk_Mod_whyNot_92 _ _ _).trans rfl
theorem bk_Mod_whyNot_95 : blk 100 95 = some (((cd_Mod_whyNot.lookup 95).getD ([], 0, []))) := rfl
theorem Mod_whyNot_95 (d : Nat) (a0 : Nat) (x1 : Int) (x2 : Int) (x3 : Int) (x4 : Int) (x5 : Int) (h : Hp) : EX d 100 95 [(0, .inr (.inr a0)), (1, .inl x1), (2, .inl x2), (3, .inl x3), (4, .inl x4), (5, .inl x5)] [] h = if (wr x5) < (wr x1) then EX d 100 101 [(0, .inr (.inr a0)), (1, .inl x1), (2, .inl x2), (3, .inl x3), (4, .inl x4), (5, .inl x5)] [] h else EX d 100 115 [(0, .inr (.inr a0)), (1, .inl x1), (2, .inl x2), (3, .inl x3), (4, .inl x4), (5, .inl x5)] [] h := (EX_at bk_Mod_whyNot_95 _ _ _).trans rfl
theorem bk_Mod_whyNot_101 : blk 100 101 = some (((cd_Mod_whyNot.lookup 101).getD ([], 0, []))) := rfl
theorem Mod_whyNot_101 (d : Nat) (a0 : Nat) (x1 : Int) (x2 : Int) (x3 : Int) (x4 : Int) (x5 : Int) (h : Hp) : EX d 100 101 [(0, .inr (.inr a0)), (1, .inl x1), (2, .inl x2), (3, .inl x3), (4, .inl x4), (5, .inl x5)] [] h = if okx h a0 20 (61 + x5) then if (wr x2) < (wr (hI h a0 (ix (61 + x5)))) then EX d 100 112 [] [] h else EX d 100 128 [(0, .inr (.inr a0)), (1, .inl x1), (2, .inl x2), (3, .inl x3), (4, .inl x4), (5, .inl x5)] [] h else none := (EX_at bk_Mod_whyNot_101 _ _ _).trans rfl
theorem bk_Mod_whyNot_112 : blk 100 112 = some (((cd_Mod_whyNot.lookup 112).getD ([], 0, []))) := rfl
theorem Mod_whyNot_112 (d : Nat) (h : Hp) : EX d 100 112 [] [] h = EX d 100 126 [] [] h := (EX_at bk_Mod_whyNot_112 _ _ _).trans rfl
theorem bk_Mod_whyNot_115 : blk 100 115 = some (((cd_Mod_whyNot.lookup 115).getD ([], 0, []))) := rfl
theorem Mod_whyNot_115 (d : Nat) (a0 : Nat) (x1 : Int) (x2 : Int) (x3 : Int) (x4 : Int) (x5 : Int) (h : Hp) : EX d 100 115 [(0, .inr (.inr a0)), (1, .inl x1), (2, .inl x2), (3, .inl x3), (4, .inl x4), (5, .inl x5)] [] h = if okx h a0 20 (61 + x5) then if (wr (hI h a0 (ix (61 + x5)))) < (wr x2) then EX d 100 126 [] [] h else EX d 100 128 [(0, .inr (.inr a0)), (1, .inl x1), (2, .inl x2), (3, .inl x3), (4, .inl x4), (5, .inl x5)] [] h else none := (EX_at bk_Mod_whyNot_115 _ _ _).trans rfl
theorem bk_Mod_whyNot_126 : blk 100 126 = some (((cd_Mod_whyNot.lookup 126).getD ([], 0, []))) := rfl
theorem Mod_whyNot_126 (d : Nat) (h : Hp) : EX d 100 126 [] [] h = some (.inl 3, h) := (EX_at bk_Mod_whyNot_126 _ _ _).trans rfl
theorem bk_Mod_whyNot_128 : blk 100 128 = some (((cd_Mod_whyNot.lookup 128).getD ([], 0, []))) := rfl
theorem Mod_whyNot_128 (d : Nat) (a0 : Nat) (x1 : Int) (x2 : Int) (x3 : Int) (x4 : Int) (x5 : Int) (h : Hp) : EX d 100 128 [(0, .inr (.inr a0)), (1, .inl x1), (2, .inl x2), (3, .inl x3), (4, .inl x4), (5, .inl x5)] [] h = if (wr x5) < (wr x1) then EX d 100 134 [(0, .inr (.inr a0)), (1, .inl x1), (2, .inl x2), (4, .inl x4), (5, .inl x5)] [] h else EX d 100 140 [(0, .inr (.inr a0)), (1, .inl x1), (2, .inl x2), (3, .inl x3), (4, .inl x4), (5, .inl x5)] [] h := (EX_at bk_Mod_whyNot_128 _ _ _).trans rfl
theorem bk_Mod_whyNot_134 : blk 100 134 = some (((cd_Mod_whyNot.lookup 134).getD ([], 0, []))) := rfl
theorem Mod_whyNot_134 (d : Nat) (a0 : Nat) (x1 : Int) (x2 : Int) (x4 : Int) (x5 : Int) (h : Hp) : EX d 100 134 [(0, .inr (.inr a0)), (1, .inl x1), (2, .inl x2), (4, .inl x4), (5, .inl x5)] [] h = EX d 100 150 [(0, .inr (.inr a0)), (1, .inl x1), (2, .inl x2), (3, .inl x5), (4, .inl x4), (5, .inl x5)] [] h := (EX_at bk_Mod_whyNot_134 _ _ _).trans rfl
theorem bk_Mod_whyNot_140 : blk 100 140 = some (((cd_Mod_whyNot.lookup 140).getD ([], 0, []))) := rfl
theorem Mod_whyNot_140 (d : Nat) (a0 : Nat) (x1 : Int) (x2 : Int) (x3 : Int) (x4 : Int) (x5 : Int) (h : Hp) : EX d 100 140 [(0, .inr (.inr a0)), (1, .inl x1), (2, .inl x2), (3, .inl x3), (4, .inl x4), (5, .inl x5)] [] h = if (wr x4) = (-1) then EX d 100 146 [(0, .inr (.inr a0)), (1, .inl x1), (2, .inl x2), (3, .inl x3), (5, .inl x5)] [] h else EX d 100 150 [(0, .inr (.inr a0)), (1, .inl x1), (2, .inl x2), (3, .inl x3), (4, .inl x4), (5, .inl x5)] [] h := (EX_at bk_Mod_whyNot_140 _ _ _).trans rfl
theorem bk_Mod_whyNot_146 : blk 100 146 = some (((cd_Mod_whyNot.lookup 146).getD ([], 0, []))) := rfl
theorem Mod_whyNot_146 (d : Nat) (a0 : Nat) (x1 : Int) (x2 : Int) (x3 : Int) (x5 : Int) (h : Hp) : EX d 100 146 [(0, .inr (.inr a0)), (1, .inl x1), (2, .inl x2), (3, .inl x3), (5, .inl x5)] [] h = EX d 100 150 [(0, .inr (.inr a0)), (1, .inl x1), (2, .inl x2), (3, .inl x3), (4, .inl x5), (5, .inl x5)] [] h := (EX_at bk_Mod_whyNot_146 _ _ _).trans rfl
theorem bk_Mod_whyNot_150 : blk 100 150 = some (((cd_Mod_whyNot.lookup 150).getD ([], 0, []))) := rfl
theorem Mod_whyNot_150 (d : Nat) (a0 : Nat) (x1 : Int) (x2 : Int) (x3 : Int) (x4 : Int) (x5 : Int) (h : Hp) : EX d 100 150 [(0, .inr (.inr a0)), (1, .inl x1), (2, .inl x2), (3, .inl x3), (4, .inl x4), (5, .inl x5)] [] h = EX d 100 73 [(0, .inr (.inr a0)), (1, .inl x1), (2, .inl x2), (3, .inl x3), (4, .inl x4), (5, .inl (x5 + 1))] [] h := (EX_at bk_Mod_whyNot_150 _ _ _).trans rfl
theorem bk_Mod_whyNot_156 : blk 100 156 = some (((cd_Mod_whyNot.lookup 156).getD ([], 0, []))) := rfl
theorem Mod_whyNot_156 (d : Nat) (a0 : Nat) (x1 : Int) (x2 : Int) (x3 : Int) (x4 : Int) (h : Hp) : EX d 100 156 [(0, .inr (.inr a0)), (1, .inl x1), (2, .inl x2), (3, .inl x3), (4, .inl x4)] [] h = if (wr x3) = (-1) then EX d 100 179 [(0, .inr (.inr a0)), (1, .inl x1), (2, .inl x2), (4, .inl x4)] [] h else EX d 100 161 [(0, .inr (.inr a0)), (1, .inl x1), (2, .inl x2), (3, .inl x3), (4, .inl x4)] [] h := (EX_at bk_Mod_whyNot_156 _ _ _).trans rfl
theorem bk_Mod_whyNot_161 : blk 100 161 = some (((cd_Mod_whyNot.lookup 161).getD ([], 0, []))) := rfl
theorem Mod_whyNot_161 (d : Nat) (a0 : Nat) (x1 : Int) (x2 : Int) (x3 : Int) (x4 : Int) (h : Hp) : EX d 100 161 [(0, .inr (.inr a0)), (1, .inl x1), (2, .inl x2), (3, .inl x3), (4, .inl x4)] [] h = if okx h a0 20 (61 + x3) then bak (EX d 100) 174 [(0, .inr (.inr a0)), (1, .inl x1), (2, .inl x2), (4, .inl x4)] [] false (cal d 99 [.inr (.inr a0), .inl x3, .inl (hI h a0 (ix (61 + x3))), .inl x1, .inl x2] h) else none := (EX_at bk_Mod_whyNot_161 _ _ _).trans rfl
theorem bk_Mod_whyNot_174 : blk 100 174 = some (((cd_Mod_whyNot.lookup 174).getD ([], 0, []))) := rfl
theorem Mod_whyNot_174 (d : Nat) (a0 : Nat) (x1 : Int) (x2 : Int) (x4 : Int) (s0 : Int) (h : Hp) : EX d 100 174 [(0, .inr (.inr a0)), (1, .inl x1), (2, .inl x2), (4, .inl x4)] [.inl s0] h = if (wr s0) < 0 then EX d 100 177 [] [] h else EX d 100 179 [(0, .inr (.inr a0)), (1, .inl x1), (2, .inl x2), (4, .inl x4)] [] h := (EX_at bk_Mod_whyNot_174 _ _ _).trans rfl
theorem bk_Mod_whyNot_177 : blk 100 177 = some (((cd_Mod_whyNot.lookup 177).getD ([], 0, []))) := rfl
theorem Mod_whyNot_177 (d : Nat) (h : Hp) : EX d 100 177 [] [] h = some (.inl 4, h) := (EX_at bk_Mod_whyNot_177 _ _ _).trans rfl
theorem bk_Mod_whyNot_179 : blk 100 179 = some (((cd_Mod_whyNot.lookup 179).getD ([], 0, []))) := rfl
theorem Mod_whyNot_179 (d : Nat) (a0 : Nat) (x1 : Int) (x2 : Int) (x4 : Int) (h : Hp) : EX d 100 179 [(0, .inr (.inr a0)), (1, .inl x1), (2, .inl x2), (4, .inl x4)] [] h = if (wr x4) = (-1) then EX d 100 207 [] [] h else EX d 100 185 [(0, .inr (.inr a0)), (1, .inl x1), (2, .inl x2), (4, .inl x4)] [] h := (EX_at bk_Mod_whyNot_179 _ _ _).trans rfl
theorem bk_Mod_whyNot_185 : blk 100 185 = some (((cd_Mod_whyNot.lookup 185).getD ([], 0, []))) := rfl
theorem Mod_whyNot_185 (d : Nat) (a0 : Nat) (x1 : Int) (x2 : Int) (x4 : Int) (h : Hp) : EX d 100 185 [(0, .inr (.inr a0)), (1, .inl x1), (2, .inl x2), (4, .inl x4)] [] h = if okx h a0 20 (61 + x4) then bak (EX d 100) 200 [] [] false (cal d 99 [.inr (.inr a0), .inl x1, .inl x2, .inl x4, .inl (hI h a0 (ix (61 + x4)))] h) else none := (EX_at bk_Mod_whyNot_185 _ _ _).trans rfl
theorem bk_Mod_whyNot_200 : blk 100 200 = some (((cd_Mod_whyNot.lookup 200).getD ([], 0, []))) := rfl
theorem Mod_whyNot_200 (d : Nat) (s0 : Int) (h : Hp) : EX d 100 200 [] [.inl s0] h = if (wr s0) < 0 then EX d 100 203 [] [] h else EX d 100 207 [] [] h := (EX_at bk_Mod_whyNot_200 _ _ _).trans rfl
theorem bk_Mod_whyNot_203 : blk 100 203 = some (((cd_Mod_whyNot.lookup 203).getD ([], 0, []))) := rfl
theorem Mod_whyNot_203 (d : Nat) (h : Hp) : EX d 100 203 [] [] h = EX d 100 208 [] [.inl 4] h := (EX_at bk_Mod_whyNot_203 _ _ _).trans rfl
theorem bk_Mod_whyNot_207 : blk 100 207 = some (((cd_Mod_whyNot.lookup 207).getD ([], 0, []))) := rfl
theorem Mod_whyNot_207 (d : Nat) (h : Hp) : EX d 100 207 [] [] h = EX d 100 208 [] [.inl 0] h := (EX_at bk_Mod_whyNot_207 _ _ _).trans rfl
theorem bk_Mod_whyNot_208 : blk 100 208 = some (((cd_Mod_whyNot.lookup 208).getD ([], 0, []))) := rfl
theorem Mod_whyNot_208 (d : Nat) (s0 : Int) (h : Hp) : EX d 100 208 [] [.inl s0] h = some (.inl s0, h) := (EX_at bk_Mod_whyNot_208 _ _ _).trans rfl
/-! readJoin()V of HookOverModel: method 101 -/
theorem bk_Mod_readJoin_0 : blk 101 0 = some (((cd_Mod_readJoin.lookup 0).getD ([], 0, []))) := rfl
theorem Mod_readJoin_0 (d : Nat) (a0 : Nat) (h : Hp) : EX d 101 0 [(0, .inr (.inr a0))] [] h = if sK h a0 = 11 then if okx h (hR h a0 4) 20 1 then if sK h a0 = 11 then bak (EX d 101) 13 [(0, .inr (.inr a0))] [] false (cal d 81 [.inr (.inr a0), .inl 0, .inl ((hI h (hR h a0 4) 1) - 1)] h) else none else none else none := (EX_at bk_Mod_readJoin_0 _ _ _).trans rfl
theorem bk_Mod_readJoin_13 : blk 101 13 = some (((cd_Mod_readJoin.lookup 13).getD ([], 0, []))) := rfl
theorem Mod_readJoin_13 (d : Nat) (a0 : Nat) (s0 : Int) (h : Hp) : EX d 101 13 [(0, .inr (.inr a0))] [.inl s0] h = if sK h a0 = 11 then if (wr (hI h a0 11)) = 0 then EX d 101 21 [(0, .inr (.inr a0)), (1, .inl s0)] [] h else EX d 101 71 [(0, .inr (.inr a0)), (1, .inl s0)] [] h else none := (EX_at bk_Mod_readJoin_13 _ _ _).trans rfl
theorem bk_Mod_readJoin_21 : blk 101 21 = some (((cd_Mod_readJoin.lookup 21).getD ([], 0, []))) := rfl
theorem Mod_readJoin_21 (d : Nat) (a0 : Nat) (x1 : Int) (h : Hp) : EX d 101 21 [(0, .inr (.inr a0)), (1, .inl x1)] [] h = if sK h a0 = 11 then bak (EX d 101) 27 [(0, .inr (.inr a0)), (1, .inl x1)] [] false (cal d 79 [.inr (.inr a0), .inl 21] h) else none := (EX_at bk_Mod_readJoin_21 _ _ _).trans rfl
theorem bk_Mod_readJoin_27 : blk 101 27 = some (((cd_Mod_readJoin.lookup 27).getD ([], 0, []))) := rfl
theorem Mod_readJoin_27 (d : Nat) (a0 : Nat) (x1 : Int) (s0 : Int) (h : Hp) : EX d 101 27 [(0, .inr (.inr a0)), (1, .inl x1)] [.inl s0] h = if (wr s0) = 0 then EX d 101 71 [(0, .inr (.inr a0)), (1, .inl x1)] [] h else EX d 101 30 [(0, .inr (.inr a0)), (1, .inl x1)] [] h := (EX_at bk_Mod_readJoin_27 _ _ _).trans rfl
theorem bk_Mod_readJoin_30 : blk 101 30 = some (((cd_Mod_readJoin.lookup 30).getD ([], 0, []))) := rfl
theorem Mod_readJoin_30 (d : Nat) (a0 : Nat) (x1 : Int) (h : Hp) : EX d 101 30 [(0, .inr (.inr a0)), (1, .inl x1)] [] h = if sK h a0 = 11 then if sK h a0 = 11 then if okx h (hR h a0 4) 20 2 then bak (EX d 101) 48 [(0, .inr (.inr a0)), (1, .inl x1)] [] false (cal d 73 [.inr (.inl (wr (hI h a0 10))), .inr (.inl 0), .inr (.inl (wr ((hI h (hR h a0 4) 2) - 1)))] h) else none else none else none := (EX_at bk_Mod_readJoin_30 _ _ _).trans rfl
theorem bk_Mod_readJoin_48 : blk 101 48 = some (((cd_Mod_readJoin.lookup 48).getD ([], 0, []))) := rfl
theorem Mod_readJoin_48 (d : Nat) (a0 : Nat) (x1 : Int) (s0 : Int) (h : Hp) : EX d 101 48 [(0, .inr (.inr a0)), (1, .inl x1)] [.inl s0] h = if (wr s0) = 0 then EX d 101 66 [(0, .inr (.inr a0)), (1, .inl x1)] [] h else EX d 101 51 [(0, .inr (.inr a0)), (1, .inl x1)] [] h := (EX_at bk_Mod_readJoin_48 _ _ _).trans rfl
theorem bk_Mod_readJoin_51 : blk 101 51 = some (((cd_Mod_readJoin.lookup 51).getD ([], 0, []))) := rfl
theorem Mod_readJoin_51 (d : Nat) (a0 : Nat) (x1 : Int) (h : Hp) : EX d 101 51 [(0, .inr (.inr a0)), (1, .inl x1)] [] h = if sK h a0 = 11 then if sK h a0 = 11 then bak (EX d 101) 63 [(0, .inr (.inr a0)), (1, .inl x1)] [] false (cal d 100 [.inr (.inr (hR h a0 4)), .inl x1, .inl (hI h a0 10)] h) else none else none := (EX_at bk_Mod_readJoin_51 _ _ _).trans rfl
theorem bk_Mod_readJoin_63 : blk 101 63 = some (((cd_Mod_readJoin.lookup 63).getD ([], 0, []))) := rfl
theorem Mod_readJoin_63 (d : Nat) (a0 : Nat) (x1 : Int) (s0 : Int) (h : Hp) : EX d 101 63 [(0, .inr (.inr a0)), (1, .inl x1)] [.inl s0] h = if (wr s0) = 0 then EX d 101 71 [(0, .inr (.inr a0)), (1, .inl x1)] [] h else EX d 101 66 [(0, .inr (.inr a0)), (1, .inl x1)] [] h := (EX_at bk_Mod_readJoin_63 _ _ _).trans rfl
theorem bk_Mod_readJoin_66 : blk 101 66 = some (((cd_Mod_readJoin.lookup 66).getD ([], 0, []))) := rfl
theorem Mod_readJoin_66 (d : Nat) (a0 : Nat) (x1 : Int) (h : Hp) : EX d 101 66 [(0, .inr (.inr a0)), (1, .inl x1)] [] h = if sK h a0 = 11 then bak (EX d 101) 71 [(0, .inr (.inr a0)), (1, .inl x1)] [] true (cal d 80 [.inr (.inr a0), .inl 3] h) else none := (EX_at bk_Mod_readJoin_66 _ _ _).trans rfl
theorem bk_Mod_readJoin_71 : blk 101 71 = some (((cd_Mod_readJoin.lookup 71).getD ([], 0, []))) := rfl
theorem Mod_readJoin_71 (d : Nat) (a0 : Nat) (x1 : Int) (h : Hp) : EX d 101 71 [(0, .inr (.inr a0)), (1, .inl x1)] [] h = if sK h a0 = 11 then if okx h (hR h a0 4) 20 2 then if sK h a0 = 11 then bak (EX d 101) 84 [(0, .inr (.inr a0)), (1, .inl x1)] [] false (cal d 81 [.inr (.inr a0), .inl 0, .inl ((hI h (hR h a0 4) 2) - 1)] h) else none else none else none := (EX_at bk_Mod_readJoin_71 _ _ _).trans rfl
theorem bk_Mod_readJoin_84 : blk 101 84 = some (((cd_Mod_readJoin.lookup 84).getD ([], 0, []))) := rfl
theorem Mod_readJoin_84 (d : Nat) (a0 : Nat) (x1 : Int) (s0 : Int) (h : Hp) : EX d 101 84 [(0, .inr (.inr a0)), (1, .inl x1)] [.inl s0] h = if sK h a0 = 11 then if (wr (hI h a0 11)) = 0 then EX d 101 92 [(0, .inr (.inr a0)), (1, .inl x1), (2, .inl s0)] [] h else EX d 101 102 [] [] h else none := (EX_at bk_Mod_readJoin_84 _ _ _).trans rfl
theorem bk_Mod_readJoin_92 : blk 101 92 = some (((cd_Mod_readJoin.lookup 92).getD ([], 0, []))) := rfl
theorem Mod_readJoin_92 (d : Nat) (a0 : Nat) (x1 : Int) (x2 : Int) (h : Hp) : EX d 101 92 [(0, .inr (.inr a0)), (1, .inl x1), (2, .inl x2)] [] h = if sK h a0 = 11 then if okx h (hR h a0 4) 20 (61 + x1) then EX d 101 102 [] [] (pI h (hR h a0 4) (ix (61 + x1)) x2) else none else none := (EX_at bk_Mod_readJoin_92 _ _ _).trans rfl
theorem bk_Mod_readJoin_102 : blk 101 102 = some (((cd_Mod_readJoin.lookup 102).getD ([], 0, []))) := rfl
theorem Mod_readJoin_102 (d : Nat) (h : Hp) : EX d 101 102 [] [] h = some (.inl 0, h) := (EX_at bk_Mod_readJoin_102 _ _ _).trans rfl
/-! readLine()V of HookOverModel: method 102 -/
theorem bk_Mod_readLine_0 : blk 102 0 = some (((cd_Mod_readLine.lookup 0).getD ([], 0, []))) := rfl
theorem Mod_readLine_0 (d : Nat) (a0 : Nat) (h : Hp) : EX d 102 0 [(0, .inr (.inr a0))] [] h = if sK h a0 = 11 then bak (EX d 102) 5 [(0, .inr (.inr a0))] [] false (cal d 79 [.inr (.inr a0), .inl 0] h) else none := (EX_at bk_Mod_readLine_0 _ _ _).trans rfl
theorem bk_Mod_readLine_5 : blk 102 5 = some (((cd_Mod_readLine.lookup 5).getD ([], 0, []))) := rfl
theorem Mod_readLine_5 (d : Nat) (a0 : Nat) (s0 : Int) (h : Hp) : EX d 102 5 [(0, .inr (.inr a0))] [.inl s0] h = if (wr s0) = 0 then EX d 102 38 [(0, .inr (.inr a0))] [] h else EX d 102 8 [(0, .inr (.inr a0))] [] h := (EX_at bk_Mod_readLine_5 _ _ _).trans rfl
theorem bk_Mod_readLine_8 : blk 102 8 = some (((cd_Mod_readLine.lookup 8).getD ([], 0, []))) := rfl
theorem Mod_readLine_8 (d : Nat) (a0 : Nat) (h : Hp) : EX d 102 8 [(0, .inr (.inr a0))] [] h = if sK h a0 = 11 then if okx h (hR h a0 4) 20 2 then if (wr (hI h (hR h a0 4) 2)) = 0 then EX d 102 17 [(0, .inr (.inr a0))] [] h else EX d 102 38 [(0, .inr (.inr a0))] [] h else none else none := (EX_at bk_Mod_readLine_8 _ _ _).trans rfl
theorem bk_Mod_readLine_17 : blk 102 17 = some (((cd_Mod_readLine.lookup 17).getD ([], 0, []))) := rfl
theorem Mod_readLine_17 (d : Nat) (a0 : Nat) (h : Hp) : EX d 102 17 [(0, .inr (.inr a0))] [] h = if sK h a0 = 11 then bak (EX d 102) 21 [(0, .inr (.inr a0))] [] true (cal d 78 [.inr (.inr a0)] h) else none := (EX_at bk_Mod_readLine_17 _ _ _).trans rfl
theorem bk_Mod_readLine_21 : blk 102 21 = some (((cd_Mod_readLine.lookup 21).getD ([], 0, []))) := rfl
theorem Mod_readLine_21 (d : Nat) (a0 : Nat) (h : Hp) : EX d 102 21 [(0, .inr (.inr a0))] [] h = if sK h a0 = 11 then if sK h a0 = 11 then bak (EX d 102) 33 [] [.inl 1, .inl 2, .inr (.inr (hR h a0 4))] false (cal d 82 [.inr (.inr a0), .inl 23] h) else none else none := (EX_at bk_Mod_readLine_21 _ _ _).trans rfl
theorem bk_Mod_readLine_33 : blk 102 33 = some (((cd_Mod_readLine.lookup 33).getD ([], 0, []))) := rfl
theorem Mod_readLine_33 (d : Nat) (r0 : Nat) (s1 : Int) (s2 : Int) (s3 : Int) (h : Hp) : EX d 102 33 [] [.inl s3, .inl s2, .inl s1, .inr (.inr r0)] h = if okx h r0 20 s1 then EX d 102 35 [] [] (pI h r0 (ix s1) (s2 + s3)) else none := (EX_at bk_Mod_readLine_33 _ _ _).trans rfl
theorem bk_Mod_readLine_35 : blk 102 35 = some (((cd_Mod_readLine.lookup 35).getD ([], 0, []))) := rfl
theorem Mod_readLine_35 (d : Nat) (h : Hp) : EX d 102 35 [] [] h = EX d 102 277 [] [] h := (EX_at bk_Mod_readLine_35 _ _ _).trans rfl
theorem bk_Mod_readLine_38 : blk 102 38 = some (((cd_Mod_readLine.lookup 38).getD ([], 0, []))) := rfl
theorem Mod_readLine_38 (d : Nat) (a0 : Nat) (h : Hp) : EX d 102 38 [(0, .inr (.inr a0))] [] h = if sK h a0 = 11 then bak (EX d 102) 43 [(0, .inr (.inr a0))] [] false (cal d 79 [.inr (.inr a0), .inl 1] h) else none := (EX_at bk_Mod_readLine_38 _ _ _).trans rfl
theorem bk_Mod_readLine_43 : blk 102 43 = some (((cd_Mod_readLine.lookup 43).getD ([], 0, []))) := rfl
theorem Mod_readLine_43 (d : Nat) (a0 : Nat) (s0 : Int) (h : Hp) : EX d 102 43 [(0, .inr (.inr a0))] [.inl s0] h = if (wr s0) = 0 then EX d 102 76 [(0, .inr (.inr a0))] [] h else EX d 102 46 [(0, .inr (.inr a0))] [] h := (EX_at bk_Mod_readLine_43 _ _ _).trans rfl
theorem bk_Mod_readLine_46 : blk 102 46 = some (((cd_Mod_readLine.lookup 46).getD ([], 0, []))) := rfl
theorem Mod_readLine_46 (d : Nat) (a0 : Nat) (h : Hp) : EX d 102 46 [(0, .inr (.inr a0))] [] h = if sK h a0 = 11 then if okx h (hR h a0 4) 20 1 then if (wr (hI h (hR h a0 4) 1)) = 0 then EX d 102 55 [(0, .inr (.inr a0))] [] h else EX d 102 76 [(0, .inr (.inr a0))] [] h else none else none := (EX_at bk_Mod_readLine_46 _ _ _).trans rfl
theorem bk_Mod_readLine_55 : blk 102 55 = some (((cd_Mod_readLine.lookup 55).getD ([], 0, []))) := rfl
theorem Mod_readLine_55 (d : Nat) (a0 : Nat) (h : Hp) : EX d 102 55 [(0, .inr (.inr a0))] [] h = if sK h a0 = 11 then bak (EX d 102) 59 [(0, .inr (.inr a0))] [] true (cal d 78 [.inr (.inr a0)] h) else none := (EX_at bk_Mod_readLine_55 _ _ _).trans rfl
theorem bk_Mod_readLine_59 : blk 102 59 = some (((cd_Mod_readLine.lookup 59).getD ([], 0, []))) := rfl
theorem Mod_readLine_59 (d : Nat) (a0 : Nat) (h : Hp) : EX d 102 59 [(0, .inr (.inr a0))] [] h = if sK h a0 = 11 then if sK h a0 = 11 then bak (EX d 102) 71 [] [.inl 1, .inl 1, .inr (.inr (hR h a0 4))] false (cal d 82 [.inr (.inr a0), .inl 11] h) else none else none := (EX_at bk_Mod_readLine_59 _ _ _).trans rfl
theorem bk_Mod_readLine_71 : blk 102 71 = some (((cd_Mod_readLine.lookup 71).getD ([], 0, []))) := rfl
theorem Mod_readLine_71 (d : Nat) (r0 : Nat) (s1 : Int) (s2 : Int) (s3 : Int) (h : Hp) : EX d 102 71 [] [.inl s3, .inl s2, .inl s1, .inr (.inr r0)] h = if okx h r0 20 s1 then EX d 102 73 [] [] (pI h r0 (ix s1) (s2 + s3)) else none := (EX_at bk_Mod_readLine_71 _ _ _).trans rfl
theorem bk_Mod_readLine_73 : blk 102 73 = some (((cd_Mod_readLine.lookup 73).getD ([], 0, []))) := rfl
theorem Mod_readLine_73 (d : Nat) (h : Hp) : EX d 102 73 [] [] h = EX d 102 277 [] [] h := (EX_at bk_Mod_readLine_73 _ _ _).trans rfl
theorem bk_Mod_readLine_76 : blk 102 76 = some (((cd_Mod_readLine.lookup 76).getD ([], 0, []))) := rfl
theorem Mod_readLine_76 (d : Nat) (a0 : Nat) (h : Hp) : EX d 102 76 [(0, .inr (.inr a0))] [] h = if sK h a0 = 11 then bak (EX d 102) 82 [(0, .inr (.inr a0))] [] false (cal d 79 [.inr (.inr a0), .inl 6] h) else none := (EX_at bk_Mod_readLine_76 _ _ _).trans rfl
theorem bk_Mod_readLine_82 : blk 102 82 = some (((cd_Mod_readLine.lookup 82).getD ([], 0, []))) := rfl
theorem Mod_readLine_82 (d : Nat) (a0 : Nat) (s0 : Int) (h : Hp) : EX d 102 82 [(0, .inr (.inr a0))] [.inl s0] h = if (wr s0) = 0 then EX d 102 92 [(0, .inr (.inr a0))] [] h else EX d 102 85 [(0, .inr (.inr a0))] [] h := (EX_at bk_Mod_readLine_82 _ _ _).trans rfl
theorem bk_Mod_readLine_85 : blk 102 85 = some (((cd_Mod_readLine.lookup 85).getD ([], 0, []))) := rfl
theorem Mod_readLine_85 (d : Nat) (a0 : Nat) (h : Hp) : EX d 102 85 [(0, .inr (.inr a0))] [] h = if sK h a0 = 11 then bak (EX d 102) 89 [] [] true (cal d 92 [.inr (.inr a0)] h) else none := (EX_at bk_Mod_readLine_85 _ _ _).trans rfl
theorem bk_Mod_readLine_89 : blk 102 89 = some (((cd_Mod_readLine.lookup 89).getD ([], 0, []))) := rfl
theorem Mod_readLine_89 (d : Nat) (h : Hp) : EX d 102 89 [] [] h = EX d 102 277 [] [] h := (EX_at bk_Mod_readLine_89 _ _ _).trans rfl
theorem bk_Mod_readLine_92 : blk 102 92 = some (((cd_Mod_readLine.lookup 92).getD ([], 0, []))) := rfl
theorem Mod_readLine_92 (d : Nat) (a0 : Nat) (h : Hp) : EX d 102 92 [(0, .inr (.inr a0))] [] h = if sK h a0 = 11 then bak (EX d 102) 98 [(0, .inr (.inr a0))] [] false (cal d 83 [.inr (.inr a0), .inl 7] h) else none := (EX_at bk_Mod_readLine_92 _ _ _).trans rfl
theorem bk_Mod_readLine_98 : blk 102 98 = some (((cd_Mod_readLine.lookup 98).getD ([], 0, []))) := rfl
theorem Mod_readLine_98 (d : Nat) (a0 : Nat) (s0 : Int) (h : Hp) : EX d 102 98 [(0, .inr (.inr a0))] [.inl s0] h = if (wr s0) = 0 then EX d 102 108 [(0, .inr (.inr a0))] [] h else EX d 102 101 [(0, .inr (.inr a0))] [] h := (EX_at bk_Mod_readLine_98 _ _ _).trans rfl
theorem bk_Mod_readLine_101 : blk 102 101 = some (((cd_Mod_readLine.lookup 101).getD ([], 0, []))) := rfl
theorem Mod_readLine_101 (d : Nat) (a0 : Nat) (h : Hp) : EX d 102 101 [(0, .inr (.inr a0))] [] h = if sK h a0 = 11 then bak (EX d 102) 105 [] [] true (cal d 93 [.inr (.inr a0)] h) else none := (EX_at bk_Mod_readLine_101 _ _ _).trans rfl
theorem bk_Mod_readLine_105 : blk 102 105 = some (((cd_Mod_readLine.lookup 105).getD ([], 0, []))) := rfl
theorem Mod_readLine_105 (d : Nat) (h : Hp) : EX d 102 105 [] [] h = EX d 102 277 [] [] h := (EX_at bk_Mod_readLine_105 _ _ _).trans rfl
theorem bk_Mod_readLine_108 : blk 102 108 = some (((cd_Mod_readLine.lookup 108).getD ([], 0, []))) := rfl
theorem Mod_readLine_108 (d : Nat) (a0 : Nat) (h : Hp) : EX d 102 108 [(0, .inr (.inr a0))] [] h = if sK h a0 = 11 then bak (EX d 102) 114 [(0, .inr (.inr a0))] [] false (cal d 83 [.inr (.inr a0), .inl 8] h) else none := (EX_at bk_Mod_readLine_108 _ _ _).trans rfl
theorem bk_Mod_readLine_114 : blk 102 114 = some (((cd_Mod_readLine.lookup 114).getD ([], 0, []))) := rfl
theorem Mod_readLine_114 (d : Nat) (a0 : Nat) (s0 : Int) (h : Hp) : EX d 102 114 [(0, .inr (.inr a0))] [.inl s0] h = if (wr s0) = 0 then EX d 102 134 [(0, .inr (.inr a0))] [] h else EX d 102 117 [(0, .inr (.inr a0))] [] h := (EX_at bk_Mod_readLine_114 _ _ _).trans rfl
theorem bk_Mod_readLine_117 : blk 102 117 = some (((cd_Mod_readLine.lookup 117).getD ([], 0, []))) := rfl
theorem Mod_readLine_117 (d : Nat) (a0 : Nat) (h : Hp) : EX d 102 117 [(0, .inr (.inr a0))] [] h = if sK h a0 = 11 then if sK h a0 = 11 then bak (EX d 102) 130 [] [.inl 6, .inr (.inr (hR h a0 4))] false (cal d 81 [.inr (.inr a0), .inl 2, .inl 6] h) else none else none := (EX_at bk_Mod_readLine_117 _ _ _).trans rfl
theorem bk_Mod_readLine_130 : blk 102 130 = some (((cd_Mod_readLine.lookup 130).getD ([], 0, []))) := rfl
theorem Mod_readLine_130 (d : Nat) (r0 : Nat) (s1 : Int) (s2 : Int) (h : Hp) : EX d 102 130 [] [.inl s2, .inl s1, .inr (.inr r0)] h = if okx h r0 20 s1 then EX d 102 131 [] [] (pI h r0 (ix s1) s2) else none := (EX_at bk_Mod_readLine_130 _ _ _).trans rfl
theorem bk_Mod_readLine_131 : blk 102 131 = some (((cd_Mod_readLine.lookup 131).getD ([], 0, []))) := rfl
theorem Mod_readLine_131 (d : Nat) (h : Hp) : EX d 102 131 [] [] h = EX d 102 277 [] [] h := (EX_at bk_Mod_readLine_131 _ _ _).trans rfl
theorem bk_Mod_readLine_134 : blk 102 134 = some (((cd_Mod_readLine.lookup 134).getD ([], 0, []))) := rfl
theorem Mod_readLine_134 (d : Nat) (a0 : Nat) (h : Hp) : EX d 102 134 [(0, .inr (.inr a0))] [] h = if sK h a0 = 11 then bak (EX d 102) 140 [(0, .inr (.inr a0))] [] false (cal d 83 [.inr (.inr a0), .inl 9] h) else none := (EX_at bk_Mod_readLine_134 _ _ _).trans rfl
theorem bk_Mod_readLine_140 : blk 102 140 = some (((cd_Mod_readLine.lookup 140).getD ([], 0, []))) := rfl
theorem Mod_readLine_140 (d : Nat) (a0 : Nat) (s0 : Int) (h : Hp) : EX d 102 140 [(0, .inr (.inr a0))] [.inl s0] h = if (wr s0) = 0 then EX d 102 150 [(0, .inr (.inr a0))] [] h else EX d 102 143 [(0, .inr (.inr a0))] [] h := (EX_at bk_Mod_readLine_140 _ _ _).trans rfl
theorem bk_Mod_readLine_143 : blk 102 143 = some (((cd_Mod_readLine.lookup 143).getD ([], 0, []))) := rfl
theorem Mod_readLine_143 (d : Nat) (a0 : Nat) (h : Hp) : EX d 102 143 [(0, .inr (.inr a0))] [] h = if sK h a0 = 11 then bak (EX d 102) 147 [] [] true (cal d 94 [.inr (.inr a0)] h) else none := (EX_at bk_Mod_readLine_143 _ _ _).trans rfl
theorem bk_Mod_readLine_147 : blk 102 147 = some (((cd_Mod_readLine.lookup 147).getD ([], 0, []))) := rfl
theorem Mod_readLine_147 (d : Nat) (h : Hp) : EX d 102 147 [] [] h = EX d 102 277 [] [] h := (EX_at bk_Mod_readLine_147 _ _ _).trans rfl
theorem bk_Mod_readLine_150 : blk 102 150 = some (((cd_Mod_readLine.lookup 150).getD ([], 0, []))) := rfl
theorem Mod_readLine_150 (d : Nat) (a0 : Nat) (h : Hp) : EX d 102 150 [(0, .inr (.inr a0))] [] h = if sK h a0 = 11 then bak (EX d 102) 154 [(0, .inr (.inr a0))] [] false (cal d 95 [.inr (.inr a0)] h) else none := (EX_at bk_Mod_readLine_150 _ _ _).trans rfl
theorem bk_Mod_readLine_154 : blk 102 154 = some (((cd_Mod_readLine.lookup 154).getD ([], 0, []))) := rfl
theorem Mod_readLine_154 (d : Nat) (a0 : Nat) (s0 : Int) (h : Hp) : EX d 102 154 [(0, .inr (.inr a0))] [.inl s0] h = if (wr s0) = 0 then EX d 102 157 [(0, .inr (.inr a0))] [] h else EX d 102 165 [(0, .inr (.inr a0))] [] h := (EX_at bk_Mod_readLine_154 _ _ _).trans rfl
theorem bk_Mod_readLine_157 : blk 102 157 = some (((cd_Mod_readLine.lookup 157).getD ([], 0, []))) := rfl
theorem Mod_readLine_157 (d : Nat) (a0 : Nat) (h : Hp) : EX d 102 157 [(0, .inr (.inr a0))] [] h = if sK h a0 = 11 then bak (EX d 102) 162 [] [] true (cal d 80 [.inr (.inr a0), .inl 2] h) else none := (EX_at bk_Mod_readLine_157 _ _ _).trans rfl
theorem bk_Mod_readLine_162 : blk 102 162 = some (((cd_Mod_readLine.lookup 162).getD ([], 0, []))) := rfl
theorem Mod_readLine_162 (d : Nat) (h : Hp) : EX d 102 162 [] [] h = EX d 102 277 [] [] h := (EX_at bk_Mod_readLine_162 _ _ _).trans rfl
theorem bk_Mod_readLine_165 : blk 102 165 = some (((cd_Mod_readLine.lookup 165).getD ([], 0, []))) := rfl
theorem Mod_readLine_165 (d : Nat) (a0 : Nat) (h : Hp) : EX d 102 165 [(0, .inr (.inr a0))] [] h = if sK h a0 = 11 then bak (EX d 102) 170 [(0, .inr (.inr a0))] [] false (cal d 83 [.inr (.inr a0), .inl 2] h) else none := (EX_at bk_Mod_readLine_165 _ _ _).trans rfl
theorem bk_Mod_readLine_170 : blk 102 170 = some (((cd_Mod_readLine.lookup 170).getD ([], 0, []))) := rfl
theorem Mod_readLine_170 (d : Nat) (a0 : Nat) (s0 : Int) (h : Hp) : EX d 102 170 [(0, .inr (.inr a0))] [.inl s0] h = if (wr s0) = 0 then EX d 102 188 [(0, .inr (.inr a0))] [] h else EX d 102 173 [(0, .inr (.inr a0))] [] h := (EX_at bk_Mod_readLine_170 _ _ _).trans rfl
theorem bk_Mod_readLine_173 : blk 102 173 = some (((cd_Mod_readLine.lookup 173).getD ([], 0, []))) := rfl
theorem Mod_readLine_173 (d : Nat) (a0 : Nat) (h : Hp) : EX d 102 173 [(0, .inr (.inr a0))] [] h = if sK h a0 = 11 then if okx h (hR h a0 4) 20 1 then if sK h a0 = 11 then bak (EX d 102) 185 [] [] true (cal d 96 [.inr (.inr a0), .inl (hI h (hR h a0 4) 1), .inl 35] h) else none else none else none := (EX_at bk_Mod_readLine_173 _ _ _).trans rfl
theorem bk_Mod_readLine_185 : blk 102 185 = some (((cd_Mod_readLine.lookup 185).getD ([], 0, []))) := rfl
theorem Mod_readLine_185 (d : Nat) (h : Hp) : EX d 102 185 [] [] h = EX d 102 277 [] [] h := (EX_at bk_Mod_readLine_185 _ _ _).trans rfl
theorem bk_Mod_readLine_188 : blk 102 188 = some (((cd_Mod_readLine.lookup 188).getD ([], 0, []))) := rfl
theorem Mod_readLine_188 (d : Nat) (a0 : Nat) (h : Hp) : EX d 102 188 [(0, .inr (.inr a0))] [] h = if sK h a0 = 11 then bak (EX d 102) 193 [(0, .inr (.inr a0))] [] false (cal d 83 [.inr (.inr a0), .inl 4] h) else none := (EX_at bk_Mod_readLine_188 _ _ _).trans rfl
theorem bk_Mod_readLine_193 : blk 102 193 = some (((cd_Mod_readLine.lookup 193).getD ([], 0, []))) := rfl
theorem Mod_readLine_193 (d : Nat) (a0 : Nat) (s0 : Int) (h : Hp) : EX d 102 193 [(0, .inr (.inr a0))] [.inl s0] h = if (wr s0) = 0 then EX d 102 211 [(0, .inr (.inr a0))] [] h else EX d 102 196 [(0, .inr (.inr a0))] [] h := (EX_at bk_Mod_readLine_193 _ _ _).trans rfl
theorem bk_Mod_readLine_196 : blk 102 196 = some (((cd_Mod_readLine.lookup 196).getD ([], 0, []))) := rfl
theorem Mod_readLine_196 (d : Nat) (a0 : Nat) (h : Hp) : EX d 102 196 [(0, .inr (.inr a0))] [] h = if sK h a0 = 11 then if okx h (hR h a0 4) 20 2 then if sK h a0 = 11 then bak (EX d 102) 208 [] [] true (cal d 96 [.inr (.inr a0), .inl (hI h (hR h a0 4) 2), .inl 47] h) else none else none else none := (EX_at bk_Mod_readLine_196 _ _ _).trans rfl
theorem bk_Mod_readLine_208 : blk 102 208 = some (((cd_Mod_readLine.lookup 208).getD ([], 0, []))) := rfl
theorem Mod_readLine_208 (d : Nat) (h : Hp) : EX d 102 208 [] [] h = EX d 102 277 [] [] h := (EX_at bk_Mod_readLine_208 _ _ _).trans rfl
theorem bk_Mod_readLine_211 : blk 102 211 = some (((cd_Mod_readLine.lookup 211).getD ([], 0, []))) := rfl
theorem Mod_readLine_211 (d : Nat) (a0 : Nat) (h : Hp) : EX d 102 211 [(0, .inr (.inr a0))] [] h = if sK h a0 = 11 then bak (EX d 102) 216 [(0, .inr (.inr a0))] [] false (cal d 83 [.inr (.inr a0), .inl 5] h) else none := (EX_at bk_Mod_readLine_211 _ _ _).trans rfl
theorem bk_Mod_readLine_216 : blk 102 216 = some (((cd_Mod_readLine.lookup 216).getD ([], 0, []))) := rfl
theorem Mod_readLine_216 (d : Nat) (a0 : Nat) (s0 : Int) (h : Hp) : EX d 102 216 [(0, .inr (.inr a0))] [.inl s0] h = if (wr s0) = 0 then EX d 102 256 [(0, .inr (.inr a0))] [] h else EX d 102 219 [(0, .inr (.inr a0))] [] h := (EX_at bk_Mod_readLine_216 _ _ _).trans rfl
theorem bk_Mod_readLine_219 : blk 102 219 = some (((cd_Mod_readLine.lookup 219).getD ([], 0, []))) := rfl
theorem Mod_readLine_219 (d : Nat) (a0 : Nat) (h : Hp) : EX d 102 219 [(0, .inr (.inr a0))] [] h = if sK h a0 = 11 then if okx h (hR h a0 4) 20 2 then if sK h a0 = 11 then bak (EX d 102) 232 [(0, .inr (.inr a0))] [] false (cal d 81 [.inr (.inr a0), .inl 0, .inl ((hI h (hR h a0 4) 2) - 1)] h) else none else none else none := (EX_at bk_Mod_readLine_219 _ _ _).trans rfl
theorem bk_Mod_readLine_232 : blk 102 232 = some (((cd_Mod_readLine.lookup 232).getD ([], 0, []))) := rfl
theorem Mod_readLine_232 (d : Nat) (a0 : Nat) (s0 : Int) (h : Hp) : EX d 102 232 [(0, .inr (.inr a0))] [.inl s0] h = if sK h a0 = 11 then if (wr (hI h a0 11)) = 0 then EX d 102 240 [(0, .inr (.inr a0)), (1, .inl s0)] [] h else EX d 102 253 [] [] h else none := (EX_at bk_Mod_readLine_232 _ _ _).trans rfl
theorem bk_Mod_readLine_240 : blk 102 240 = some (((cd_Mod_readLine.lookup 240).getD ([], 0, []))) := rfl
theorem Mod_readLine_240 (d : Nat) (a0 : Nat) (x1 : Int) (h : Hp) : EX d 102 240 [(0, .inr (.inr a0)), (1, .inl x1)] [] h = if sK h a0 = 11 then if okx h (hR h a0 4) 20 10 then if okx h (hR h a0 4) 20 10 then EX d 102 253 [] [] (pI h (hR h a0 4) 10 (bOr (hI h (hR h a0 4) 10) (bShl 1 x1))) else none else none else none := (EX_at bk_Mod_readLine_240 _ _ _).trans rfl
theorem bk_Mod_readLine_253 : blk 102 253 = some (((cd_Mod_readLine.lookup 253).getD ([], 0, []))) := rfl
theorem Mod_readLine_253 (d : Nat) (h : Hp) : EX d 102 253 [] [] h = EX d 102 277 [] [] h := (EX_at bk_Mod_readLine_253 _ _ _).trans rfl
theorem bk_Mod_readLine_256 : blk 102 256 = some (((cd_Mod_readLine.lookup 256).getD ([], 0, []))) := rfl
theorem Mod_readLine_256 (d : Nat) (a0 : Nat) (h : Hp) : EX d 102 256 [(0, .inr (.inr a0))] [] h = if sK h a0 = 11 then bak (EX d 102) 262 [(0, .inr (.inr a0))] [] false (cal d 83 [.inr (.inr a0), .inl 10] h) else none := (EX_at bk_Mod_readLine_256 _ _ _).trans rfl
theorem bk_Mod_readLine_262 : blk 102 262 = some (((cd_Mod_readLine.lookup 262).getD ([], 0, []))) := rfl
theorem Mod_readLine_262 (d : Nat) (a0 : Nat) (s0 : Int) (h : Hp) : EX d 102 262 [(0, .inr (.inr a0))] [.inl s0] h = if (wr s0) = 0 then EX d 102 272 [(0, .inr (.inr a0))] [] h else EX d 102 265 [(0, .inr (.inr a0))] [] h := (EX_at bk_Mod_readLine_262 _ _ _).trans rfl
theorem bk_Mod_readLine_265 : blk 102 265 = some (((cd_Mod_readLine.lookup 265).getD ([], 0, []))) := rfl
theorem Mod_readLine_265 (d : Nat) (a0 : Nat) (h : Hp) : EX d 102 265 [(0, .inr (.inr a0))] [] h = if sK h a0 = 11 then bak (EX d 102) 269 [] [] true (cal d 101 [.inr (.inr a0)] h) else none := (EX_at bk_Mod_readLine_265 _ _ _).trans rfl
theorem bk_Mod_readLine_269 : blk 102 269 = some (((cd_Mod_readLine.lookup 269).getD ([], 0, []))) := rfl
theorem Mod_readLine_269 (d : Nat) (h : Hp) : EX d 102 269 [] [] h = EX d 102 277 [] [] h := (EX_at bk_Mod_readLine_269 _ _ _).trans rfl
theorem bk_Mod_readLine_272 : blk 102 272 = some (((cd_Mod_readLine.lookup 272).getD ([], 0, []))) := rfl
theorem Mod_readLine_272 (d : Nat) (a0 : Nat) (h : Hp) : EX d 102 272 [(0, .inr (.inr a0))] [] h = if sK h a0 = 11 then bak (EX d 102) 277 [] [] true (cal d 80 [.inr (.inr a0), .inl 2] h) else none := (EX_at bk_Mod_readLine_272 _ _ _).trans rfl
theorem bk_Mod_readLine_277 : blk 102 277 = some (((cd_Mod_readLine.lookup 277).getD ([], 0, []))) := rfl
theorem Mod_readLine_277 (d : Nat) (h : Hp) : EX d 102 277 [] [] h = some (.inl 0, h) := (EX_at bk_Mod_readLine_277 _ _ _).trans rfl
/-! window(I)I of HookOverModel: method 103 -/
theorem bk_Mod_window_0 : blk 103 0 = some (((cd_Mod_window.lookup 0).getD ([], 0, []))) := rfl
theorem Mod_window_0 (d : Nat) (a0 : Nat) (x1 : Int) (h : Hp) : EX d 103 0 [(0, .inr (.inr a0)), (1, .inl x1)] [] h = if sK h a0 = 11 then EX d 103 5 [(0, .inr (.inr a0)), (1, .inl x1)] [] (pI h a0 0 0) else none := (EX_at bk_Mod_window_0 _ _ _).trans rfl
theorem bk_Mod_window_5 : blk 103 5 = some (((cd_Mod_window.lookup 5).getD ([], 0, []))) := rfl
theorem Mod_window_5 (d : Nat) (a0 : Nat) (x1 : Int) (h : Hp) : EX d 103 5 [(0, .inr (.inr a0)), (1, .inl x1)] [] h = if sK h a0 = 11 then bak (EX d 103) 16 [(0, .inr (.inr a0)), (1, .inl x1)] [] false (cal d 73 [.inr (.inl (wr x1)), .inr (.inl 0), .inr (.inl (wr (hI h a0 5)))] h) else none := (EX_at bk_Mod_window_5 _ _ _).trans rfl
theorem bk_Mod_window_16 : blk 103 16 = some (((cd_Mod_window.lookup 16).getD ([], 0, []))) := rfl
theorem Mod_window_16 (d : Nat) (a0 : Nat) (x1 : Int) (s0 : Int) (h : Hp) : EX d 103 16 [(0, .inr (.inr a0)), (1, .inl x1)] [.inl s0] h = if (wr s0) = 0 then EX d 103 19 [] [] h else EX d 103 22 [(0, .inr (.inr a0)), (1, .inl x1)] [] h := (EX_at bk_Mod_window_16 _ _ _).trans rfl
theorem bk_Mod_window_19 : blk 103 19 = some (((cd_Mod_window.lookup 19).getD ([], 0, []))) := rfl
theorem Mod_window_19 (d : Nat) (h : Hp) : EX d 103 19 [] [] h = some (.inl (-3), h) := (EX_at bk_Mod_window_19 _ _ _).trans rfl
theorem bk_Mod_window_22 : blk 103 22 = some (((cd_Mod_window.lookup 22).getD ([], 0, []))) := rfl
theorem Mod_window_22 (d : Nat) (a0 : Nat) (x1 : Int) (h : Hp) : EX d 103 22 [(0, .inr (.inr a0)), (1, .inl x1)] [] h = if sK h a0 = 11 then EX d 103 27 [(0, .inr (.inr a0))] [] (pI h a0 8 x1) else none := (EX_at bk_Mod_window_22 _ _ _).trans rfl
theorem bk_Mod_window_27 : blk 103 27 = some (((cd_Mod_window.lookup 27).getD ([], 0, []))) := rfl
theorem Mod_window_27 (d : Nat) (a0 : Nat) (h : Hp) : EX d 103 27 [(0, .inr (.inr a0))] [] h = if sK h a0 = 11 then EX d 103 32 [(0, .inr (.inr a0))] [] (pI h a0 5 0) else none := (EX_at bk_Mod_window_27 _ _ _).trans rfl
theorem bk_Mod_window_32 : blk 103 32 = some (((cd_Mod_window.lookup 32).getD ([], 0, []))) := rfl
theorem Mod_window_32 (d : Nat) (a0 : Nat) (h : Hp) : EX d 103 32 [(0, .inr (.inr a0))] [] h = if sK h a0 = 11 then EX d 103 37 [(0, .inr (.inr a0))] [] (pI h a0 7 0) else none := (EX_at bk_Mod_window_32 _ _ _).trans rfl
theorem bk_Mod_window_37 : blk 103 37 = some (((cd_Mod_window.lookup 37).getD ([], 0, []))) := rfl
theorem Mod_window_37 (d : Nat) (a0 : Nat) (h : Hp) : EX d 103 37 [(0, .inr (.inr a0))] [] h = if sK h a0 = 11 then EX d 103 42 [(0, .inr (.inr a0))] [] (pI h a0 11 0) else none := (EX_at bk_Mod_window_37 _ _ _).trans rfl
theorem bk_Mod_window_42 : blk 103 42 = some (((cd_Mod_window.lookup 42).getD ([], 0, []))) := rfl
theorem Mod_window_42 (d : Nat) (a0 : Nat) (h : Hp) : EX d 103 42 [(0, .inr (.inr a0))] [] h = if sK h a0 = 11 then bak (EX d 103) 49 [(0, .inr (.inr a0))] [] true (cal d 14 [.inr (.inr (hR h a0 4))] h) else none := (EX_at bk_Mod_window_42 _ _ _).trans rfl
theorem bk_Mod_window_49 : blk 103 49 = some (((cd_Mod_window.lookup 49).getD ([], 0, []))) := rfl
theorem Mod_window_49 (d : Nat) (a0 : Nat) (h : Hp) : EX d 103 49 [(0, .inr (.inr a0))] [] h = if sK h a0 = 11 then bak (EX d 103) 53 [(0, .inr (.inr a0))] [] true (cal d 78 [.inr (.inr a0)] h) else none := (EX_at bk_Mod_window_49 _ _ _).trans rfl
theorem bk_Mod_window_53 : blk 103 53 = some (((cd_Mod_window.lookup 53).getD ([], 0, []))) := rfl
theorem Mod_window_53 (d : Nat) (a0 : Nat) (h : Hp) : EX d 103 53 [(0, .inr (.inr a0))] [] h = if sK h a0 = 11 then if (wr (hI h a0 11)) = 0 then EX d 103 60 [(0, .inr (.inr a0))] [] h else EX d 103 100 [(0, .inr (.inr a0))] [] h else none := (EX_at bk_Mod_window_53 _ _ _).trans rfl
theorem bk_Mod_window_60 : blk 103 60 = some (((cd_Mod_window.lookup 60).getD ([], 0, []))) := rfl
theorem Mod_window_60 (d : Nat) (a0 : Nat) (h : Hp) : EX d 103 60 [(0, .inr (.inr a0))] [] h = if sK h a0 = 11 then if (wr (hI h a0 9)) = 22 then EX d 103 100 [(0, .inr (.inr a0))] [] h else EX d 103 69 [(0, .inr (.inr a0))] [] h else none := (EX_at bk_Mod_window_60 _ _ _).trans rfl
theorem bk_Mod_window_69 : blk 103 69 = some (((cd_Mod_window.lookup 69).getD ([], 0, []))) := rfl
theorem Mod_window_69 (d : Nat) (a0 : Nat) (h : Hp) : EX d 103 69 [(0, .inr (.inr a0))] [] h = if sK h a0 = 11 then bak (EX d 103) 73 [(0, .inr (.inr a0))] [] true (cal d 102 [.inr (.inr a0)] h) else none := (EX_at bk_Mod_window_69 _ _ _).trans rfl
theorem bk_Mod_window_73 : blk 103 73 = some (((cd_Mod_window.lookup 73).getD ([], 0, []))) := rfl
theorem Mod_window_73 (d : Nat) (a0 : Nat) (h : Hp) : EX d 103 73 [(0, .inr (.inr a0))] [] h = if sK h a0 = 11 then bak (EX d 103) 79 [(0, .inr (.inr a0))] [] false (cal d 83 [.inr (.inr a0), .inl 25] h) else none := (EX_at bk_Mod_window_73 _ _ _).trans rfl
theorem bk_Mod_window_79 : blk 103 79 = some (((cd_Mod_window.lookup 79).getD ([], 0, []))) := rfl
theorem Mod_window_79 (d : Nat) (a0 : Nat) (s0 : Int) (h : Hp) : EX d 103 79 [(0, .inr (.inr a0))] [.inl s0] h = if (wr s0) = 0 then EX d 103 82 [(0, .inr (.inr a0))] [] h else EX d 103 87 [(0, .inr (.inr a0))] [] h := (EX_at bk_Mod_window_79 _ _ _).trans rfl
theorem bk_Mod_window_82 : blk 103 82 = some (((cd_Mod_window.lookup 82).getD ([], 0, []))) := rfl
theorem Mod_window_82 (d : Nat) (a0 : Nat) (h : Hp) : EX d 103 82 [(0, .inr (.inr a0))] [] h = if sK h a0 = 11 then bak (EX d 103) 87 [(0, .inr (.inr a0))] [] true (cal d 80 [.inr (.inr a0), .inl 2] h) else none := (EX_at bk_Mod_window_82 _ _ _).trans rfl
theorem bk_Mod_window_87 : blk 103 87 = some (((cd_Mod_window.lookup 87).getD ([], 0, []))) := rfl
theorem Mod_window_87 (d : Nat) (a0 : Nat) (h : Hp) : EX d 103 87 [(0, .inr (.inr a0))] [] h = if sK h a0 = 11 then if okx h (hR h a0 4) 20 0 then if okx h (hR h a0 4) 20 0 then EX d 103 97 [(0, .inr (.inr a0))] [] (pI h (hR h a0 4) 0 ((hI h (hR h a0 4) 0) + 1)) else none else none else none := (EX_at bk_Mod_window_87 _ _ _).trans rfl
theorem bk_Mod_window_97 : blk 103 97 = some (((cd_Mod_window.lookup 97).getD ([], 0, []))) := rfl
theorem Mod_window_97 (d : Nat) (a0 : Nat) (h : Hp) : EX d 103 97 [(0, .inr (.inr a0))] [] h = EX d 103 53 [(0, .inr (.inr a0))] [] h := (EX_at bk_Mod_window_97 _ _ _).trans rfl
theorem bk_Mod_window_100 : blk 103 100 = some (((cd_Mod_window.lookup 100).getD ([], 0, []))) := rfl
theorem Mod_window_100 (d : Nat) (a0 : Nat) (h : Hp) : EX d 103 100 [(0, .inr (.inr a0))] [] h = if sK h a0 = 11 then if sK h a0 = 11 then EX d 103 108 [(0, .inr (.inr a0))] [] (pI h a0 13 (hI h a0 11)) else none else none := (EX_at bk_Mod_window_100 _ _ _).trans rfl
theorem bk_Mod_window_108 : blk 103 108 = some (((cd_Mod_window.lookup 108).getD ([], 0, []))) := rfl
theorem Mod_window_108 (d : Nat) (a0 : Nat) (h : Hp) : EX d 103 108 [(0, .inr (.inr a0))] [] h = if sK h a0 = 11 then if (wr (hI h a0 11)) = 0 then EX d 103 116 [(0, .inr (.inr a0))] [.inr (.inr a0)] h else EX d 103 120 [(0, .inr (.inr a0))] [.inr (.inr a0)] h else none := (EX_at bk_Mod_window_108 _ _ _).trans rfl
theorem bk_Mod_window_116 : blk 103 116 = some (((cd_Mod_window.lookup 116).getD ([], 0, []))) := rfl
theorem Mod_window_116 (d : Nat) (a0 : Nat) (r0 : Nat) (h : Hp) : EX d 103 116 [(0, .inr (.inr a0))] [.inr (.inr r0)] h = EX d 103 124 [(0, .inr (.inr a0))] [.inl (-1), .inr (.inr r0)] h := (EX_at bk_Mod_window_116 _ _ _).trans rfl
theorem bk_Mod_window_120 : blk 103 120 = some (((cd_Mod_window.lookup 120).getD ([], 0, []))) := rfl
theorem Mod_window_120 (d : Nat) (a0 : Nat) (r0 : Nat) (h : Hp) : EX d 103 120 [(0, .inr (.inr a0))] [.inr (.inr r0)] h = if sK h a0 = 11 then EX d 103 124 [(0, .inr (.inr a0))] [.inl (hI h a0 12), .inr (.inr r0)] h else none := (EX_at bk_Mod_window_120 _ _ _).trans rfl
theorem bk_Mod_window_124 : blk 103 124 = some (((cd_Mod_window.lookup 124).getD ([], 0, []))) := rfl
theorem Mod_window_124 (d : Nat) (a0 : Nat) (r0 : Nat) (s1 : Int) (h : Hp) : EX d 103 124 [(0, .inr (.inr a0))] [.inl s1, .inr (.inr r0)] h = if sK h r0 = 11 then EX d 103 127 [(0, .inr (.inr a0))] [] (pI h r0 14 s1) else none := (EX_at bk_Mod_window_124 _ _ _).trans rfl
theorem bk_Mod_window_127 : blk 103 127 = some (((cd_Mod_window.lookup 127).getD ([], 0, []))) := rfl
theorem Mod_window_127 (d : Nat) (a0 : Nat) (h : Hp) : EX d 103 127 [(0, .inr (.inr a0))] [] h = if sK h a0 = 11 then if (wr (hI h a0 11)) = 0 then EX d 103 142 [(0, .inr (.inr a0))] [] h else EX d 103 134 [(0, .inr (.inr a0))] [] h else none := (EX_at bk_Mod_window_127 _ _ _).trans rfl
theorem bk_Mod_window_134 : blk 103 134 = some (((cd_Mod_window.lookup 134).getD ([], 0, []))) := rfl
theorem Mod_window_134 (d : Nat) (a0 : Nat) (h : Hp) : EX d 103 134 [(0, .inr (.inr a0))] [] h = if sK h a0 = 11 then some (.inl ((-30) - (hI h a0 11)), h) else none := (EX_at bk_Mod_window_134 _ _ _).trans rfl
theorem bk_Mod_window_142 : blk 103 142 = some (((cd_Mod_window.lookup 142).getD ([], 0, []))) := rfl
theorem Mod_window_142 (d : Nat) (a0 : Nat) (h : Hp) : EX d 103 142 [(0, .inr (.inr a0))] [] h = EX d 103 144 [(0, .inr (.inr a0)), (2, .inl 0)] [] h := (EX_at bk_Mod_window_142 _ _ _).trans rfl
theorem bk_Mod_window_144 : blk 103 144 = some (((cd_Mod_window.lookup 144).getD ([], 0, []))) := rfl
theorem Mod_window_144 (d : Nat) (a0 : Nat) (x2 : Int) (h : Hp) : EX d 103 144 [(0, .inr (.inr a0)), (2, .inl x2)] [] h = if (wr x2) < 1115 then EX d 103 151 [(0, .inr (.inr a0)), (2, .inl x2)] [] h else EX d 103 169 [(0, .inr (.inr a0))] [] h := (EX_at bk_Mod_window_144 _ _ _).trans rfl
theorem bk_Mod_window_151 : blk 103 151 = some (((cd_Mod_window.lookup 151).getD ([], 0, []))) := rfl
theorem Mod_window_151 (d : Nat) (a0 : Nat) (x2 : Int) (h : Hp) : EX d 103 151 [(0, .inr (.inr a0)), (2, .inl x2)] [] h = if sK h a0 = 11 then if sK h a0 = 11 then if okx h (hR h a0 4) 20 x2 then if okx h (hR h a0 1) 20 x2 then EX d 103 163 [(0, .inr (.inr a0)), (2, .inl x2)] [] (pI h (hR h a0 1) (ix x2) (hI h (hR h a0 4) (ix x2))) else none else none else none else none := (EX_at bk_Mod_window_151 _ _ _).trans rfl
theorem bk_Mod_window_163 : blk 103 163 = some (((cd_Mod_window.lookup 163).getD ([], 0, []))) := rfl
theorem Mod_window_163 (d : Nat) (a0 : Nat) (x2 : Int) (h : Hp) : EX d 103 163 [(0, .inr (.inr a0)), (2, .inl x2)] [] h = EX d 103 144 [(0, .inr (.inr a0)), (2, .inl (x2 + 1))] [] h := (EX_at bk_Mod_window_163 _ _ _).trans rfl
theorem bk_Mod_window_169 : blk 103 169 = some (((cd_Mod_window.lookup 169).getD ([], 0, []))) := rfl
theorem Mod_window_169 (d : Nat) (a0 : Nat) (h : Hp) : EX d 103 169 [(0, .inr (.inr a0))] [] h = if sK h a0 = 11 then if okx h (hR h a0 1) 20 0 then some (.inl (hI h (hR h a0 1) 0), h) else none else none := (EX_at bk_Mod_window_169 _ _ _).trans rfl
/-! fault(I)I of HookOverModel: method 105 -/
theorem bk_Mod_fault_0 : blk 105 0 = some (((cd_Mod_fault.lookup 0).getD ([], 0, []))) := rfl
theorem Mod_fault_0 (d : Nat) (a0 : Nat) (x1 : Int) (h : Hp) : EX d 105 0 [(0, .inr (.inr a0)), (1, .inl x1)] [] h = if sK h a0 = 11 then EX d 105 5 [(0, .inr (.inr a0)), (1, .inl x1)] [] (pI h a0 0 0) else none := (EX_at bk_Mod_fault_0 _ _ _).trans rfl
theorem bk_Mod_fault_5 : blk 105 5 = some (((cd_Mod_fault.lookup 5).getD ([], 0, []))) := rfl
theorem Mod_fault_5 (d : Nat) (a0 : Nat) (x1 : Int) (h : Hp) : EX d 105 5 [(0, .inr (.inr a0)), (1, .inl x1)] [] h = if (wr x1) = 0 then EX d 105 9 [(0, .inr (.inr a0))] [] h else EX d 105 16 [(0, .inr (.inr a0)), (1, .inl x1)] [] h := (EX_at bk_Mod_fault_5 _ _ _).trans rfl
theorem bk_Mod_fault_9 : blk 105 9 = some (((cd_Mod_fault.lookup 9).getD ([], 0, []))) := rfl
theorem Mod_fault_9 (d : Nat) (a0 : Nat) (h : Hp) : EX d 105 9 [(0, .inr (.inr a0))] [] h = if sK h a0 = 11 then EX d 105 29 [] [.inl (hI h a0 13)] h else none := (EX_at bk_Mod_fault_9 _ _ _).trans rfl
theorem bk_Mod_fault_16 : blk 105 16 = some (((cd_Mod_fault.lookup 16).getD ([], 0, []))) := rfl
theorem Mod_fault_16 (d : Nat) (a0 : Nat) (x1 : Int) (h : Hp) : EX d 105 16 [(0, .inr (.inr a0)), (1, .inl x1)] [] h = if (wr x1) = 1 then EX d 105 21 [(0, .inr (.inr a0))] [] h else EX d 105 28 [] [] h := (EX_at bk_Mod_fault_16 _ _ _).trans rfl
theorem bk_Mod_fault_21 : blk 105 21 = some (((cd_Mod_fault.lookup 21).getD ([], 0, []))) := rfl
theorem Mod_fault_21 (d : Nat) (a0 : Nat) (h : Hp) : EX d 105 21 [(0, .inr (.inr a0))] [] h = if sK h a0 = 11 then EX d 105 29 [] [.inl (hI h a0 14)] h else none := (EX_at bk_Mod_fault_21 _ _ _).trans rfl
theorem bk_Mod_fault_28 : blk 105 28 = some (((cd_Mod_fault.lookup 28).getD ([], 0, []))) := rfl
theorem Mod_fault_28 (d : Nat) (h : Hp) : EX d 105 28 [] [] h = EX d 105 29 [] [.inl (-1)] h := (EX_at bk_Mod_fault_28 _ _ _).trans rfl
theorem bk_Mod_fault_29 : blk 105 29 = some (((cd_Mod_fault.lookup 29).getD ([], 0, []))) := rfl
theorem Mod_fault_29 (d : Nat) (s0 : Int) (h : Hp) : EX d 105 29 [] [.inl s0] h = some (.inl s0, h) := (EX_at bk_Mod_fault_29 _ _ _).trans rfl
/-! isHook(I)Z of HookOverModel: method 110 -/
theorem bk_Mod_isHook_0 : blk 110 0 = some (((cd_Mod_isHook.lookup 0).getD ([], 0, []))) := rfl
theorem Mod_isHook_0 (d : Nat) (a0 : Nat) (x1 : Int) (h : Hp) : EX d 110 0 [(0, .inr (.inr a0)), (1, .inl x1)] [] h = if sK h a0 = 11 then if okx h (hR h a0 1) 20 1 then bak (EX d 110) 15 [] [] false (cal d 73 [.inr (.inl (wr x1)), .inr (.inl 0), .inr (.inl (wr ((hI h (hR h a0 1) 1) - 1)))] h) else none else none := (EX_at bk_Mod_isHook_0 _ _ _).trans rfl
theorem bk_Mod_isHook_15 : blk 110 15 = some (((cd_Mod_isHook.lookup 15).getD ([], 0, []))) := rfl
theorem Mod_isHook_15 (d : Nat) (s0 : Int) (h : Hp) : EX d 110 15 [] [.inl s0] h = if ((s0 : Int) = 0 ∨ (s0 : Int) = 1) then some (.inl s0, h) else none := (EX_at bk_Mod_isHook_15 _ _ _).trans rfl
/-! nextJoined(I)I of HookOverModel: method 111 -/
theorem bk_Mod_nextJoined_0 : blk 111 0 = some (((cd_Mod_nextJoined.lookup 0).getD ([], 0, []))) := rfl
theorem Mod_nextJoined_0 (d : Nat) (a0 : Nat) (x1 : Int) (h : Hp) : EX d 111 0 [(0, .inr (.inr a0)), (1, .inl x1)] [] h = EX d 111 4 [(0, .inr (.inr a0)), (2, .inl (x1 + 1))] [] h := (EX_at bk_Mod_nextJoined_0 _ _ _).trans rfl
theorem bk_Mod_nextJoined_4 : blk 111 4 = some (((cd_Mod_nextJoined.lookup 4).getD ([], 0, []))) := rfl
theorem Mod_nextJoined_4 (d : Nat) (a0 : Nat) (x2 : Int) (h : Hp) : EX d 111 4 [(0, .inr (.inr a0)), (2, .inl x2)] [] h = if sK h a0 = 11 then if okx h (hR h a0 1) 20 1 then if (wr x2) < (wr (hI h (hR h a0 1) 1)) then EX d 111 14 [(0, .inr (.inr a0)), (2, .inl x2)] [] h else EX d 111 35 [] [] h else none else none := (EX_at bk_Mod_nextJoined_4 _ _ _).trans rfl
theorem bk_Mod_nextJoined_14 : blk 111 14 = some (((cd_Mod_nextJoined.lookup 14).getD ([], 0, []))) := rfl
theorem Mod_nextJoined_14 (d : Nat) (a0 : Nat) (x2 : Int) (h : Hp) : EX d 111 14 [(0, .inr (.inr a0)), (2, .inl x2)] [] h = if sK h a0 = 11 then if okx h (hR h a0 1) 20 (61 + x2) then if (wr (hI h (hR h a0 1) (ix (61 + x2)))) = (-1) then EX d 111 29 [(0, .inr (.inr a0)), (2, .inl x2)] [] h else EX d 111 27 [(2, .inl x2)] [] h else none else none := (EX_at bk_Mod_nextJoined_14 _ _ _).trans rfl
theorem bk_Mod_nextJoined_27 : blk 111 27 = some (((cd_Mod_nextJoined.lookup 27).getD ([], 0, []))) := rfl
theorem Mod_nextJoined_27 (d : Nat) (x2 : Int) (h : Hp) : EX d 111 27 [(2, .inl x2)] [] h = some (.inl x2, h) := (EX_at bk_Mod_nextJoined_27 _ _ _).trans rfl
theorem bk_Mod_nextJoined_29 : blk 111 29 = some (((cd_Mod_nextJoined.lookup 29).getD ([], 0, []))) := rfl
theorem Mod_nextJoined_29 (d : Nat) (a0 : Nat) (x2 : Int) (h : Hp) : EX d 111 29 [(0, .inr (.inr a0)), (2, .inl x2)] [] h = EX d 111 4 [(0, .inr (.inr a0)), (2, .inl (x2 + 1))] [] h := (EX_at bk_Mod_nextJoined_29 _ _ _).trans rfl
theorem bk_Mod_nextJoined_35 : blk 111 35 = some (((cd_Mod_nextJoined.lookup 35).getD ([], 0, []))) := rfl
theorem Mod_nextJoined_35 (d : Nat) (h : Hp) : EX d 111 35 [] [] h = some (.inl (-1), h) := (EX_at bk_Mod_nextJoined_35 _ _ _).trans rfl
/-! sagOf(I)I of HookOverModel: method 112 -/
theorem bk_Mod_sagOf_0 : blk 112 0 = some (((cd_Mod_sagOf.lookup 0).getD ([], 0, []))) := rfl
theorem Mod_sagOf_0 (d : Nat) (a0 : Nat) (x1 : Int) (h : Hp) : EX d 112 0 [(0, .inr (.inr a0)), (1, .inl x1)] [] h = if sK h a0 = 11 then bak (EX d 112) 5 [(0, .inr (.inr a0)), (1, .inl x1)] [] false (cal d 111 [.inr (.inr a0), .inl x1] h) else none := (EX_at bk_Mod_sagOf_0 _ _ _).trans rfl
theorem bk_Mod_sagOf_5 : blk 112 5 = some (((cd_Mod_sagOf.lookup 5).getD ([], 0, []))) := rfl
theorem Mod_sagOf_5 (d : Nat) (a0 : Nat) (x1 : Int) (s0 : Int) (h : Hp) : EX d 112 5 [(0, .inr (.inr a0)), (1, .inl x1)] [.inl s0] h = if sK h a0 = 11 then if okx h (hR h a0 1) 20 (61 + x1) then if (wr (hI h (hR h a0 1) (ix (61 + x1)))) = (-1) then EX d 112 24 [] [] h else EX d 112 19 [(0, .inr (.inr a0)), (1, .inl x1), (2, .inl s0)] [] h else none else none := (EX_at bk_Mod_sagOf_5 _ _ _).trans rfl
theorem bk_Mod_sagOf_19 : blk 112 19 = some (((cd_Mod_sagOf.lookup 19).getD ([], 0, []))) := rfl
theorem Mod_sagOf_19 (d : Nat) (a0 : Nat) (x1 : Int) (x2 : Int) (h : Hp) : EX d 112 19 [(0, .inr (.inr a0)), (1, .inl x1), (2, .inl x2)] [] h = if (wr x2) = (-1) then EX d 112 24 [] [] h else EX d 112 28 [(0, .inr (.inr a0)), (1, .inl x1), (2, .inl x2)] [] h := (EX_at bk_Mod_sagOf_19 _ _ _).trans rfl
theorem bk_Mod_sagOf_24 : blk 112 24 = some (((cd_Mod_sagOf.lookup 24).getD ([], 0, []))) := rfl
theorem Mod_sagOf_24 (d : Nat) (h : Hp) : EX d 112 24 [] [] h = EX d 112 55 [] [.inl (-1)] h := (EX_at bk_Mod_sagOf_24 _ _ _).trans rfl
theorem bk_Mod_sagOf_28 : blk 112 28 = some (((cd_Mod_sagOf.lookup 28).getD ([], 0, []))) := rfl
theorem Mod_sagOf_28 (d : Nat) (a0 : Nat) (x1 : Int) (x2 : Int) (h : Hp) : EX d 112 28 [(0, .inr (.inr a0)), (1, .inl x1), (2, .inl x2)] [] h = if sK h a0 = 11 then if sK h a0 = 11 then if okx h (hR h a0 1) 20 (61 + x1) then if sK h a0 = 11 then if okx h (hR h a0 1) 20 (61 + x2) then bak (EX d 112) 55 [] [] false (cal d 99 [.inr (.inr (hR h a0 1)), .inl x1, .inl (hI h (hR h a0 1) (ix (61 + x1))), .inl x2, .inl (hI h (hR h a0 1) (ix (61 + x2)))] h) else none else none else none else none else none := (EX_at bk_Mod_sagOf_28 _ _ _).trans rfl
theorem bk_Mod_sagOf_55 : blk 112 55 = some (((cd_Mod_sagOf.lookup 55).getD ([], 0, []))) := rfl
theorem Mod_sagOf_55 (d : Nat) (s0 : Int) (h : Hp) : EX d 112 55 [] [.inl s0] h = some (.inl s0, h) := (EX_at bk_Mod_sagOf_55 _ _ _).trans rfl
/-! wordOf(III)I of HookOverModel: method 113 -/
theorem bk_Mod_wordOf_0 : blk 113 0 = some (((cd_Mod_wordOf.lookup 0).getD ([], 0, []))) := rfl
theorem Mod_wordOf_0 (d : Nat) (a0 : Nat) (x1 : Int) (x2 : Int) (x3 : Int) (h : Hp) : EX d 113 0 [(0, .inr (.inr a0)), (1, .inl x1), (2, .inl x2), (3, .inl x3)] [] h = if (wr x1) = 1000 then EX d 113 40 [(0, .inr (.inr a0)), (1, .inl x1), (2, .inl x2), (3, .inl x3)] [] h else if (wr x1) = 1001 then EX d 113 42 [(0, .inr (.inr a0)), (1, .inl x1), (2, .inl x2), (3, .inl x3)] [] h else if (wr x1) = 1002 then EX d 113 44 [(0, .inr (.inr a0)), (1, .inl x1), (2, .inl x2), (3, .inl x3)] [] h else if (wr x1) = 1003 then EX d 113 54 [(0, .inr (.inr a0)), (1, .inl x1), (2, .inl x2), (3, .inl x3)] [] h else if (wr x1) = 1004 then EX d 113 64 [(0, .inr (.inr a0)), (1, .inl x1), (2, .inl x2), (3, .inl x3)] [] h else if (wr x1) = 1005 then EX d 113 71 [(0, .inr (.inr a0)), (1, .inl x1), (2, .inl x2), (3, .inl x3)] [] h else EX d 113 78 [(0, .inr (.inr a0)), (1, .inl x1), (2, .inl x2), (3, .inl x3)] [] h := (EX_at bk_Mod_wordOf_0 _ _ _).trans rfl
theorem bk_Mod_wordOf_40 : blk 113 40 = some (((cd_Mod_wordOf.lookup 40).getD ([], 0, []))) := rfl
theorem Mod_wordOf_40 (d : Nat) (a0 : Nat) (x1 : Int) (x2 : Int) (x3 : Int) (h : Hp) : EX d 113 40 [(0, .inr (.inr a0)), (1, .inl x1), (2, .inl x2), (3, .inl x3)] [] h = some (.inl x2, h) := (EX_at bk_Mod_wordOf_40 _ _ _).trans rfl
theorem bk_Mod_wordOf_42 : blk 113 42 = some (((cd_Mod_wordOf.lookup 42).getD ([], 0, []))) := rfl
theorem Mod_wordOf_42 (d : Nat) (a0 : Nat) (x1 : Int) (x2 : Int) (x3 : Int) (h : Hp) : EX d 113 42 [(0, .inr (.inr a0)), (1, .inl x1), (2, .inl x2), (3, .inl x3)] [] h = some (.inl x3, h) := (EX_at bk_Mod_wordOf_42 _ _ _).trans rfl
theorem bk_Mod_wordOf_44 : blk 113 44 = some (((cd_Mod_wordOf.lookup 44).getD ([], 0, []))) := rfl
theorem Mod_wordOf_44 (d : Nat) (a0 : Nat) (x1 : Int) (x2 : Int) (x3 : Int) (h : Hp) : EX d 113 44 [(0, .inr (.inr a0)), (1, .inl x1), (2, .inl x2), (3, .inl x3)] [] h = if sK h a0 = 11 then if okx h (hR h a0 1) 20 (35 + x2) then some (.inl (hI h (hR h a0 1) (ix (35 + x2))), h) else none else none := (EX_at bk_Mod_wordOf_44 _ _ _).trans rfl
theorem bk_Mod_wordOf_54 : blk 113 54 = some (((cd_Mod_wordOf.lookup 54).getD ([], 0, []))) := rfl
theorem Mod_wordOf_54 (d : Nat) (a0 : Nat) (x1 : Int) (x2 : Int) (x3 : Int) (h : Hp) : EX d 113 54 [(0, .inr (.inr a0)), (1, .inl x1), (2, .inl x2), (3, .inl x3)] [] h = if sK h a0 = 11 then if okx h (hR h a0 1) 20 (47 + x3) then some (.inl (hI h (hR h a0 1) (ix (47 + x3))), h) else none else none := (EX_at bk_Mod_wordOf_54 _ _ _).trans rfl
theorem bk_Mod_wordOf_64 : blk 113 64 = some (((cd_Mod_wordOf.lookup 64).getD ([], 0, []))) := rfl
theorem Mod_wordOf_64 (d : Nat) (a0 : Nat) (x1 : Int) (x2 : Int) (x3 : Int) (h : Hp) : EX d 113 64 [(0, .inr (.inr a0)), (1, .inl x1), (2, .inl x2), (3, .inl x3)] [] h = if sK h a0 = 11 then if okx h (hR h a0 1) 20 1 then some (.inl (hI h (hR h a0 1) 1), h) else none else none := (EX_at bk_Mod_wordOf_64 _ _ _).trans rfl
theorem bk_Mod_wordOf_71 : blk 113 71 = some (((cd_Mod_wordOf.lookup 71).getD ([], 0, []))) := rfl
theorem Mod_wordOf_71 (d : Nat) (a0 : Nat) (x1 : Int) (x2 : Int) (x3 : Int) (h : Hp) : EX d 113 71 [(0, .inr (.inr a0)), (1, .inl x1), (2, .inl x2), (3, .inl x3)] [] h = if sK h a0 = 11 then if okx h (hR h a0 1) 20 2 then some (.inl (hI h (hR h a0 1) 2), h) else none else none := (EX_at bk_Mod_wordOf_71 _ _ _).trans rfl
theorem bk_Mod_wordOf_78 : blk 113 78 = some (((cd_Mod_wordOf.lookup 78).getD ([], 0, []))) := rfl
theorem Mod_wordOf_78 (d : Nat) (a0 : Nat) (x1 : Int) (x2 : Int) (x3 : Int) (h : Hp) : EX d 113 78 [(0, .inr (.inr a0)), (1, .inl x1), (2, .inl x2), (3, .inl x3)] [] h = some (.inl x1, h) := (EX_at bk_Mod_wordOf_78 _ _ _).trans rfl
/-! between(III)I of HookOverModel: method 114 -/
theorem bk_Mod_between_0 : blk 114 0 = some (((cd_Mod_between.lookup 0).getD ([], 0, []))) := rfl
theorem Mod_between_0 (d : Nat) (x0 : Int) (x1 : Int) (x2 : Int) (h : Hp) : EX d 114 0 [(0, .inl x0), (1, .inl x1), (2, .inl x2)] [] h = if 3002 < (wr x0) then EX d 114 74 [(0, .inl x0), (1, .inl x1), (2, .inl x2)] [] h else EX d 114 7 [(0, .inl x0), (1, .inl x1), (2, .inl x2)] [] h := (EX_at bk_Mod_between_0 _ _ _).trans rfl
theorem bk_Mod_between_7 : blk 114 7 = some (((cd_Mod_between.lookup 7).getD ([], 0, []))) := rfl
theorem Mod_between_7 (d : Nat) (x0 : Int) (x1 : Int) (x2 : Int) (h : Hp) : EX d 114 7 [(0, .inl x0), (1, .inl x1), (2, .inl x2)] [] h = if (wr x0) = 3000 then EX d 114 14 [(1, .inl x1), (2, .inl x2)] [] h else EX d 114 22 [(0, .inl x0), (1, .inl x1), (2, .inl x2)] [] h := (EX_at bk_Mod_between_7 _ _ _).trans rfl
theorem bk_Mod_between_14 : blk 114 14 = some (((cd_Mod_between.lookup 14).getD ([], 0, []))) := rfl
theorem Mod_between_14 (d : Nat) (x1 : Int) (x2 : Int) (h : Hp) : EX d 114 14 [(1, .inl x1), (2, .inl x2)] [] h = EX d 114 42 [] [.inr (.inl ((wr x1) + (wr x2)))] h := (EX_at bk_Mod_between_14 _ _ _).trans rfl
theorem bk_Mod_between_22 : blk 114 22 = some (((cd_Mod_between.lookup 22).getD ([], 0, []))) := rfl
theorem Mod_between_22 (d : Nat) (x0 : Int) (x1 : Int) (x2 : Int) (h : Hp) : EX d 114 22 [(0, .inl x0), (1, .inl x1), (2, .inl x2)] [] h = if (wr x0) = 3001 then EX d 114 29 [(1, .inl x1), (2, .inl x2)] [] h else EX d 114 37 [(1, .inl x1), (2, .inl x2)] [] h := (EX_at bk_Mod_between_22 _ _ _).trans rfl
theorem bk_Mod_between_29 : blk 114 29 = some (((cd_Mod_between.lookup 29).getD ([], 0, []))) := rfl
theorem Mod_between_29 (d : Nat) (x1 : Int) (x2 : Int) (h : Hp) : EX d 114 29 [(1, .inl x1), (2, .inl x2)] [] h = EX d 114 42 [] [.inr (.inl ((wr x1) - (wr x2)))] h := (EX_at bk_Mod_between_29 _ _ _).trans rfl
theorem bk_Mod_between_37 : blk 114 37 = some (((cd_Mod_between.lookup 37).getD ([], 0, []))) := rfl
theorem Mod_between_37 (d : Nat) (x1 : Int) (x2 : Int) (h : Hp) : EX d 114 37 [(1, .inl x1), (2, .inl x2)] [] h = EX d 114 42 [] [.inr (.inl ((wr x1) * (wr x2)))] h := (EX_at bk_Mod_between_37 _ _ _).trans rfl
theorem bk_Mod_between_42 : blk 114 42 = some (((cd_Mod_between.lookup 42).getD ([], 0, []))) := rfl
theorem Mod_between_42 (d : Nat) (t0 : Int) (h : Hp) : EX d 114 42 [] [.inr (.inl t0)] h = if 0 < (wr (lCmp t0 1000000)) then EX d 114 51 [] [] h else EX d 114 57 [(3, .inr (.inl t0))] [] h := (EX_at bk_Mod_between_42 _ _ _).trans rfl
theorem bk_Mod_between_51 : blk 114 51 = some (((cd_Mod_between.lookup 51).getD ([], 0, []))) := rfl
theorem Mod_between_51 (d : Nat) (h : Hp) : EX d 114 51 [] [] h = EX d 114 72 [] [.inr (.inl 1000000)] h := (EX_at bk_Mod_between_51 _ _ _).trans rfl
theorem bk_Mod_between_57 : blk 114 57 = some (((cd_Mod_between.lookup 57).getD ([], 0, []))) := rfl
theorem Mod_between_57 (d : Nat) (y3 : Int) (h : Hp) : EX d 114 57 [(3, .inr (.inl y3))] [] h = if (wr (lCmp y3 (-1000000))) < 0 then EX d 114 65 [] [] h else EX d 114 71 [(3, .inr (.inl y3))] [] h := (EX_at bk_Mod_between_57 _ _ _).trans rfl
theorem bk_Mod_between_65 : blk 114 65 = some (((cd_Mod_between.lookup 65).getD ([], 0, []))) := rfl
theorem Mod_between_65 (d : Nat) (h : Hp) : EX d 114 65 [] [] h = EX d 114 72 [] [.inr (.inl (-1000000))] h := (EX_at bk_Mod_between_65 _ _ _).trans rfl
theorem bk_Mod_between_71 : blk 114 71 = some (((cd_Mod_between.lookup 71).getD ([], 0, []))) := rfl
theorem Mod_between_71 (d : Nat) (y3 : Int) (h : Hp) : EX d 114 71 [(3, .inr (.inl y3))] [] h = EX d 114 72 [] [.inr (.inl y3)] h := (EX_at bk_Mod_between_71 _ _ _).trans rfl
theorem bk_Mod_between_72 : blk 114 72 = some (((cd_Mod_between.lookup 72).getD ([], 0, []))) := rfl
theorem Mod_between_72 (d : Nat) (t0 : Int) (h : Hp) : EX d 114 72 [] [.inr (.inl t0)] h = some (.inl t0, h) := (EX_at bk_Mod_between_72 _ _ _).trans rfl
theorem bk_Mod_between_74 : blk 114 74 = some (((cd_Mod_between.lookup 74).getD ([], 0, []))) := rfl
theorem Mod_between_74 (d : Nat) (x0 : Int) (x1 : Int) (x2 : Int) (h : Hp) : EX d 114 74 [(0, .inl x0), (1, .inl x1), (2, .inl x2)] [] h = if (wr x0) = 3003 then EX d 114 81 [(1, .inl x1), (2, .inl x2)] [] h else EX d 114 94 [(0, .inl x0), (1, .inl x1), (2, .inl x2)] [] h := (EX_at bk_Mod_between_74 _ _ _).trans rfl
theorem bk_Mod_between_81 : blk 114 81 = some (((cd_Mod_between.lookup 81).getD ([], 0, []))) := rfl
theorem Mod_between_81 (d : Nat) (x1 : Int) (x2 : Int) (h : Hp) : EX d 114 81 [(1, .inl x1), (2, .inl x2)] [] h = if (wr x1) = (wr x2) then EX d 114 86 [] [] h else EX d 114 90 [] [] h := (EX_at bk_Mod_between_81 _ _ _).trans rfl
theorem bk_Mod_between_86 : blk 114 86 = some (((cd_Mod_between.lookup 86).getD ([], 0, []))) := rfl
theorem Mod_between_86 (d : Nat) (h : Hp) : EX d 114 86 [] [] h = EX d 114 167 [] [.inl 1] h := (EX_at bk_Mod_between_86 _ _ _).trans rfl
theorem bk_Mod_between_90 : blk 114 90 = some (((cd_Mod_between.lookup 90).getD ([], 0, []))) := rfl
theorem Mod_between_90 (d : Nat) (h : Hp) : EX d 114 90 [] [] h = EX d 114 167 [] [.inl 0] h := (EX_at bk_Mod_between_90 _ _ _).trans rfl
theorem bk_Mod_between_94 : blk 114 94 = some (((cd_Mod_between.lookup 94).getD ([], 0, []))) := rfl
theorem Mod_between_94 (d : Nat) (x0 : Int) (x1 : Int) (x2 : Int) (h : Hp) : EX d 114 94 [(0, .inl x0), (1, .inl x1), (2, .inl x2)] [] h = if (wr x0) = 3004 then EX d 114 101 [(1, .inl x1), (2, .inl x2)] [] h else EX d 114 114 [(0, .inl x0), (1, .inl x1), (2, .inl x2)] [] h := (EX_at bk_Mod_between_94 _ _ _).trans rfl
theorem bk_Mod_between_101 : blk 114 101 = some (((cd_Mod_between.lookup 101).getD ([], 0, []))) := rfl
theorem Mod_between_101 (d : Nat) (x1 : Int) (x2 : Int) (h : Hp) : EX d 114 101 [(1, .inl x1), (2, .inl x2)] [] h = if (wr x1) < (wr x2) then EX d 114 106 [] [] h else EX d 114 110 [] [] h := (EX_at bk_Mod_between_101 _ _ _).trans rfl
theorem bk_Mod_between_106 : blk 114 106 = some (((cd_Mod_between.lookup 106).getD ([], 0, []))) := rfl
theorem Mod_between_106 (d : Nat) (h : Hp) : EX d 114 106 [] [] h = EX d 114 167 [] [.inl 1] h := (EX_at bk_Mod_between_106 _ _ _).trans rfl
theorem bk_Mod_between_110 : blk 114 110 = some (((cd_Mod_between.lookup 110).getD ([], 0, []))) := rfl
theorem Mod_between_110 (d : Nat) (h : Hp) : EX d 114 110 [] [] h = EX d 114 167 [] [.inl 0] h := (EX_at bk_Mod_between_110 _ _ _).trans rfl
theorem bk_Mod_between_114 : blk 114 114 = some (((cd_Mod_between.lookup 114).getD ([], 0, []))) := rfl
theorem Mod_between_114 (d : Nat) (x0 : Int) (x1 : Int) (x2 : Int) (h : Hp) : EX d 114 114 [(0, .inl x0), (1, .inl x1), (2, .inl x2)] [] h = if (wr x0) = 3005 then EX d 114 121 [(1, .inl x1), (2, .inl x2)] [] h else EX d 114 134 [(0, .inl x0), (1, .inl x1), (2, .inl x2)] [] h := (EX_at bk_Mod_between_114 _ _ _).trans rfl
theorem bk_Mod_between_121 : blk 114 121 = some (((cd_Mod_between.lookup 121).getD ([], 0, []))) := rfl
theorem Mod_between_121 (d : Nat) (x1 : Int) (x2 : Int) (h : Hp) : EX d 114 121 [(1, .inl x1), (2, .inl x2)] [] h = if (wr x2) < (wr x1) then EX d 114 126 [] [] h else EX d 114 130 [] [] h := (EX_at bk_Mod_between_121 _ _ _).trans rfl
theorem bk_Mod_between_126 : blk 114 126 = some (((cd_Mod_between.lookup 126).getD ([], 0, []))) := rfl
theorem Mod_between_126 (d : Nat) (h : Hp) : EX d 114 126 [] [] h = EX d 114 167 [] [.inl 1] h := (EX_at bk_Mod_between_126 _ _ _).trans rfl
theorem bk_Mod_between_130 : blk 114 130 = some (((cd_Mod_between.lookup 130).getD ([], 0, []))) := rfl
theorem Mod_between_130 (d : Nat) (h : Hp) : EX d 114 130 [] [] h = EX d 114 167 [] [.inl 0] h := (EX_at bk_Mod_between_130 _ _ _).trans rfl
theorem bk_Mod_between_134 : blk 114 134 = some (((cd_Mod_between.lookup 134).getD ([], 0, []))) := rfl
theorem Mod_between_134 (d : Nat) (x0 : Int) (x1 : Int) (x2 : Int) (h : Hp) : EX d 114 134 [(0, .inl x0), (1, .inl x1), (2, .inl x2)] [] h = if (wr x0) = 3006 then EX d 114 141 [(1, .inl x1), (2, .inl x2)] [] h else EX d 114 156 [(1, .inl x1), (2, .inl x2)] [] h := (EX_at bk_Mod_between_134 _ _ _).trans rfl
theorem bk_Mod_between_141 : blk 114 141 = some (((cd_Mod_between.lookup 141).getD ([], 0, []))) := rfl
theorem Mod_between_141 (d : Nat) (x1 : Int) (x2 : Int) (h : Hp) : EX d 114 141 [(1, .inl x1), (2, .inl x2)] [] h = if (wr (x1 + x2)) = 2 then EX d 114 148 [] [] h else EX d 114 152 [] [] h := (EX_at bk_Mod_between_141 _ _ _).trans rfl
theorem bk_Mod_between_148 : blk 114 148 = some (((cd_Mod_between.lookup 148).getD ([], 0, []))) := rfl
theorem Mod_between_148 (d : Nat) (h : Hp) : EX d 114 148 [] [] h = EX d 114 167 [] [.inl 1] h := (EX_at bk_Mod_between_148 _ _ _).trans rfl
theorem bk_Mod_between_152 : blk 114 152 = some (((cd_Mod_between.lookup 152).getD ([], 0, []))) := rfl
theorem Mod_between_152 (d : Nat) (h : Hp) : EX d 114 152 [] [] h = EX d 114 167 [] [.inl 0] h := (EX_at bk_Mod_between_152 _ _ _).trans rfl
theorem bk_Mod_between_156 : blk 114 156 = some (((cd_Mod_between.lookup 156).getD ([], 0, []))) := rfl
theorem Mod_between_156 (d : Nat) (x1 : Int) (x2 : Int) (h : Hp) : EX d 114 156 [(1, .inl x1), (2, .inl x2)] [] h = if 0 < (wr (x1 + x2)) then EX d 114 162 [] [] h else EX d 114 166 [] [] h := (EX_at bk_Mod_between_156 _ _ _).trans rfl
theorem bk_Mod_between_162 : blk 114 162 = some (((cd_Mod_between.lookup 162).getD ([], 0, []))) := rfl
theorem Mod_between_162 (d : Nat) (h : Hp) : EX d 114 162 [] [] h = EX d 114 167 [] [.inl 1] h := (EX_at bk_Mod_between_162 _ _ _).trans rfl
theorem bk_Mod_between_166 : blk 114 166 = some (((cd_Mod_between.lookup 166).getD ([], 0, []))) := rfl
theorem Mod_between_166 (d : Nat) (h : Hp) : EX d 114 166 [] [] h = EX d 114 167 [] [.inl 0] h := (EX_at bk_Mod_between_166 _ _ _).trans rfl
theorem bk_Mod_between_167 : blk 114 167 = some (((cd_Mod_between.lookup 167).getD ([], 0, []))) := rfl
theorem Mod_between_167 (d : Nat) (s0 : Int) (h : Hp) : EX d 114 167 [] [.inl s0] h = if (wr s0) = 0 then EX d 114 176 [] [] h else EX d 114 172 [] [] h := (EX_at bk_Mod_between_167 _ _ _).trans rfl
theorem bk_Mod_between_172 : blk 114 172 = some (((cd_Mod_between.lookup 172).getD ([], 0, []))) := rfl
theorem Mod_between_172 (d : Nat) (h : Hp) : EX d 114 172 [] [] h = EX d 114 177 [] [.inl 1] h := (EX_at bk_Mod_between_172 _ _ _).trans rfl
theorem bk_Mod_between_176 : blk 114 176 = some (((cd_Mod_between.lookup 176).getD ([], 0, []))) := rfl
theorem Mod_between_176 (d : Nat) (h : Hp) : EX d 114 176 [] [] h = EX d 114 177 [] [.inl 0] h := (EX_at bk_Mod_between_176 _ _ _).trans rfl
theorem bk_Mod_between_177 : blk 114 177 = some (((cd_Mod_between.lookup 177).getD ([], 0, []))) := rfl
theorem Mod_between_177 (d : Nat) (s0 : Int) (h : Hp) : EX d 114 177 [] [.inl s0] h = some (.inl s0, h) := (EX_at bk_Mod_between_177 _ _ _).trans rfl
/-! isRight(II)Z of HookOverModel: method 115 -/
theorem bk_Mod_isRight_0 : blk 115 0 = some (((cd_Mod_isRight.lookup 0).getD ([], 0, []))) := rfl
theorem Mod_isRight_0 (d : Nat) (a0 : Nat) (x1 : Int) (x2 : Int) (h : Hp) : EX d 115 0 [(0, .inr (.inr a0)), (1, .inl x1), (2, .inl x2)] [] h = if sK h a0 = 11 then if okx h (hR h a0 1) 20 9 then if (wr (hI h (hR h a0 1) 9)) = 0 then EX d 115 10 [(1, .inl x1), (2, .inl x2)] [] h else EX d 115 21 [(0, .inr (.inr a0)), (1, .inl x1), (2, .inl x2)] [] h else none else none := (EX_at bk_Mod_isRight_0 _ _ _).trans rfl
theorem bk_Mod_isRight_10 : blk 115 10 = some (((cd_Mod_isRight.lookup 10).getD ([], 0, []))) := rfl
theorem Mod_isRight_10 (d : Nat) (x1 : Int) (x2 : Int) (h : Hp) : EX d 115 10 [(1, .inl x1), (2, .inl x2)] [] h = if (wr x1) = (wr x2) then EX d 115 15 [] [] h else EX d 115 19 [] [] h := (EX_at bk_Mod_isRight_10 _ _ _).trans rfl
theorem bk_Mod_isRight_15 : blk 115 15 = some (((cd_Mod_isRight.lookup 15).getD ([], 0, []))) := rfl
theorem Mod_isRight_15 (d : Nat) (h : Hp) : EX d 115 15 [] [] h = EX d 115 20 [] [.inl 1] h := (EX_at bk_Mod_isRight_15 _ _ _).trans rfl
theorem bk_Mod_isRight_19 : blk 115 19 = some (((cd_Mod_isRight.lookup 19).getD ([], 0, []))) := rfl
theorem Mod_isRight_19 (d : Nat) (h : Hp) : EX d 115 19 [] [] h = EX d 115 20 [] [.inl 0] h := (EX_at bk_Mod_isRight_19 _ _ _).trans rfl
theorem bk_Mod_isRight_20 : blk 115 20 = some (((cd_Mod_isRight.lookup 20).getD ([], 0, []))) := rfl
theorem Mod_isRight_20 (d : Nat) (s0 : Int) (h : Hp) : EX d 115 20 [] [.inl s0] h = if ((s0 : Int) = 0 ∨ (s0 : Int) = 1) then some (.inl s0, h) else none := (EX_at bk_Mod_isRight_20 _ _ _).trans rfl
theorem bk_Mod_isRight_21 : blk 115 21 = some (((cd_Mod_isRight.lookup 21).getD ([], 0, []))) := rfl
theorem Mod_isRight_21 (d : Nat) (a0 : Nat) (x1 : Int) (x2 : Int) (h : Hp) : EX d 115 21 [(0, .inr (.inr a0)), (1, .inl x1), (2, .inl x2)] [] h = EX d 115 26 [(0, .inr (.inr a0)), (1, .inl x1), (2, .inl x2), (3, .inl 0), (4, .inl 0)] [] h := (EX_at bk_Mod_isRight_21 _ _ _).trans rfl
theorem bk_Mod_isRight_26 : blk 115 26 = some (((cd_Mod_isRight.lookup 26).getD ([], 0, []))) := rfl
theorem Mod_isRight_26 (d : Nat) (a0 : Nat) (x1 : Int) (x2 : Int) (x3 : Int) (x4 : Int) (h : Hp) : EX d 115 26 [(0, .inr (.inr a0)), (1, .inl x1), (2, .inl x2), (3, .inl x3), (4, .inl x4)] [] h = if sK h a0 = 11 then if okx h (hR h a0 1) 20 214 then if (wr x4) < (wr (hI h (hR h a0 1) 214)) then EX d 115 39 [(0, .inr (.inr a0)), (1, .inl x1), (2, .inl x2), (3, .inl x3), (4, .inl x4)] [] h else EX d 115 145 [(0, .inr (.inr a0))] [] h else none else none := (EX_at bk_Mod_isRight_26 _ _ _).trans rfl
theorem bk_Mod_isRight_39 : blk 115 39 = some (((cd_Mod_isRight.lookup 39).getD ([], 0, []))) := rfl
theorem Mod_isRight_39 (d : Nat) (a0 : Nat) (x1 : Int) (x2 : Int) (x3 : Int) (x4 : Int) (h : Hp) : EX d 115 39 [(0, .inr (.inr a0)), (1, .inl x1), (2, .inl x2), (3, .inl x3), (4, .inl x4)] [] h = if sK h a0 = 11 then if okx h (hR h a0 1) 20 (215 + x4) then if (wr (hI h (hR h a0 1) (ix (215 + x4)))) < 3000 then EX d 115 60 [(0, .inr (.inr a0)), (1, .inl x1), (2, .inl x2), (3, .inl x3), (4, .inl x4), (5, .inl (hI h (hR h a0 1) (ix (215 + x4))))] [] h else EX d 115 80 [(0, .inr (.inr a0)), (1, .inl x1), (2, .inl x2), (3, .inl x3), (4, .inl x4), (5, .inl (hI h (hR h a0 1) (ix (215 + x4))))] [] h else none else none := (EX_at bk_Mod_isRight_39 _ _ _).trans rfl
theorem bk_Mod_isRight_60 : blk 115 60 = some (((cd_Mod_isRight.lookup 60).getD ([], 0, []))) := rfl
theorem Mod_isRight_60 (d : Nat) (a0 : Nat) (x1 : Int) (x2 : Int) (x3 : Int) (x4 : Int) (x5 : Int) (h : Hp) : EX d 115 60 [(0, .inr (.inr a0)), (1, .inl x1), (2, .inl x2), (3, .inl x3), (4, .inl x4), (5, .inl x5)] [] h = if sK h a0 = 11 then if sK h a0 = 11 then bak (EX d 115) 73 [(0, .inr (.inr a0)), (1, .inl x1), (2, .inl x2), (3, .inl x3), (4, .inl x4)] [.inl x3, .inr (.inr (hR h a0 15))] false (cal d 113 [.inr (.inr a0), .inl x5, .inl x1, .inl x2] h) else none else none := (EX_at bk_Mod_isRight_60 _ _ _).trans rfl
theorem bk_Mod_isRight_73 : blk 115 73 = some (((cd_Mod_isRight.lookup 73).getD ([], 0, []))) := rfl
theorem Mod_isRight_73 (d : Nat) (a0 : Nat) (x1 : Int) (x2 : Int) (x3 : Int) (x4 : Int) (r0 : Nat) (s1 : Int) (s2 : Int) (h : Hp) : EX d 115 73 [(0, .inr (.inr a0)), (1, .inl x1), (2, .inl x2), (3, .inl x3), (4, .inl x4)] [.inl s2, .inl s1, .inr (.inr r0)] h = if okx h r0 20 s1 then EX d 115 74 [(0, .inr (.inr a0)), (1, .inl x1), (2, .inl x2), (3, .inl x3), (4, .inl x4)] [] (pI h r0 (ix s1) s2) else none := (EX_at bk_Mod_isRight_73 _ _ _).trans rfl
theorem bk_Mod_isRight_74 : blk 115 74 = some (((cd_Mod_isRight.lookup 74).getD ([], 0, []))) := rfl
theorem Mod_isRight_74 (d : Nat) (a0 : Nat) (x1 : Int) (x2 : Int) (x3 : Int) (x4 : Int) (h : Hp) : EX d 115 74 [(0, .inr (.inr a0)), (1, .inl x1), (2, .inl x2), (3, .inl x3), (4, .inl x4)] [] h = EX d 115 139 [(0, .inr (.inr a0)), (1, .inl x1), (2, .inl x2), (3, .inl (x3 + 1)), (4, .inl x4)] [] h := (EX_at bk_Mod_isRight_74 _ _ _).trans rfl
theorem bk_Mod_isRight_80 : blk 115 80 = some (((cd_Mod_isRight.lookup 80).getD ([], 0, []))) := rfl
theorem Mod_isRight_80 (d : Nat) (a0 : Nat) (x1 : Int) (x2 : Int) (x3 : Int) (x4 : Int) (x5 : Int) (h : Hp) : EX d 115 80 [(0, .inr (.inr a0)), (1, .inl x1), (2, .inl x2), (3, .inl x3), (4, .inl x4), (5, .inl x5)] [] h = if (wr x5) = 3008 then EX d 115 88 [(0, .inr (.inr a0)), (1, .inl x1), (2, .inl x2), (3, .inl x3), (4, .inl x4)] [] h else EX d 115 109 [(0, .inr (.inr a0)), (1, .inl x1), (2, .inl x2), (3, .inl x3), (4, .inl x4), (5, .inl x5)] [] h := (EX_at bk_Mod_isRight_80 _ _ _).trans rfl
theorem bk_Mod_isRight_88 : blk 115 88 = some (((cd_Mod_isRight.lookup 88).getD ([], 0, []))) := rfl
theorem Mod_isRight_88 (d : Nat) (a0 : Nat) (x1 : Int) (x2 : Int) (x3 : Int) (x4 : Int) (h : Hp) : EX d 115 88 [(0, .inr (.inr a0)), (1, .inl x1), (2, .inl x2), (3, .inl x3), (4, .inl x4)] [] h = if sK h a0 = 11 then if sK h a0 = 11 then if okx h (hR h a0 15) 20 (x3 - 1) then if okx h (hR h a0 15) 20 (x3 - 1) then EX d 115 106 [(0, .inr (.inr a0)), (1, .inl x1), (2, .inl x2), (3, .inl x3), (4, .inl x4)] [] (pI h (hR h a0 15) (ix (x3 - 1)) (1 - (hI h (hR h a0 15) (ix (x3 - 1))))) else none else none else none else none := (EX_at bk_Mod_isRight_88 _ _ _).trans rfl
theorem bk_Mod_isRight_106 : blk 115 106 = some (((cd_Mod_isRight.lookup 106).getD ([], 0, []))) := rfl
theorem Mod_isRight_106 (d : Nat) (a0 : Nat) (x1 : Int) (x2 : Int) (x3 : Int) (x4 : Int) (h : Hp) : EX d 115 106 [(0, .inr (.inr a0)), (1, .inl x1), (2, .inl x2), (3, .inl x3), (4, .inl x4)] [] h = EX d 115 139 [(0, .inr (.inr a0)), (1, .inl x1), (2, .inl x2), (3, .inl x3), (4, .inl x4)] [] h := (EX_at bk_Mod_isRight_106 _ _ _).trans rfl
theorem bk_Mod_isRight_109 : blk 115 109 = some (((cd_Mod_isRight.lookup 109).getD ([], 0, []))) := rfl
theorem Mod_isRight_109 (d : Nat) (a0 : Nat) (x1 : Int) (x2 : Int) (x3 : Int) (x4 : Int) (x5 : Int) (h : Hp) : EX d 115 109 [(0, .inr (.inr a0)), (1, .inl x1), (2, .inl x2), (3, .inl x3), (4, .inl x4), (5, .inl x5)] [] h = if sK h a0 = 11 then if sK h a0 = 11 then if okx h (hR h a0 15) 20 ((x3 + (-1)) - 1) then if sK h a0 = 11 then if okx h (hR h a0 15) 20 (x3 + (-1)) then bak (EX d 115) 138 [(0, .inr (.inr a0)), (1, .inl x1), (2, .inl x2), (3, .inl (x3 + (-1))), (4, .inl x4)] [.inl ((x3 + (-1)) - 1), .inr (.inr (hR h a0 15))] false (cal d 114 [.inl x5, .inl (hI h (hR h a0 15) (ix ((x3 + (-1)) - 1))), .inl (hI h (hR h a0 15) (ix (x3 + (-1))))] h) else none else none else none else none else none := (EX_at bk_Mod_isRight_109 _ _ _).trans rfl
theorem bk_Mod_isRight_138 : blk 115 138 = some (((cd_Mod_isRight.lookup 138).getD ([], 0, []))) := rfl
theorem Mod_isRight_138 (d : Nat) (a0 : Nat) (x1 : Int) (x2 : Int) (x3 : Int) (x4 : Int) (r0 : Nat) (s1 : Int) (s2 : Int) (h : Hp) : EX d 115 138 [(0, .inr (.inr a0)), (1, .inl x1), (2, .inl x2), (3, .inl x3), (4, .inl x4)] [.inl s2, .inl s1, .inr (.inr r0)] h = if okx h r0 20 s1 then EX d 115 139 [(0, .inr (.inr a0)), (1, .inl x1), (2, .inl x2), (3, .inl x3), (4, .inl x4)] [] (pI h r0 (ix s1) s2) else none := (EX_at bk_Mod_isRight_138 _ _ _).trans rfl
theorem bk_Mod_isRight_139 : blk 115 139 = some (((cd_Mod_isRight.lookup 139).getD ([], 0, []))) := rfl
theorem Mod_isRight_139 (d : Nat) (a0 : Nat) (x1 : Int) (x2 : Int) (x3 : Int) (x4 : Int) (h : Hp) : EX d 115 139 [(0, .inr (.inr a0)), (1, .inl x1), (2, .inl x2), (3, .inl x3), (4, .inl x4)] [] h = EX d 115 26 [(0, .inr (.inr a0)), (1, .inl x1), (2, .inl x2), (3, .inl x3), (4, .inl (x4 + 1))] [] h := (EX_at bk_Mod_isRight_139 _ _ _).trans rfl
theorem bk_Mod_isRight_145 : blk 115 145 = some (((cd_Mod_isRight.lookup 145).getD ([], 0, []))) := rfl
theorem Mod_isRight_145 (d : Nat) (a0 : Nat) (h : Hp) : EX d 115 145 [(0, .inr (.inr a0))] [] h = if sK h a0 = 11 then if okx h (hR h a0 15) 20 0 then if (wr (hI h (hR h a0 15) 0)) = 1 then EX d 115 155 [] [] h else EX d 115 159 [] [] h else none else none := (EX_at bk_Mod_isRight_145 _ _ _).trans rfl
theorem bk_Mod_isRight_155 : blk 115 155 = some (((cd_Mod_isRight.lookup 155).getD ([], 0, []))) := rfl
theorem Mod_isRight_155 (d : Nat) (h : Hp) : EX d 115 155 [] [] h = EX d 115 160 [] [.inl 1] h := (EX_at bk_Mod_isRight_155 _ _ _).trans rfl
theorem bk_Mod_isRight_159 : blk 115 159 = some (((cd_Mod_isRight.lookup 159).getD ([], 0, []))) := rfl
theorem Mod_isRight_159 (d : Nat) (h : Hp) : EX d 115 159 [] [] h = EX d 115 160 [] [.inl 0] h := (EX_at bk_Mod_isRight_159 _ _ _).trans rfl
theorem bk_Mod_isRight_160 : blk 115 160 = some (((cd_Mod_isRight.lookup 160).getD ([], 0, []))) := rfl
theorem Mod_isRight_160 (d : Nat) (s0 : Int) (h : Hp) : EX d 115 160 [] [.inl s0] h = if ((s0 : Int) = 0 ∨ (s0 : Int) = 1) then some (.inl s0, h) else none := (EX_at bk_Mod_isRight_160 _ _ _).trans rfl
/-! isRightNow(I)Z of HookOverModel: method 116 -/
theorem bk_Mod_isRightNow_0 : blk 116 0 = some (((cd_Mod_isRightNow.lookup 0).getD ([], 0, []))) := rfl
theorem Mod_isRightNow_0 (d : Nat) (a0 : Nat) (x1 : Int) (h : Hp) : EX d 116 0 [(0, .inr (.inr a0)), (1, .inl x1)] [] h = if sK h a0 = 11 then if okx h (hR h a0 1) 20 (61 + x1) then if (wr (hI h (hR h a0 1) (ix (61 + x1)))) = (-1) then EX d 116 34 [] [] h else EX d 116 13 [(0, .inr (.inr a0)), (1, .inl x1)] [] h else none else none := (EX_at bk_Mod_isRightNow_0 _ _ _).trans rfl
theorem bk_Mod_isRightNow_13 : blk 116 13 = some (((cd_Mod_isRightNow.lookup 13).getD ([], 0, []))) := rfl
theorem Mod_isRightNow_13 (d : Nat) (a0 : Nat) (x1 : Int) (h : Hp) : EX d 116 13 [(0, .inr (.inr a0)), (1, .inl x1)] [] h = if sK h a0 = 11 then if okx h (hR h a0 1) 20 (61 + x1) then if sK h a0 = 11 then bak (EX d 116) 27 [] [] false (cal d 115 [.inr (.inr a0), .inl x1, .inl (hI h (hR h a0 1) (ix (61 + x1)))] h) else none else none else none := (EX_at bk_Mod_isRightNow_13 _ _ _).trans rfl
theorem bk_Mod_isRightNow_27 : blk 116 27 = some (((cd_Mod_isRightNow.lookup 27).getD ([], 0, []))) := rfl
theorem Mod_isRightNow_27 (d : Nat) (s0 : Int) (h : Hp) : EX d 116 27 [] [.inl s0] h = if (wr s0) = 0 then EX d 116 34 [] [] h else EX d 116 30 [] [] h := (EX_at bk_Mod_isRightNow_27 _ _ _).trans rfl
theorem bk_Mod_isRightNow_30 : blk 116 30 = some (((cd_Mod_isRightNow.lookup 30).getD ([], 0, []))) := rfl
theorem Mod_isRightNow_30 (d : Nat) (h : Hp) : EX d 116 30 [] [] h = EX d 116 35 [] [.inl 1] h := (EX_at bk_Mod_isRightNow_30 _ _ _).trans rfl
theorem bk_Mod_isRightNow_34 : blk 116 34 = some (((cd_Mod_isRightNow.lookup 34).getD ([], 0, []))) := rfl
theorem Mod_isRightNow_34 (d : Nat) (h : Hp) : EX d 116 34 [] [] h = EX d 116 35 [] [.inl 0] h := (EX_at bk_Mod_isRightNow_34 _ _ _).trans rfl
theorem bk_Mod_isRightNow_35 : blk 116 35 = some (((cd_Mod_isRightNow.lookup 35).getD ([], 0, []))) := rfl
theorem Mod_isRightNow_35 (d : Nat) (s0 : Int) (h : Hp) : EX d 116 35 [] [.inl s0] h = if ((s0 : Int) = 0 ∨ (s0 : Int) = 1) then some (.inl s0, h) else none := (EX_at bk_Mod_isRightNow_35 _ _ _).trans rfl
/-! hook(II)I of HookOverModel: method 117 -/
theorem bk_Mod_hook_0 : blk 117 0 = some (((cd_Mod_hook.lookup 0).getD ([], 0, []))) := rfl
theorem Mod_hook_0 (d : Nat) (a0 : Nat) (x1 : Int) (x2 : Int) (h : Hp) : EX d 117 0 [(0, .inr (.inr a0)), (1, .inl x1), (2, .inl x2)] [] h = if sK h a0 = 11 then EX d 117 5 [(0, .inr (.inr a0)), (1, .inl x1), (2, .inl x2)] [] (pI h a0 0 0) else none := (EX_at bk_Mod_hook_0 _ _ _).trans rfl
theorem bk_Mod_hook_5 : blk 117 5 = some (((cd_Mod_hook.lookup 5).getD ([], 0, []))) := rfl
theorem Mod_hook_5 (d : Nat) (a0 : Nat) (x1 : Int) (x2 : Int) (h : Hp) : EX d 117 5 [(0, .inr (.inr a0)), (1, .inl x1), (2, .inl x2)] [] h = if sK h a0 = 11 then bak (EX d 117) 10 [(0, .inr (.inr a0)), (1, .inl x1), (2, .inl x2)] [] false (cal d 110 [.inr (.inr a0), .inl x1] h) else none := (EX_at bk_Mod_hook_5 _ _ _).trans rfl
theorem bk_Mod_hook_10 : blk 117 10 = some (((cd_Mod_hook.lookup 10).getD ([], 0, []))) := rfl
theorem Mod_hook_10 (d : Nat) (a0 : Nat) (x1 : Int) (x2 : Int) (s0 : Int) (h : Hp) : EX d 117 10 [(0, .inr (.inr a0)), (1, .inl x1), (2, .inl x2)] [.inl s0] h = if (wr s0) = 0 then EX d 117 13 [] [] h else EX d 117 16 [(0, .inr (.inr a0)), (1, .inl x1), (2, .inl x2)] [] h := (EX_at bk_Mod_hook_10 _ _ _).trans rfl
theorem bk_Mod_hook_13 : blk 117 13 = some (((cd_Mod_hook.lookup 13).getD ([], 0, []))) := rfl
theorem Mod_hook_13 (d : Nat) (h : Hp) : EX d 117 13 [] [] h = some (.inl (-2), h) := (EX_at bk_Mod_hook_13 _ _ _).trans rfl
theorem bk_Mod_hook_16 : blk 117 16 = some (((cd_Mod_hook.lookup 16).getD ([], 0, []))) := rfl
theorem Mod_hook_16 (d : Nat) (a0 : Nat) (x1 : Int) (x2 : Int) (h : Hp) : EX d 117 16 [(0, .inr (.inr a0)), (1, .inl x1), (2, .inl x2)] [] h = if (wr x2) = 0 then EX d 117 52 [(0, .inr (.inr a0)), (1, .inl x1)] [] h else if (wr x2) = 1 then EX d 117 62 [(0, .inr (.inr a0)), (1, .inl x1)] [] h else if (wr x2) = 2 then EX d 117 72 [(0, .inr (.inr a0)), (1, .inl x1)] [] h else if (wr x2) = 3 then EX d 117 98 [(0, .inr (.inr a0)), (1, .inl x1)] [] h else if (wr x2) = 4 then EX d 117 104 [(0, .inr (.inr a0)), (1, .inl x1)] [] h else EX d 117 118 [(0, .inr (.inr a0)), (1, .inl x1)] [] h := (EX_at bk_Mod_hook_16 _ _ _).trans rfl
theorem bk_Mod_hook_52 : blk 117 52 = some (((cd_Mod_hook.lookup 52).getD ([], 0, []))) := rfl
theorem Mod_hook_52 (d : Nat) (a0 : Nat) (x1 : Int) (h : Hp) : EX d 117 52 [(0, .inr (.inr a0)), (1, .inl x1)] [] h = if sK h a0 = 11 then if okx h (hR h a0 1) 20 (61 + x1) then some (.inl (hI h (hR h a0 1) (ix (61 + x1))), h) else none else none := (EX_at bk_Mod_hook_52 _ _ _).trans rfl
theorem bk_Mod_hook_62 : blk 117 62 = some (((cd_Mod_hook.lookup 62).getD ([], 0, []))) := rfl
theorem Mod_hook_62 (d : Nat) (a0 : Nat) (x1 : Int) (h : Hp) : EX d 117 62 [(0, .inr (.inr a0)), (1, .inl x1)] [] h = if sK h a0 = 11 then if okx h (hR h a0 1) 20 (35 + x1) then some (.inl (hI h (hR h a0 1) (ix (35 + x1))), h) else none else none := (EX_at bk_Mod_hook_62 _ _ _).trans rfl
theorem bk_Mod_hook_72 : blk 117 72 = some (((cd_Mod_hook.lookup 72).getD ([], 0, []))) := rfl
theorem Mod_hook_72 (d : Nat) (a0 : Nat) (x1 : Int) (h : Hp) : EX d 117 72 [(0, .inr (.inr a0)), (1, .inl x1)] [] h = if sK h a0 = 11 then if okx h (hR h a0 1) 20 1 then if (wr x1) = (wr ((hI h (hR h a0 1) 1) - 1)) then EX d 117 84 [] [] h else EX d 117 88 [(0, .inr (.inr a0)), (1, .inl x1)] [] h else none else none := (EX_at bk_Mod_hook_72 _ _ _).trans rfl
theorem bk_Mod_hook_84 : blk 117 84 = some (((cd_Mod_hook.lookup 84).getD ([], 0, []))) := rfl
theorem Mod_hook_84 (d : Nat) (h : Hp) : EX d 117 84 [] [] h = EX d 117 97 [] [.inl (-1)] h := (EX_at bk_Mod_hook_84 _ _ _).trans rfl
theorem bk_Mod_hook_88 : blk 117 88 = some (((cd_Mod_hook.lookup 88).getD ([], 0, []))) := rfl
theorem Mod_hook_88 (d : Nat) (a0 : Nat) (x1 : Int) (h : Hp) : EX d 117 88 [(0, .inr (.inr a0)), (1, .inl x1)] [] h = if sK h a0 = 11 then if okx h (hR h a0 1) 20 (11 + x1) then EX d 117 97 [] [.inl (hI h (hR h a0 1) (ix (11 + x1)))] h else none else none := (EX_at bk_Mod_hook_88 _ _ _).trans rfl
theorem bk_Mod_hook_97 : blk 117 97 = some (((cd_Mod_hook.lookup 97).getD ([], 0, []))) := rfl
theorem Mod_hook_97 (d : Nat) (s0 : Int) (h : Hp) : EX d 117 97 [] [.inl s0] h = some (.inl s0, h) := (EX_at bk_Mod_hook_97 _ _ _).trans rfl
theorem bk_Mod_hook_98 : blk 117 98 = some (((cd_Mod_hook.lookup 98).getD ([], 0, []))) := rfl
theorem Mod_hook_98 (d : Nat) (a0 : Nat) (x1 : Int) (h : Hp) : EX d 117 98 [(0, .inr (.inr a0)), (1, .inl x1)] [] h = if sK h a0 = 11 then bak (EX d 117) 103 [] [] false (cal d 112 [.inr (.inr a0), .inl x1] h) else none := (EX_at bk_Mod_hook_98 _ _ _).trans rfl
theorem bk_Mod_hook_103 : blk 117 103 = some (((cd_Mod_hook.lookup 103).getD ([], 0, []))) := rfl
theorem Mod_hook_103 (d : Nat) (s0 : Int) (h : Hp) : EX d 117 103 [] [.inl s0] h = some (.inl s0, h) := (EX_at bk_Mod_hook_103 _ _ _).trans rfl
theorem bk_Mod_hook_104 : blk 117 104 = some (((cd_Mod_hook.lookup 104).getD ([], 0, []))) := rfl
theorem Mod_hook_104 (d : Nat) (a0 : Nat) (x1 : Int) (h : Hp) : EX d 117 104 [(0, .inr (.inr a0)), (1, .inl x1)] [] h = if sK h a0 = 11 then bak (EX d 117) 109 [] [] false (cal d 116 [.inr (.inr a0), .inl x1] h) else none := (EX_at bk_Mod_hook_104 _ _ _).trans rfl
theorem bk_Mod_hook_109 : blk 117 109 = some (((cd_Mod_hook.lookup 109).getD ([], 0, []))) := rfl
theorem Mod_hook_109 (d : Nat) (s0 : Int) (h : Hp) : EX d 117 109 [] [.inl s0] h = if (wr s0) = 0 then EX d 117 116 [] [] h else EX d 117 112 [] [] h := (EX_at bk_Mod_hook_109 _ _ _).trans rfl
theorem bk_Mod_hook_112 : blk 117 112 = some (((cd_Mod_hook.lookup 112).getD ([], 0, []))) := rfl
theorem Mod_hook_112 (d : Nat) (h : Hp) : EX d 117 112 [] [] h = EX d 117 117 [] [.inl 1] h := (EX_at bk_Mod_hook_112 _ _ _).trans rfl
theorem bk_Mod_hook_116 : blk 117 116 = some (((cd_Mod_hook.lookup 116).getD ([], 0, []))) := rfl
theorem Mod_hook_116 (d : Nat) (h : Hp) : EX d 117 116 [] [] h = EX d 117 117 [] [.inl 0] h := (EX_at bk_Mod_hook_116 _ _ _).trans rfl
theorem bk_Mod_hook_117 : blk 117 117 = some (((cd_Mod_hook.lookup 117).getD ([], 0, []))) := rfl
theorem Mod_hook_117 (d : Nat) (s0 : Int) (h : Hp) : EX d 117 117 [] [.inl s0] h = some (.inl s0, h) := (EX_at bk_Mod_hook_117 _ _ _).trans rfl
theorem bk_Mod_hook_118 : blk 117 118 = some (((cd_Mod_hook.lookup 118).getD ([], 0, []))) := rfl
theorem Mod_hook_118 (d : Nat) (a0 : Nat) (x1 : Int) (h : Hp) : EX d 117 118 [(0, .inr (.inr a0)), (1, .inl x1)] [] h = some (.inl (-2), h) := (EX_at bk_Mod_hook_118 _ _ _).trans rfl
/-! isRing(J)Z of HookOverModel: method 119 -/
theorem bk_Mod_isRing_0 : blk 119 0 = some (((cd_Mod_isRing.lookup 0).getD ([], 0, []))) := rfl
theorem Mod_isRing_0 (d : Nat) (a0 : Nat) (y1 : Int) (h : Hp) : EX d 119 0 [(0, .inr (.inr a0)), (1, .inr (.inl y1))] [] h = if sK h a0 = 11 then if okx h (hR h a0 1) 20 2 then bak (EX d 119) 14 [] [] false (cal d 73 [.inr (.inl y1), .inr (.inl 0), .inr (.inl (wr ((hI h (hR h a0 1) 2) - 1)))] h) else none else none := (EX_at bk_Mod_isRing_0 _ _ _).trans rfl
theorem bk_Mod_isRing_14 : blk 119 14 = some (((cd_Mod_isRing.lookup 14).getD ([], 0, []))) := rfl
theorem Mod_isRing_14 (d : Nat) (s0 : Int) (h : Hp) : EX d 119 14 [] [.inl s0] h = if ((s0 : Int) = 0 ∨ (s0 : Int) = 1) then some (.inl s0, h) else none := (EX_at bk_Mod_isRing_14 _ _ _).trans rfl
/-! ring(II)I of HookOverModel: method 120 -/
theorem bk_Mod_ring_0 : blk 120 0 = some (((cd_Mod_ring.lookup 0).getD ([], 0, []))) := rfl
theorem Mod_ring_0 (d : Nat) (a0 : Nat) (x1 : Int) (x2 : Int) (h : Hp) : EX d 120 0 [(0, .inr (.inr a0)), (1, .inl x1), (2, .inl x2)] [] h = if sK h a0 = 11 then EX d 120 5 [(0, .inr (.inr a0)), (1, .inl x1), (2, .inl x2)] [] (pI h a0 0 0) else none := (EX_at bk_Mod_ring_0 _ _ _).trans rfl
theorem bk_Mod_ring_5 : blk 120 5 = some (((cd_Mod_ring.lookup 5).getD ([], 0, []))) := rfl
theorem Mod_ring_5 (d : Nat) (a0 : Nat) (x1 : Int) (x2 : Int) (h : Hp) : EX d 120 5 [(0, .inr (.inr a0)), (1, .inl x1), (2, .inl x2)] [] h = if sK h a0 = 11 then bak (EX d 120) 11 [(0, .inr (.inr a0)), (1, .inl x1), (2, .inl x2)] [] false (cal d 119 [.inr (.inr a0), .inr (.inl (wr x1))] h) else none := (EX_at bk_Mod_ring_5 _ _ _).trans rfl
theorem bk_Mod_ring_11 : blk 120 11 = some (((cd_Mod_ring.lookup 11).getD ([], 0, []))) := rfl
theorem Mod_ring_11 (d : Nat) (a0 : Nat) (x1 : Int) (x2 : Int) (s0 : Int) (h : Hp) : EX d 120 11 [(0, .inr (.inr a0)), (1, .inl x1), (2, .inl x2)] [.inl s0] h = if (wr s0) = 0 then EX d 120 14 [] [] h else EX d 120 17 [(0, .inr (.inr a0)), (1, .inl x1), (2, .inl x2)] [] h := (EX_at bk_Mod_ring_11 _ _ _).trans rfl
theorem bk_Mod_ring_14 : blk 120 14 = some (((cd_Mod_ring.lookup 14).getD ([], 0, []))) := rfl
theorem Mod_ring_14 (d : Nat) (h : Hp) : EX d 120 14 [] [] h = some (.inl (-2), h) := (EX_at bk_Mod_ring_14 _ _ _).trans rfl
theorem bk_Mod_ring_17 : blk 120 17 = some (((cd_Mod_ring.lookup 17).getD ([], 0, []))) := rfl
theorem Mod_ring_17 (d : Nat) (a0 : Nat) (x1 : Int) (x2 : Int) (h : Hp) : EX d 120 17 [(0, .inr (.inr a0)), (1, .inl x1), (2, .inl x2)] [] h = if (wr x2) = 0 then EX d 120 48 [(0, .inr (.inr a0)), (1, .inl x1)] [] h else if (wr x2) = 1 then EX d 120 57 [(0, .inr (.inr a0)), (1, .inl x1)] [] h else if (wr x2) = 2 then EX d 120 67 [(0, .inr (.inr a0)), (1, .inl x1)] [] h else if (wr x2) = 3 then EX d 120 93 [(0, .inr (.inr a0)), (1, .inl x1)] [] h else EX d 120 114 [(0, .inr (.inr a0)), (1, .inl x1)] [] h := (EX_at bk_Mod_ring_17 _ _ _).trans rfl
theorem bk_Mod_ring_48 : blk 120 48 = some (((cd_Mod_ring.lookup 48).getD ([], 0, []))) := rfl
theorem Mod_ring_48 (d : Nat) (a0 : Nat) (x1 : Int) (h : Hp) : EX d 120 48 [(0, .inr (.inr a0)), (1, .inl x1)] [] h = if sK h a0 = 11 then bak (EX d 120) 56 [] [] false (cal d 97 [.inr (.inr (hR h a0 1)), .inl x1] h) else none := (EX_at bk_Mod_ring_48 _ _ _).trans rfl
theorem bk_Mod_ring_56 : blk 120 56 = some (((cd_Mod_ring.lookup 56).getD ([], 0, []))) := rfl
theorem Mod_ring_56 (d : Nat) (s0 : Int) (h : Hp) : EX d 120 56 [] [.inl s0] h = some (.inl s0, h) := (EX_at bk_Mod_ring_56 _ _ _).trans rfl
theorem bk_Mod_ring_57 : blk 120 57 = some (((cd_Mod_ring.lookup 57).getD ([], 0, []))) := rfl
theorem Mod_ring_57 (d : Nat) (a0 : Nat) (x1 : Int) (h : Hp) : EX d 120 57 [(0, .inr (.inr a0)), (1, .inl x1)] [] h = if sK h a0 = 11 then if okx h (hR h a0 1) 20 (47 + x1) then some (.inl (hI h (hR h a0 1) (ix (47 + x1))), h) else none else none := (EX_at bk_Mod_ring_57 _ _ _).trans rfl
theorem bk_Mod_ring_67 : blk 120 67 = some (((cd_Mod_ring.lookup 67).getD ([], 0, []))) := rfl
theorem Mod_ring_67 (d : Nat) (a0 : Nat) (x1 : Int) (h : Hp) : EX d 120 67 [(0, .inr (.inr a0)), (1, .inl x1)] [] h = if sK h a0 = 11 then if okx h (hR h a0 1) 20 2 then if (wr x1) = (wr ((hI h (hR h a0 1) 2) - 1)) then EX d 120 79 [] [] h else EX d 120 83 [(0, .inr (.inr a0)), (1, .inl x1)] [] h else none else none := (EX_at bk_Mod_ring_67 _ _ _).trans rfl
theorem bk_Mod_ring_79 : blk 120 79 = some (((cd_Mod_ring.lookup 79).getD ([], 0, []))) := rfl
theorem Mod_ring_79 (d : Nat) (h : Hp) : EX d 120 79 [] [] h = EX d 120 92 [] [.inl (-1)] h := (EX_at bk_Mod_ring_79 _ _ _).trans rfl
theorem bk_Mod_ring_83 : blk 120 83 = some (((cd_Mod_ring.lookup 83).getD ([], 0, []))) := rfl
theorem Mod_ring_83 (d : Nat) (a0 : Nat) (x1 : Int) (h : Hp) : EX d 120 83 [(0, .inr (.inr a0)), (1, .inl x1)] [] h = if sK h a0 = 11 then if okx h (hR h a0 1) 20 (23 + x1) then EX d 120 92 [] [.inl (hI h (hR h a0 1) (ix (23 + x1)))] h else none else none := (EX_at bk_Mod_ring_83 _ _ _).trans rfl
theorem bk_Mod_ring_92 : blk 120 92 = some (((cd_Mod_ring.lookup 92).getD ([], 0, []))) := rfl
theorem Mod_ring_92 (d : Nat) (s0 : Int) (h : Hp) : EX d 120 92 [] [.inl s0] h = some (.inl s0, h) := (EX_at bk_Mod_ring_92 _ _ _).trans rfl
theorem bk_Mod_ring_93 : blk 120 93 = some (((cd_Mod_ring.lookup 93).getD ([], 0, []))) := rfl
theorem Mod_ring_93 (d : Nat) (a0 : Nat) (x1 : Int) (h : Hp) : EX d 120 93 [(0, .inr (.inr a0)), (1, .inl x1)] [] h = if sK h a0 = 11 then if okx h (hR h a0 1) 20 10 then bak (EX d 120) 105 [] [] false (cal d 98 [.inr (.inl (wr (hI h (hR h a0 1) 10))), .inl x1] h) else none else none := (EX_at bk_Mod_ring_93 _ _ _).trans rfl
theorem bk_Mod_ring_105 : blk 120 105 = some (((cd_Mod_ring.lookup 105).getD ([], 0, []))) := rfl
theorem Mod_ring_105 (d : Nat) (s0 : Int) (h : Hp) : EX d 120 105 [] [.inl s0] h = if (wr s0) = 0 then EX d 120 112 [] [] h else EX d 120 108 [] [] h := (EX_at bk_Mod_ring_105 _ _ _).trans rfl
theorem bk_Mod_ring_108 : blk 120 108 = some (((cd_Mod_ring.lookup 108).getD ([], 0, []))) := rfl
theorem Mod_ring_108 (d : Nat) (h : Hp) : EX d 120 108 [] [] h = EX d 120 113 [] [.inl 1] h := (EX_at bk_Mod_ring_108 _ _ _).trans rfl
theorem bk_Mod_ring_112 : blk 120 112 = some (((cd_Mod_ring.lookup 112).getD ([], 0, []))) := rfl
theorem Mod_ring_112 (d : Nat) (h : Hp) : EX d 120 112 [] [] h = EX d 120 113 [] [.inl 0] h := (EX_at bk_Mod_ring_112 _ _ _).trans rfl
theorem bk_Mod_ring_113 : blk 120 113 = some (((cd_Mod_ring.lookup 113).getD ([], 0, []))) := rfl
theorem Mod_ring_113 (d : Nat) (s0 : Int) (h : Hp) : EX d 120 113 [] [.inl s0] h = some (.inl s0, h) := (EX_at bk_Mod_ring_113 _ _ _).trans rfl
theorem bk_Mod_ring_114 : blk 120 114 = some (((cd_Mod_ring.lookup 114).getD ([], 0, []))) := rfl
theorem Mod_ring_114 (d : Nat) (a0 : Nat) (x1 : Int) (h : Hp) : EX d 120 114 [(0, .inr (.inr a0)), (1, .inl x1)] [] h = some (.inl (-2), h) := (EX_at bk_Mod_ring_114 _ _ _).trans rfl
/-! belongs(II)I of HookOverModel: method 122 -/
theorem bk_Mod_belongs_0 : blk 122 0 = some (((cd_Mod_belongs.lookup 0).getD ([], 0, []))) := rfl
theorem Mod_belongs_0 (d : Nat) (a0 : Nat) (x1 : Int) (x2 : Int) (h : Hp) : EX d 122 0 [(0, .inr (.inr a0)), (1, .inl x1), (2, .inl x2)] [] h = if sK h a0 = 11 then EX d 122 5 [(0, .inr (.inr a0)), (1, .inl x1), (2, .inl x2)] [] (pI h a0 0 0) else none := (EX_at bk_Mod_belongs_0 _ _ _).trans rfl
theorem bk_Mod_belongs_5 : blk 122 5 = some (((cd_Mod_belongs.lookup 5).getD ([], 0, []))) := rfl
theorem Mod_belongs_5 (d : Nat) (a0 : Nat) (x1 : Int) (x2 : Int) (h : Hp) : EX d 122 5 [(0, .inr (.inr a0)), (1, .inl x1), (2, .inl x2)] [] h = if sK h a0 = 11 then bak (EX d 122) 10 [(0, .inr (.inr a0)), (1, .inl x1), (2, .inl x2)] [] false (cal d 110 [.inr (.inr a0), .inl x1] h) else none := (EX_at bk_Mod_belongs_5 _ _ _).trans rfl
theorem bk_Mod_belongs_10 : blk 122 10 = some (((cd_Mod_belongs.lookup 10).getD ([], 0, []))) := rfl
theorem Mod_belongs_10 (d : Nat) (a0 : Nat) (x1 : Int) (x2 : Int) (s0 : Int) (h : Hp) : EX d 122 10 [(0, .inr (.inr a0)), (1, .inl x1), (2, .inl x2)] [.inl s0] h = if (wr s0) = 0 then EX d 122 22 [] [] h else EX d 122 13 [(0, .inr (.inr a0)), (1, .inl x1), (2, .inl x2)] [] h := (EX_at bk_Mod_belongs_10 _ _ _).trans rfl
theorem bk_Mod_belongs_13 : blk 122 13 = some (((cd_Mod_belongs.lookup 13).getD ([], 0, []))) := rfl
theorem Mod_belongs_13 (d : Nat) (a0 : Nat) (x1 : Int) (x2 : Int) (h : Hp) : EX d 122 13 [(0, .inr (.inr a0)), (1, .inl x1), (2, .inl x2)] [] h = if sK h a0 = 11 then bak (EX d 122) 19 [(0, .inr (.inr a0)), (1, .inl x1), (2, .inl x2)] [] false (cal d 119 [.inr (.inr a0), .inr (.inl (wr x2))] h) else none := (EX_at bk_Mod_belongs_13 _ _ _).trans rfl
theorem bk_Mod_belongs_19 : blk 122 19 = some (((cd_Mod_belongs.lookup 19).getD ([], 0, []))) := rfl
theorem Mod_belongs_19 (d : Nat) (a0 : Nat) (x1 : Int) (x2 : Int) (s0 : Int) (h : Hp) : EX d 122 19 [(0, .inr (.inr a0)), (1, .inl x1), (2, .inl x2)] [.inl s0] h = if (wr s0) = 0 then EX d 122 22 [] [] h else EX d 122 25 [(0, .inr (.inr a0)), (1, .inl x1), (2, .inl x2)] [] h := (EX_at bk_Mod_belongs_19 _ _ _).trans rfl
theorem bk_Mod_belongs_22 : blk 122 22 = some (((cd_Mod_belongs.lookup 22).getD ([], 0, []))) := rfl
theorem Mod_belongs_22 (d : Nat) (h : Hp) : EX d 122 22 [] [] h = some (.inl (-2), h) := (EX_at bk_Mod_belongs_22 _ _ _).trans rfl
theorem bk_Mod_belongs_25 : blk 122 25 = some (((cd_Mod_belongs.lookup 25).getD ([], 0, []))) := rfl
theorem Mod_belongs_25 (d : Nat) (a0 : Nat) (x1 : Int) (x2 : Int) (h : Hp) : EX d 122 25 [(0, .inr (.inr a0)), (1, .inl x1), (2, .inl x2)] [] h = if sK h a0 = 11 then bak (EX d 122) 31 [] [] false (cal d 115 [.inr (.inr a0), .inl x1, .inl x2] h) else none := (EX_at bk_Mod_belongs_25 _ _ _).trans rfl
theorem bk_Mod_belongs_31 : blk 122 31 = some (((cd_Mod_belongs.lookup 31).getD ([], 0, []))) := rfl
theorem Mod_belongs_31 (d : Nat) (s0 : Int) (h : Hp) : EX d 122 31 [] [.inl s0] h = if (wr s0) = 0 then EX d 122 38 [] [] h else EX d 122 34 [] [] h := (EX_at bk_Mod_belongs_31 _ _ _).trans rfl
theorem bk_Mod_belongs_34 : blk 122 34 = some (((cd_Mod_belongs.lookup 34).getD ([], 0, []))) := rfl
theorem Mod_belongs_34 (d : Nat) (h : Hp) : EX d 122 34 [] [] h = EX d 122 39 [] [.inl 1] h := (EX_at bk_Mod_belongs_34 _ _ _).trans rfl
theorem bk_Mod_belongs_38 : blk 122 38 = some (((cd_Mod_belongs.lookup 38).getD ([], 0, []))) := rfl
theorem Mod_belongs_38 (d : Nat) (h : Hp) : EX d 122 38 [] [] h = EX d 122 39 [] [.inl 0] h := (EX_at bk_Mod_belongs_38 _ _ _).trans rfl
theorem bk_Mod_belongs_39 : blk 122 39 = some (((cd_Mod_belongs.lookup 39).getD ([], 0, []))) := rfl
theorem Mod_belongs_39 (d : Nat) (s0 : Int) (h : Hp) : EX d 122 39 [] [.inl s0] h = some (.inl s0, h) := (EX_at bk_Mod_belongs_39 _ _ _).trans rfl
/-! joinedMany()I of HookOverModel: method 128 -/
theorem bk_Mod_joinedMany_0 : blk 128 0 = some (((cd_Mod_joinedMany.lookup 0).getD ([], 0, []))) := rfl
theorem Mod_joinedMany_0 (d : Nat) (a0 : Nat) (h : Hp) : EX d 128 0 [(0, .inr (.inr a0))] [] h = EX d 128 4 [(0, .inr (.inr a0)), (1, .inl 0), (2, .inl 0)] [] h := (EX_at bk_Mod_joinedMany_0 _ _ _).trans rfl
theorem bk_Mod_joinedMany_4 : blk 128 4 = some (((cd_Mod_joinedMany.lookup 4).getD ([], 0, []))) := rfl
theorem Mod_joinedMany_4 (d : Nat) (a0 : Nat) (x1 : Int) (x2 : Int) (h : Hp) : EX d 128 4 [(0, .inr (.inr a0)), (1, .inl x1), (2, .inl x2)] [] h = if sK h a0 = 11 then if okx h (hR h a0 1) 20 1 then if (wr x2) < (wr (hI h (hR h a0 1) 1)) then EX d 128 14 [(0, .inr (.inr a0)), (1, .inl x1), (2, .inl x2)] [] h else EX d 128 41 [(1, .inl x1)] [] h else none else none := (EX_at bk_Mod_joinedMany_4 _ _ _).trans rfl
theorem bk_Mod_joinedMany_14 : blk 128 14 = some (((cd_Mod_joinedMany.lookup 14).getD ([], 0, []))) := rfl
theorem Mod_joinedMany_14 (d : Nat) (a0 : Nat) (x1 : Int) (x2 : Int) (h : Hp) : EX d 128 14 [(0, .inr (.inr a0)), (1, .inl x1), (2, .inl x2)] [] h = if sK h a0 = 11 then if okx h (hR h a0 1) 20 (61 + x2) then if (wr (hI h (hR h a0 1) (ix (61 + x2)))) = (-1) then EX d 128 28 [(0, .inr (.inr a0)), (2, .inl x2)] [.inl x1] h else EX d 128 32 [(0, .inr (.inr a0)), (2, .inl x2)] [.inl x1] h else none else none := (EX_at bk_Mod_joinedMany_14 _ _ _).trans rfl
theorem bk_Mod_joinedMany_28 : blk 128 28 = some (((cd_Mod_joinedMany.lookup 28).getD ([], 0, []))) := rfl
theorem Mod_joinedMany_28 (d : Nat) (a0 : Nat) (x2 : Int) (s0 : Int) (h : Hp) : EX d 128 28 [(0, .inr (.inr a0)), (2, .inl x2)] [.inl s0] h = EX d 128 33 [(0, .inr (.inr a0)), (2, .inl x2)] [.inl 0, .inl s0] h := (EX_at bk_Mod_joinedMany_28 _ _ _).trans rfl
theorem bk_Mod_joinedMany_32 : blk 128 32 = some (((cd_Mod_joinedMany.lookup 32).getD ([], 0, []))) := rfl
theorem Mod_joinedMany_32 (d : Nat) (a0 : Nat) (x2 : Int) (s0 : Int) (h : Hp) : EX d 128 32 [(0, .inr (.inr a0)), (2, .inl x2)] [.inl s0] h = EX d 128 33 [(0, .inr (.inr a0)), (2, .inl x2)] [.inl 1, .inl s0] h := (EX_at bk_Mod_joinedMany_32 _ _ _).trans rfl
theorem bk_Mod_joinedMany_33 : blk 128 33 = some (((cd_Mod_joinedMany.lookup 33).getD ([], 0, []))) := rfl
theorem Mod_joinedMany_33 (d : Nat) (a0 : Nat) (x2 : Int) (s0 : Int) (s1 : Int) (h : Hp) : EX d 128 33 [(0, .inr (.inr a0)), (2, .inl x2)] [.inl s1, .inl s0] h = EX d 128 4 [(0, .inr (.inr a0)), (1, .inl (s0 + s1)), (2, .inl (x2 + 1))] [] h := (EX_at bk_Mod_joinedMany_33 _ _ _).trans rfl
theorem bk_Mod_joinedMany_41 : blk 128 41 = some (((cd_Mod_joinedMany.lookup 41).getD ([], 0, []))) := rfl
theorem Mod_joinedMany_41 (d : Nat) (x1 : Int) (h : Hp) : EX d 128 41 [(1, .inl x1)] [] h = some (.inl x1, h) := (EX_at bk_Mod_joinedMany_41 _ _ _).trans rfl
/-! sags(I)I of HookOverModel: method 129 -/
theorem bk_Mod_sags_0 : blk 129 0 = some (((cd_Mod_sags.lookup 0).getD ([], 0, []))) := rfl
theorem Mod_sags_0 (d : Nat) (a0 : Nat) (x1 : Int) (h : Hp) : EX d 129 0 [(0, .inr (.inr a0)), (1, .inl x1)] [] h = if sK h a0 = 11 then EX d 129 5 [(0, .inr (.inr a0)), (1, .inl x1)] [] (pI h a0 0 0) else none := (EX_at bk_Mod_sags_0 _ _ _).trans rfl
theorem bk_Mod_sags_5 : blk 129 5 = some (((cd_Mod_sags.lookup 5).getD ([], 0, []))) := rfl
theorem Mod_sags_5 (d : Nat) (a0 : Nat) (x1 : Int) (h : Hp) : EX d 129 5 [(0, .inr (.inr a0)), (1, .inl x1)] [] h = bak (EX d 129) 14 [(0, .inr (.inr a0)), (1, .inl x1)] [] false (cal d 73 [.inr (.inl (wr x1)), .inr (.inl 0), .inr (.inl 4)] h) := (EX_at bk_Mod_sags_5 _ _ _).trans rfl
theorem bk_Mod_sags_14 : blk 129 14 = some (((cd_Mod_sags.lookup 14).getD ([], 0, []))) := rfl
theorem Mod_sags_14 (d : Nat) (a0 : Nat) (x1 : Int) (s0 : Int) (h : Hp) : EX d 129 14 [(0, .inr (.inr a0)), (1, .inl x1)] [.inl s0] h = if (wr s0) = 0 then EX d 129 17 [] [] h else EX d 129 20 [(0, .inr (.inr a0)), (1, .inl x1)] [] h := (EX_at bk_Mod_sags_14 _ _ _).trans rfl
theorem bk_Mod_sags_17 : blk 129 17 = some (((cd_Mod_sags.lookup 17).getD ([], 0, []))) := rfl
theorem Mod_sags_17 (d : Nat) (h : Hp) : EX d 129 17 [] [] h = some (.inl (-2), h) := (EX_at bk_Mod_sags_17 _ _ _).trans rfl
theorem bk_Mod_sags_20 : blk 129 20 = some (((cd_Mod_sags.lookup 20).getD ([], 0, []))) := rfl
theorem Mod_sags_20 (d : Nat) (a0 : Nat) (x1 : Int) (h : Hp) : EX d 129 20 [(0, .inr (.inr a0)), (1, .inl x1)] [] h = if (wr x1) = 0 then EX d 129 24 [(0, .inr (.inr a0))] [] h else EX d 129 29 [(0, .inr (.inr a0)), (1, .inl x1)] [] h := (EX_at bk_Mod_sags_20 _ _ _).trans rfl
theorem bk_Mod_sags_24 : blk 129 24 = some (((cd_Mod_sags.lookup 24).getD ([], 0, []))) := rfl
theorem Mod_sags_24 (d : Nat) (a0 : Nat) (h : Hp) : EX d 129 24 [(0, .inr (.inr a0))] [] h = if sK h a0 = 11 then bak (EX d 129) 28 [] [] false (cal d 128 [.inr (.inr a0)] h) else none := (EX_at bk_Mod_sags_24 _ _ _).trans rfl
theorem bk_Mod_sags_28 : blk 129 28 = some (((cd_Mod_sags.lookup 28).getD ([], 0, []))) := rfl
theorem Mod_sags_28 (d : Nat) (s0 : Int) (h : Hp) : EX d 129 28 [] [.inl s0] h = some (.inl s0, h) := (EX_at bk_Mod_sags_28 _ _ _).trans rfl
theorem bk_Mod_sags_29 : blk 129 29 = some (((cd_Mod_sags.lookup 29).getD ([], 0, []))) := rfl
theorem Mod_sags_29 (d : Nat) (a0 : Nat) (x1 : Int) (h : Hp) : EX d 129 29 [(0, .inr (.inr a0)), (1, .inl x1)] [] h = EX d 129 33 [(0, .inr (.inr a0)), (1, .inl x1), (2, .inl 0), (3, .inl 0)] [] h := (EX_at bk_Mod_sags_29 _ _ _).trans rfl
theorem bk_Mod_sags_33 : blk 129 33 = some (((cd_Mod_sags.lookup 33).getD ([], 0, []))) := rfl
theorem Mod_sags_33 (d : Nat) (a0 : Nat) (x1 : Int) (x2 : Int) (x3 : Int) (h : Hp) : EX d 129 33 [(0, .inr (.inr a0)), (1, .inl x1), (2, .inl x2), (3, .inl x3)] [] h = if sK h a0 = 11 then if okx h (hR h a0 1) 20 1 then if (wr x3) < (wr (hI h (hR h a0 1) 1)) then EX d 129 43 [(0, .inr (.inr a0)), (1, .inl x1), (2, .inl x2), (3, .inl x3)] [] h else EX d 129 124 [(2, .inl x2)] [] h else none else none := (EX_at bk_Mod_sags_33 _ _ _).trans rfl
theorem bk_Mod_sags_43 : blk 129 43 = some (((cd_Mod_sags.lookup 43).getD ([], 0, []))) := rfl
theorem Mod_sags_43 (d : Nat) (a0 : Nat) (x1 : Int) (x2 : Int) (x3 : Int) (h : Hp) : EX d 129 43 [(0, .inr (.inr a0)), (1, .inl x1), (2, .inl x2), (3, .inl x3)] [] h = if sK h a0 = 11 then bak (EX d 129) 48 [(0, .inr (.inr a0)), (1, .inl x1), (2, .inl x2), (3, .inl x3)] [] false (cal d 112 [.inr (.inr a0), .inl x3] h) else none := (EX_at bk_Mod_sags_43 _ _ _).trans rfl
theorem bk_Mod_sags_48 : blk 129 48 = some (((cd_Mod_sags.lookup 48).getD ([], 0, []))) := rfl
theorem Mod_sags_48 (d : Nat) (a0 : Nat) (x1 : Int) (x2 : Int) (x3 : Int) (s0 : Int) (h : Hp) : EX d 129 48 [(0, .inr (.inr a0)), (1, .inl x1), (2, .inl x2), (3, .inl x3)] [.inl s0] h = if (wr x1) = 1 then EX d 129 55 [(0, .inr (.inr a0)), (1, .inl x1), (2, .inl x2), (3, .inl x3)] [] h else EX d 129 74 [(0, .inr (.inr a0)), (1, .inl x1), (2, .inl x2), (3, .inl x3), (4, .inl s0)] [] h := (EX_at bk_Mod_sags_48 _ _ _).trans rfl
theorem bk_Mod_sags_55 : blk 129 55 = some (((cd_Mod_sags.lookup 55).getD ([], 0, []))) := rfl
theorem Mod_sags_55 (d : Nat) (a0 : Nat) (x1 : Int) (x2 : Int) (x3 : Int) (h : Hp) : EX d 129 55 [(0, .inr (.inr a0)), (1, .inl x1), (2, .inl x2), (3, .inl x3)] [] h = if sK h a0 = 11 then bak (EX d 129) 61 [(0, .inr (.inr a0)), (1, .inl x1), (3, .inl x3)] [.inl x2] false (cal d 116 [.inr (.inr a0), .inl x3] h) else none := (EX_at bk_Mod_sags_55 _ _ _).trans rfl
theorem bk_Mod_sags_61 : blk 129 61 = some (((cd_Mod_sags.lookup 61).getD ([], 0, []))) := rfl
theorem Mod_sags_61 (d : Nat) (a0 : Nat) (x1 : Int) (x3 : Int) (s0 : Int) (s1 : Int) (h : Hp) : EX d 129 61 [(0, .inr (.inr a0)), (1, .inl x1), (3, .inl x3)] [.inl s1, .inl s0] h = if (wr s1) = 0 then EX d 129 68 [(0, .inr (.inr a0)), (1, .inl x1), (3, .inl x3)] [.inl s0] h else EX d 129 64 [(0, .inr (.inr a0)), (1, .inl x1), (3, .inl x3)] [.inl s0] h := (EX_at bk_Mod_sags_61 _ _ _).trans rfl
theorem bk_Mod_sags_64 : blk 129 64 = some (((cd_Mod_sags.lookup 64).getD ([], 0, []))) := rfl
theorem Mod_sags_64 (d : Nat) (a0 : Nat) (x1 : Int) (x3 : Int) (s0 : Int) (h : Hp) : EX d 129 64 [(0, .inr (.inr a0)), (1, .inl x1), (3, .inl x3)] [.inl s0] h = EX d 129 69 [(0, .inr (.inr a0)), (1, .inl x1), (3, .inl x3)] [.inl 1, .inl s0] h := (EX_at bk_Mod_sags_64 _ _ _).trans rfl
theorem bk_Mod_sags_68 : blk 129 68 = some (((cd_Mod_sags.lookup 68).getD ([], 0, []))) := rfl
theorem Mod_sags_68 (d : Nat) (a0 : Nat) (x1 : Int) (x3 : Int) (s0 : Int) (h : Hp) : EX d 129 68 [(0, .inr (.inr a0)), (1, .inl x1), (3, .inl x3)] [.inl s0] h = EX d 129 69 [(0, .inr (.inr a0)), (1, .inl x1), (3, .inl x3)] [.inl 0, .inl s0] h := (EX_at bk_Mod_sags_68 _ _ _).trans rfl
theorem bk_Mod_sags_69 : blk 129 69 = some (((cd_Mod_sags.lookup 69).getD ([], 0, []))) := rfl
theorem Mod_sags_69 (d : Nat) (a0 : Nat) (x1 : Int) (x3 : Int) (s0 : Int) (s1 : Int) (h : Hp) : EX d 129 69 [(0, .inr (.inr a0)), (1, .inl x1), (3, .inl x3)] [.inl s1, .inl s0] h = EX d 129 118 [(0, .inr (.inr a0)), (1, .inl x1), (2, .inl (s0 + s1)), (3, .inl x3)] [] h := (EX_at bk_Mod_sags_69 _ _ _).trans rfl
theorem bk_Mod_sags_74 : blk 129 74 = some (((cd_Mod_sags.lookup 74).getD ([], 0, []))) := rfl
theorem Mod_sags_74 (d : Nat) (a0 : Nat) (x1 : Int) (x2 : Int) (x3 : Int) (x4 : Int) (h : Hp) : EX d 129 74 [(0, .inr (.inr a0)), (1, .inl x1), (2, .inl x2), (3, .inl x3), (4, .inl x4)] [] h = if (wr x4) = (-1) then EX d 129 118 [(0, .inr (.inr a0)), (1, .inl x1), (2, .inl x2), (3, .inl x3)] [] h else EX d 129 80 [(0, .inr (.inr a0)), (1, .inl x1), (2, .inl x2), (3, .inl x3), (4, .inl x4)] [] h := (EX_at bk_Mod_sags_74 _ _ _).trans rfl
theorem bk_Mod_sags_80 : blk 129 80 = some (((cd_Mod_sags.lookup 80).getD ([], 0, []))) := rfl
theorem Mod_sags_80 (d : Nat) (a0 : Nat) (x1 : Int) (x2 : Int) (x3 : Int) (x4 : Int) (h : Hp) : EX d 129 80 [(0, .inr (.inr a0)), (1, .inl x1), (2, .inl x2), (3, .inl x3), (4, .inl x4)] [] h = if (wr x1) = 2 then EX d 129 85 [(0, .inr (.inr a0)), (1, .inl x1), (2, .inl x2), (3, .inl x3), (4, .inl x4)] [] h else EX d 129 100 [(0, .inr (.inr a0)), (1, .inl x1), (2, .inl x2), (3, .inl x3), (4, .inl x4)] [] h := (EX_at bk_Mod_sags_80 _ _ _).trans rfl
theorem bk_Mod_sags_85 : blk 129 85 = some (((cd_Mod_sags.lookup 85).getD ([], 0, []))) := rfl
theorem Mod_sags_85 (d : Nat) (a0 : Nat) (x1 : Int) (x2 : Int) (x3 : Int) (x4 : Int) (h : Hp) : EX d 129 85 [(0, .inr (.inr a0)), (1, .inl x1), (2, .inl x2), (3, .inl x3), (4, .inl x4)] [] h = if (wr x2) < (wr x4) then EX d 129 91 [(0, .inr (.inr a0)), (1, .inl x1), (3, .inl x3), (4, .inl x4)] [] h else EX d 129 96 [(0, .inr (.inr a0)), (1, .inl x1), (2, .inl x2), (3, .inl x3)] [] h := (EX_at bk_Mod_sags_85 _ _ _).trans rfl
theorem bk_Mod_sags_91 : blk 129 91 = some (((cd_Mod_sags.lookup 91).getD ([], 0, []))) := rfl
theorem Mod_sags_91 (d : Nat) (a0 : Nat) (x1 : Int) (x3 : Int) (x4 : Int) (h : Hp) : EX d 129 91 [(0, .inr (.inr a0)), (1, .inl x1), (3, .inl x3), (4, .inl x4)] [] h = EX d 129 117 [(0, .inr (.inr a0)), (1, .inl x1), (3, .inl x3)] [.inl x4] h := (EX_at bk_Mod_sags_91 _ _ _).trans rfl
theorem bk_Mod_sags_96 : blk 129 96 = some (((cd_Mod_sags.lookup 96).getD ([], 0, []))) := rfl
theorem Mod_sags_96 (d : Nat) (a0 : Nat) (x1 : Int) (x2 : Int) (x3 : Int) (h : Hp) : EX d 129 96 [(0, .inr (.inr a0)), (1, .inl x1), (2, .inl x2), (3, .inl x3)] [] h = EX d 129 117 [(0, .inr (.inr a0)), (1, .inl x1), (3, .inl x3)] [.inl x2] h := (EX_at bk_Mod_sags_96 _ _ _).trans rfl
theorem bk_Mod_sags_100 : blk 129 100 = some (((cd_Mod_sags.lookup 100).getD ([], 0, []))) := rfl
theorem Mod_sags_100 (d : Nat) (a0 : Nat) (x1 : Int) (x2 : Int) (x3 : Int) (x4 : Int) (h : Hp) : EX d 129 100 [(0, .inr (.inr a0)), (1, .inl x1), (2, .inl x2), (3, .inl x3), (4, .inl x4)] [] h = if (wr x1) = 3 then EX d 129 106 [(0, .inr (.inr a0)), (1, .inl x1), (3, .inl x3), (4, .inl x4)] [.inl x2] h else EX d 129 111 [(0, .inr (.inr a0)), (1, .inl x1), (3, .inl x3), (4, .inl x4)] [.inl x2] h := (EX_at bk_Mod_sags_100 _ _ _).trans rfl
theorem bk_Mod_sags_106 : blk 129 106 = some (((cd_Mod_sags.lookup 106).getD ([], 0, []))) := rfl
theorem Mod_sags_106 (d : Nat) (a0 : Nat) (x1 : Int) (x3 : Int) (x4 : Int) (s0 : Int) (h : Hp) : EX d 129 106 [(0, .inr (.inr a0)), (1, .inl x1), (3, .inl x3), (4, .inl x4)] [.inl s0] h = EX d 129 116 [(0, .inr (.inr a0)), (1, .inl x1), (3, .inl x3)] [.inl x4, .inl s0] h := (EX_at bk_Mod_sags_106 _ _ _).trans rfl
theorem bk_Mod_sags_111 : blk 129 111 = some (((cd_Mod_sags.lookup 111).getD ([], 0, []))) := rfl
theorem Mod_sags_111 (d : Nat) (a0 : Nat) (x1 : Int) (x3 : Int) (x4 : Int) (s0 : Int) (h : Hp) : EX d 129 111 [(0, .inr (.inr a0)), (1, .inl x1), (3, .inl x3), (4, .inl x4)] [.inl s0] h = EX d 129 116 [(0, .inr (.inr a0)), (1, .inl x1), (3, .inl x3)] [.inl (x4 * x4), .inl s0] h := (EX_at bk_Mod_sags_111 _ _ _).trans rfl
theorem bk_Mod_sags_116 : blk 129 116 = some (((cd_Mod_sags.lookup 116).getD ([], 0, []))) := rfl
theorem Mod_sags_116 (d : Nat) (a0 : Nat) (x1 : Int) (x3 : Int) (s0 : Int) (s1 : Int) (h : Hp) : EX d 129 116 [(0, .inr (.inr a0)), (1, .inl x1), (3, .inl x3)] [.inl s1, .inl s0] h = EX d 129 117 [(0, .inr (.inr a0)), (1, .inl x1), (3, .inl x3)] [.inl (s0 + s1)] h := (EX_at bk_Mod_sags_116 _ _ _).trans rfl
theorem bk_Mod_sags_117 : blk 129 117 = some (((cd_Mod_sags.lookup 117).getD ([], 0, []))) := rfl
theorem Mod_sags_117 (d : Nat) (a0 : Nat) (x1 : Int) (x3 : Int) (s0 : Int) (h : Hp) : EX d 129 117 [(0, .inr (.inr a0)), (1, .inl x1), (3, .inl x3)] [.inl s0] h = EX d 129 118 [(0, .inr (.inr a0)), (1, .inl x1), (2, .inl s0), (3, .inl x3)] [] h := (EX_at bk_Mod_sags_117 _ _ _).trans rfl
theorem bk_Mod_sags_118 : blk 129 118 = some (((cd_Mod_sags.lookup 118).getD ([], 0, []))) := rfl
theorem Mod_sags_118 (d : Nat) (a0 : Nat) (x1 : Int) (x2 : Int) (x3 : Int) (h : Hp) : EX d 129 118 [(0, .inr (.inr a0)), (1, .inl x1), (2, .inl x2), (3, .inl x3)] [] h = EX d 129 33 [(0, .inr (.inr a0)), (1, .inl x1), (2, .inl x2), (3, .inl (x3 + 1))] [] h := (EX_at bk_Mod_sags_118 _ _ _).trans rfl
theorem bk_Mod_sags_124 : blk 129 124 = some (((cd_Mod_sags.lookup 124).getD ([], 0, []))) := rfl
theorem Mod_sags_124 (d : Nat) (x2 : Int) (h : Hp) : EX d 129 124 [(2, .inl x2)] [] h = some (.inl x2, h) := (EX_at bk_Mod_sags_124 _ _ _).trans rfl
/-! why(II)I of HookOverModel: method 131 -/
theorem bk_Mod_why_0 : blk 131 0 = some (((cd_Mod_why.lookup 0).getD ([], 0, []))) := rfl
theorem Mod_why_0 (d : Nat) (a0 : Nat) (x1 : Int) (x2 : Int) (h : Hp) : EX d 131 0 [(0, .inr (.inr a0)), (1, .inl x1), (2, .inl x2)] [] h = if sK h a0 = 11 then EX d 131 5 [(0, .inr (.inr a0)), (1, .inl x1), (2, .inl x2)] [] (pI h a0 0 0) else none := (EX_at bk_Mod_why_0 _ _ _).trans rfl
theorem bk_Mod_why_5 : blk 131 5 = some (((cd_Mod_why.lookup 5).getD ([], 0, []))) := rfl
theorem Mod_why_5 (d : Nat) (a0 : Nat) (x1 : Int) (x2 : Int) (h : Hp) : EX d 131 5 [(0, .inr (.inr a0)), (1, .inl x1), (2, .inl x2)] [] h = if sK h a0 = 11 then bak (EX d 131) 14 [] [] false (cal d 100 [.inr (.inr (hR h a0 1)), .inl x1, .inl x2] h) else none := (EX_at bk_Mod_why_5 _ _ _).trans rfl
theorem bk_Mod_why_14 : blk 131 14 = some (((cd_Mod_why.lookup 14).getD ([], 0, []))) := rfl
theorem Mod_why_14 (d : Nat) (s0 : Int) (h : Hp) : EX d 131 14 [] [.inl s0] h = some (.inl s0, h) := (EX_at bk_Mod_why_14 _ _ _).trans rfl
/-! keeps()V of HookOverModel: method 139 -/
theorem bk_Mod_keeps_0 : blk 139 0 = some (((cd_Mod_keeps.lookup 0).getD ([], 0, []))) := rfl
theorem Mod_keeps_0 (d : Nat) (a0 : Nat) (h : Hp) : EX d 139 0 [(0, .inr (.inr a0))] [] h = EX d 139 2 [(0, .inr (.inr a0)), (1, .inl 0)] [] h := (EX_at bk_Mod_keeps_0 _ _ _).trans rfl
theorem bk_Mod_keeps_2 : blk 139 2 = some (((cd_Mod_keeps.lookup 2).getD ([], 0, []))) := rfl
theorem Mod_keeps_2 (d : Nat) (a0 : Nat) (x1 : Int) (h : Hp) : EX d 139 2 [(0, .inr (.inr a0)), (1, .inl x1)] [] h = if (wr x1) < 14 then EX d 139 8 [(0, .inr (.inr a0)), (1, .inl x1)] [] h else EX d 139 29 [] [] h := (EX_at bk_Mod_keeps_2 _ _ _).trans rfl
theorem bk_Mod_keeps_8 : blk 139 8 = some (((cd_Mod_keeps.lookup 8).getD ([], 0, []))) := rfl
theorem Mod_keeps_8 (d : Nat) (a0 : Nat) (x1 : Int) (h : Hp) : EX d 139 8 [(0, .inr (.inr a0)), (1, .inl x1)] [] h = if sK h a0 = 11 then if sK h a0 = 11 then if okx h (hR h a0 1) 20 (59 + x1) then if okx h (hR h a0 16) 20 x1 then EX d 139 23 [(0, .inr (.inr a0)), (1, .inl x1)] [] (pI h (hR h a0 16) (ix x1) (hI h (hR h a0 1) (ix (59 + x1)))) else none else none else none else none := (EX_at bk_Mod_keeps_8 _ _ _).trans rfl
theorem bk_Mod_keeps_23 : blk 139 23 = some (((cd_Mod_keeps.lookup 23).getD ([], 0, []))) := rfl
theorem Mod_keeps_23 (d : Nat) (a0 : Nat) (x1 : Int) (h : Hp) : EX d 139 23 [(0, .inr (.inr a0)), (1, .inl x1)] [] h = EX d 139 2 [(0, .inr (.inr a0)), (1, .inl (x1 + 1))] [] h := (EX_at bk_Mod_keeps_23 _ _ _).trans rfl
theorem bk_Mod_keeps_29 : blk 139 29 = some (((cd_Mod_keeps.lookup 29).getD ([], 0, []))) := rfl
theorem Mod_keeps_29 (d : Nat) (h : Hp) : EX d 139 29 [] [] h = some (.inl 0, h) := (EX_at bk_Mod_keeps_29 _ _ _).trans rfl
/-! standsFor(II)I of HookOverModel: method 140 -/
theorem bk_Mod_standsFor_0 : blk 140 0 = some (((cd_Mod_standsFor.lookup 0).getD ([], 0, []))) := rfl
theorem Mod_standsFor_0 (d : Nat) (a0 : Nat) (x1 : Int) (x2 : Int) (h : Hp) : EX d 140 0 [(0, .inr (.inr a0)), (1, .inl x1), (2, .inl x2)] [] h = if sK h a0 = 11 then if okx h (hR h a0 1) 20 3 then if (wr (x1 + (hI h (hR h a0 1) 3))) < (wr x2) then EX d 140 12 [(0, .inr (.inr a0)), (2, .inl x2)] [] h else EX d 140 21 [(0, .inr (.inr a0)), (1, .inl x1), (2, .inl x2)] [] h else none else none := (EX_at bk_Mod_standsFor_0 _ _ _).trans rfl
theorem bk_Mod_standsFor_12 : blk 140 12 = some (((cd_Mod_standsFor.lookup 12).getD ([], 0, []))) := rfl
theorem Mod_standsFor_12 (d : Nat) (a0 : Nat) (x2 : Int) (h : Hp) : EX d 140 12 [(0, .inr (.inr a0)), (2, .inl x2)] [] h = if sK h a0 = 11 then if okx h (hR h a0 1) 20 3 then some (.inl (x2 - (hI h (hR h a0 1) 3)), h) else none else none := (EX_at bk_Mod_standsFor_12 _ _ _).trans rfl
theorem bk_Mod_standsFor_21 : blk 140 21 = some (((cd_Mod_standsFor.lookup 21).getD ([], 0, []))) := rfl
theorem Mod_standsFor_21 (d : Nat) (a0 : Nat) (x1 : Int) (x2 : Int) (h : Hp) : EX d 140 21 [(0, .inr (.inr a0)), (1, .inl x1), (2, .inl x2)] [] h = if sK h a0 = 11 then if okx h (hR h a0 1) 20 3 then if (wr x2) < (wr (x1 - (hI h (hR h a0 1) 3))) then EX d 140 33 [(0, .inr (.inr a0)), (2, .inl x2)] [] h else EX d 140 44 [(1, .inl x1)] [] h else none else none := (EX_at bk_Mod_standsFor_21 _ _ _).trans rfl
theorem bk_Mod_standsFor_33 : blk 140 33 = some (((cd_Mod_standsFor.lookup 33).getD ([], 0, []))) := rfl
theorem Mod_standsFor_33 (d : Nat) (a0 : Nat) (x2 : Int) (h : Hp) : EX d 140 33 [(0, .inr (.inr a0)), (2, .inl x2)] [] h = if sK h a0 = 11 then if okx h (hR h a0 1) 20 3 then EX d 140 45 [] [.inl (x2 + (hI h (hR h a0 1) 3))] h else none else none := (EX_at bk_Mod_standsFor_33 _ _ _).trans rfl
theorem bk_Mod_standsFor_44 : blk 140 44 = some (((cd_Mod_standsFor.lookup 44).getD ([], 0, []))) := rfl
theorem Mod_standsFor_44 (d : Nat) (x1 : Int) (h : Hp) : EX d 140 44 [(1, .inl x1)] [] h = EX d 140 45 [] [.inl x1] h := (EX_at bk_Mod_standsFor_44 _ _ _).trans rfl
theorem bk_Mod_standsFor_45 : blk 140 45 = some (((cd_Mod_standsFor.lookup 45).getD ([], 0, []))) := rfl
theorem Mod_standsFor_45 (d : Nat) (s0 : Int) (h : Hp) : EX d 140 45 [] [.inl s0] h = some (.inl s0, h) := (EX_at bk_Mod_standsFor_45 _ _ _).trans rfl
/-! works(II)I of HookOverModel: method 141 -/
theorem bk_Mod_works_0 : blk 141 0 = some (((cd_Mod_works.lookup 0).getD ([], 0, []))) := rfl
theorem Mod_works_0 (d : Nat) (a0 : Nat) (x1 : Int) (x2 : Int) (h : Hp) : EX d 141 0 [(0, .inr (.inr a0)), (1, .inl x1), (2, .inl x2)] [] h = if sK h a0 = 11 then bak (EX d 141) 6 [(0, .inr (.inr a0)), (1, .inl x1)] [] false (cal d 140 [.inr (.inr a0), .inl x1, .inl x2] h) else none := (EX_at bk_Mod_works_0 _ _ _).trans rfl
theorem bk_Mod_works_6 : blk 141 6 = some (((cd_Mod_works.lookup 6).getD ([], 0, []))) := rfl
theorem Mod_works_6 (d : Nat) (a0 : Nat) (x1 : Int) (s0 : Int) (h : Hp) : EX d 141 6 [(0, .inr (.inr a0)), (1, .inl x1)] [.inl s0] h = if (wr x1) < (wr s0) then EX d 141 12 [(0, .inr (.inr a0)), (1, .inl x1), (3, .inl s0)] [] h else EX d 141 18 [(0, .inr (.inr a0)), (1, .inl x1), (3, .inl s0)] [] h := (EX_at bk_Mod_works_6 _ _ _).trans rfl
theorem bk_Mod_works_12 : blk 141 12 = some (((cd_Mod_works.lookup 12).getD ([], 0, []))) := rfl
theorem Mod_works_12 (d : Nat) (a0 : Nat) (x1 : Int) (x3 : Int) (h : Hp) : EX d 141 12 [(0, .inr (.inr a0)), (1, .inl x1), (3, .inl x3)] [] h = EX d 141 21 [(0, .inr (.inr a0))] [.inl (x3 - x1)] h := (EX_at bk_Mod_works_12 _ _ _).trans rfl
theorem bk_Mod_works_18 : blk 141 18 = some (((cd_Mod_works.lookup 18).getD ([], 0, []))) := rfl
theorem Mod_works_18 (d : Nat) (a0 : Nat) (x1 : Int) (x3 : Int) (h : Hp) : EX d 141 18 [(0, .inr (.inr a0)), (1, .inl x1), (3, .inl x3)] [] h = EX d 141 21 [(0, .inr (.inr a0))] [.inl (x1 - x3)] h := (EX_at bk_Mod_works_18 _ _ _).trans rfl
theorem bk_Mod_works_21 : blk 141 21 = some (((cd_Mod_works.lookup 21).getD ([], 0, []))) := rfl
theorem Mod_works_21 (d : Nat) (a0 : Nat) (s0 : Int) (h : Hp) : EX d 141 21 [(0, .inr (.inr a0))] [.inl s0] h = if 0 < (wr s0) then EX d 141 28 [(0, .inr (.inr a0)), (4, .inl s0)] [] h else EX d 141 40 [(0, .inr (.inr a0))] [] h := (EX_at bk_Mod_works_21 _ _ _).trans rfl
theorem bk_Mod_works_28 : blk 141 28 = some (((cd_Mod_works.lookup 28).getD ([], 0, []))) := rfl
theorem Mod_works_28 (d : Nat) (a0 : Nat) (x4 : Int) (h : Hp) : EX d 141 28 [(0, .inr (.inr a0)), (4, .inl x4)] [] h = if sK h a0 = 11 then if okx h (hR h a0 1) 20 4 then EX d 141 41 [(0, .inr (.inr a0))] [.inl ((hI h (hR h a0 1) 4) + x4)] h else none else none := (EX_at bk_Mod_works_28 _ _ _).trans rfl
theorem bk_Mod_works_40 : blk 141 40 = some (((cd_Mod_works.lookup 40).getD ([], 0, []))) := rfl
theorem Mod_works_40 (d : Nat) (a0 : Nat) (h : Hp) : EX d 141 40 [(0, .inr (.inr a0))] [] h = EX d 141 41 [(0, .inr (.inr a0))] [.inl 0] h := (EX_at bk_Mod_works_40 _ _ _).trans rfl
theorem bk_Mod_works_41 : blk 141 41 = some (((cd_Mod_works.lookup 41).getD ([], 0, []))) := rfl
theorem Mod_works_41 (d : Nat) (a0 : Nat) (s0 : Int) (h : Hp) : EX d 141 41 [(0, .inr (.inr a0))] [.inl s0] h = if sK h a0 = 11 then if okx h (hR h a0 1) 20 5 then some (.inl (s0 + (hI h (hR h a0 1) 5)), h) else none else none := (EX_at bk_Mod_works_41 _ _ _).trans rfl
/-! goesTo(I)V of HookOverModel: method 142 -/
theorem bk_Mod_goesTo_0 : blk 142 0 = some (((cd_Mod_goesTo.lookup 0).getD ([], 0, []))) := rfl
theorem Mod_goesTo_0 (d : Nat) (a0 : Nat) (x1 : Int) (h : Hp) : EX d 142 0 [(0, .inr (.inr a0)), (1, .inl x1)] [] h = if sK h a0 = 11 then if okx h (hR h a0 1) 20 60 then if sK h a0 = 11 then if okx h (hR h a0 1) 20 59 then if sK h a0 = 11 then bak (EX d 142) 20 [(0, .inr (.inr a0)), (1, .inl x1)] [.inl (hI h (hR h a0 1) 60), .inl 60, .inr (.inr (hR h a0 1))] false (cal d 141 [.inr (.inr a0), .inl (hI h (hR h a0 1) 59), .inl x1] h) else none else none else none else none else none := (EX_at bk_Mod_goesTo_0 _ _ _).trans rfl
theorem bk_Mod_goesTo_20 : blk 142 20 = some (((cd_Mod_goesTo.lookup 20).getD ([], 0, []))) := rfl
theorem Mod_goesTo_20 (d : Nat) (a0 : Nat) (x1 : Int) (r0 : Nat) (s1 : Int) (s2 : Int) (s3 : Int) (h : Hp) : EX d 142 20 [(0, .inr (.inr a0)), (1, .inl x1)] [.inl s3, .inl s2, .inl s1, .inr (.inr r0)] h = if okx h r0 20 s1 then EX d 142 22 [(0, .inr (.inr a0)), (1, .inl x1)] [] (pI h r0 (ix s1) (s2 + s3)) else none := (EX_at bk_Mod_goesTo_20 _ _ _).trans rfl
theorem bk_Mod_goesTo_22 : blk 142 22 = some (((cd_Mod_goesTo.lookup 22).getD ([], 0, []))) := rfl
theorem Mod_goesTo_22 (d : Nat) (a0 : Nat) (x1 : Int) (h : Hp) : EX d 142 22 [(0, .inr (.inr a0)), (1, .inl x1)] [] h = if sK h a0 = 11 then if sK h a0 = 11 then if okx h (hR h a0 1) 20 59 then if sK h a0 = 11 then bak (EX d 142) 40 [] [.inl 59, .inr (.inr (hR h a0 1))] false (cal d 140 [.inr (.inr a0), .inl (hI h (hR h a0 1) 59), .inl x1] h) else none else none else none else none := (EX_at bk_Mod_goesTo_22 _ _ _).trans rfl
theorem bk_Mod_goesTo_40 : blk 142 40 = some (((cd_Mod_goesTo.lookup 40).getD ([], 0, []))) := rfl
theorem Mod_goesTo_40 (d : Nat) (r0 : Nat) (s1 : Int) (s2 : Int) (h : Hp) : EX d 142 40 [] [.inl s2, .inl s1, .inr (.inr r0)] h = if okx h r0 20 s1 then EX d 142 41 [] [] (pI h r0 (ix s1) s2) else none := (EX_at bk_Mod_goesTo_40 _ _ _).trans rfl
theorem bk_Mod_goesTo_41 : blk 142 41 = some (((cd_Mod_goesTo.lookup 41).getD ([], 0, []))) := rfl
theorem Mod_goesTo_41 (d : Nat) (h : Hp) : EX d 142 41 [] [] h = some (.inl 0, h) := (EX_at bk_Mod_goesTo_41 _ _ _).trans rfl
/-! joins(II)V of HookOverModel: method 143 -/
theorem bk_Mod_joins_0 : blk 143 0 = some (((cd_Mod_joins.lookup 0).getD ([], 0, []))) := rfl
theorem Mod_joins_0 (d : Nat) (a0 : Nat) (x1 : Int) (x2 : Int) (h : Hp) : EX d 143 0 [(0, .inr (.inr a0)), (1, .inl x1), (2, .inl x2)] [] h = if sK h a0 = 11 then bak (EX d 143) 5 [(0, .inr (.inr a0)), (1, .inl x1), (2, .inl x2)] [] true (cal d 142 [.inr (.inr a0), .inl x2] h) else none := (EX_at bk_Mod_joins_0 _ _ _).trans rfl
theorem bk_Mod_joins_5 : blk 143 5 = some (((cd_Mod_joins.lookup 5).getD ([], 0, []))) := rfl
theorem Mod_joins_5 (d : Nat) (a0 : Nat) (x1 : Int) (x2 : Int) (h : Hp) : EX d 143 5 [(0, .inr (.inr a0)), (1, .inl x1), (2, .inl x2)] [] h = if sK h a0 = 11 then if okx h (hR h a0 1) 20 (61 + x1) then EX d 143 15 [] [] (pI h (hR h a0 1) (ix (61 + x1)) x2) else none else none := (EX_at bk_Mod_joins_5 _ _ _).trans rfl
theorem bk_Mod_joins_15 : blk 143 15 = some (((cd_Mod_joins.lookup 15).getD ([], 0, []))) := rfl
theorem Mod_joins_15 (d : Nat) (h : Hp) : EX d 143 15 [] [] h = some (.inl 0, h) := (EX_at bk_Mod_joins_15 _ _ _).trans rfl
/-! notes()V of HookOverModel: method 144 -/
theorem bk_Mod_notes_0 : blk 144 0 = some (((cd_Mod_notes.lookup 0).getD ([], 0, []))) := rfl
theorem Mod_notes_0 (d : Nat) (a0 : Nat) (h : Hp) : EX d 144 0 [(0, .inr (.inr a0))] [] h = if sK h a0 = 11 then if okx h (hR h a0 1) 20 73 then if (wr (hI h (hR h a0 1) 73)) = 10 then EX d 144 12 [(0, .inr (.inr a0))] [] h else EX d 144 55 [(0, .inr (.inr a0))] [] h else none else none := (EX_at bk_Mod_notes_0 _ _ _).trans rfl
theorem bk_Mod_notes_12 : blk 144 12 = some (((cd_Mod_notes.lookup 12).getD ([], 0, []))) := rfl
theorem Mod_notes_12 (d : Nat) (a0 : Nat) (h : Hp) : EX d 144 12 [(0, .inr (.inr a0))] [] h = EX d 144 14 [(0, .inr (.inr a0)), (1, .inl 0)] [] h := (EX_at bk_Mod_notes_12 _ _ _).trans rfl
theorem bk_Mod_notes_14 : blk 144 14 = some (((cd_Mod_notes.lookup 14).getD ([], 0, []))) := rfl
theorem Mod_notes_14 (d : Nat) (a0 : Nat) (x1 : Int) (h : Hp) : EX d 144 14 [(0, .inr (.inr a0)), (1, .inl x1)] [] h = if (wr x1) < 126 then EX d 144 20 [(0, .inr (.inr a0)), (1, .inl x1)] [] h else EX d 144 44 [(0, .inr (.inr a0))] [] h := (EX_at bk_Mod_notes_14 _ _ _).trans rfl
theorem bk_Mod_notes_20 : blk 144 20 = some (((cd_Mod_notes.lookup 20).getD ([], 0, []))) := rfl
theorem Mod_notes_20 (d : Nat) (a0 : Nat) (x1 : Int) (h : Hp) : EX d 144 20 [(0, .inr (.inr a0)), (1, .inl x1)] [] h = if sK h a0 = 11 then if sK h a0 = 11 then if okx h (hR h a0 1) 20 (88 + x1) then if okx h (hR h a0 1) 20 (74 + x1) then EX d 144 38 [(0, .inr (.inr a0)), (1, .inl x1)] [] (pI h (hR h a0 1) (ix (74 + x1)) (hI h (hR h a0 1) (ix (88 + x1)))) else none else none else none else none := (EX_at bk_Mod_notes_20 _ _ _).trans rfl
theorem bk_Mod_notes_38 : blk 144 38 = some (((cd_Mod_notes.lookup 38).getD ([], 0, []))) := rfl
theorem Mod_notes_38 (d : Nat) (a0 : Nat) (x1 : Int) (h : Hp) : EX d 144 38 [(0, .inr (.inr a0)), (1, .inl x1)] [] h = EX d 144 14 [(0, .inr (.inr a0)), (1, .inl (x1 + 1))] [] h := (EX_at bk_Mod_notes_38 _ _ _).trans rfl
theorem bk_Mod_notes_44 : blk 144 44 = some (((cd_Mod_notes.lookup 44).getD ([], 0, []))) := rfl
theorem Mod_notes_44 (d : Nat) (a0 : Nat) (h : Hp) : EX d 144 44 [(0, .inr (.inr a0))] [] h = if sK h a0 = 11 then if okx h (hR h a0 1) 20 73 then if okx h (hR h a0 1) 20 73 then EX d 144 55 [(0, .inr (.inr a0))] [] (pI h (hR h a0 1) 73 ((hI h (hR h a0 1) 73) - 1)) else none else none else none := (EX_at bk_Mod_notes_44 _ _ _).trans rfl
theorem bk_Mod_notes_55 : blk 144 55 = some (((cd_Mod_notes.lookup 55).getD ([], 0, []))) := rfl
theorem Mod_notes_55 (d : Nat) (a0 : Nat) (h : Hp) : EX d 144 55 [(0, .inr (.inr a0))] [] h = EX d 144 57 [(0, .inr (.inr a0)), (1, .inl 0)] [] h := (EX_at bk_Mod_notes_55 _ _ _).trans rfl
theorem bk_Mod_notes_57 : blk 144 57 = some (((cd_Mod_notes.lookup 57).getD ([], 0, []))) := rfl
theorem Mod_notes_57 (d : Nat) (a0 : Nat) (x1 : Int) (h : Hp) : EX d 144 57 [(0, .inr (.inr a0)), (1, .inl x1)] [] h = if (wr x1) < 14 then EX d 144 63 [(0, .inr (.inr a0)), (1, .inl x1)] [] h else EX d 144 95 [(0, .inr (.inr a0))] [] h := (EX_at bk_Mod_notes_57 _ _ _).trans rfl
theorem bk_Mod_notes_63 : blk 144 63 = some (((cd_Mod_notes.lookup 63).getD ([], 0, []))) := rfl
theorem Mod_notes_63 (d : Nat) (a0 : Nat) (x1 : Int) (h : Hp) : EX d 144 63 [(0, .inr (.inr a0)), (1, .inl x1)] [] h = if sK h a0 = 11 then if sK h a0 = 11 then if okx h (hR h a0 1) 20 73 then if sK h a0 = 11 then if okx h (hR h a0 16) 20 x1 then if okx h (hR h a0 1) 20 ((74 + (14 * (hI h (hR h a0 1) 73))) + x1) then EX d 144 89 [(0, .inr (.inr a0)), (1, .inl x1)] [] (pI h (hR h a0 1) (ix ((74 + (14 * (hI h (hR h a0 1) 73))) + x1)) (hI h (hR h a0 16) (ix x1))) else none else none else none else none else none else none := (EX_at bk_Mod_notes_63 _ _ _).trans rfl
theorem bk_Mod_notes_89 : blk 144 89 = some (((cd_Mod_notes.lookup 89).getD ([], 0, []))) := rfl
theorem Mod_notes_89 (d : Nat) (a0 : Nat) (x1 : Int) (h : Hp) : EX d 144 89 [(0, .inr (.inr a0)), (1, .inl x1)] [] h = EX d 144 57 [(0, .inr (.inr a0)), (1, .inl (x1 + 1))] [] h := (EX_at bk_Mod_notes_89 _ _ _).trans rfl
theorem bk_Mod_notes_95 : blk 144 95 = some (((cd_Mod_notes.lookup 95).getD ([], 0, []))) := rfl
theorem Mod_notes_95 (d : Nat) (a0 : Nat) (h : Hp) : EX d 144 95 [(0, .inr (.inr a0))] [] h = if sK h a0 = 11 then if okx h (hR h a0 1) 20 73 then if okx h (hR h a0 1) 20 73 then EX d 144 106 [] [] (pI h (hR h a0 1) 73 ((hI h (hR h a0 1) 73) + 1)) else none else none else none := (EX_at bk_Mod_notes_95 _ _ _).trans rfl
theorem bk_Mod_notes_106 : blk 144 106 = some (((cd_Mod_notes.lookup 106).getD ([], 0, []))) := rfl
theorem Mod_notes_106 (d : Nat) (h : Hp) : EX d 144 106 [] [] h = some (.inl 0, h) := (EX_at bk_Mod_notes_106 _ _ _).trans rfl
/-! join(II)I of HookOverModel: method 145 -/
theorem bk_Mod_join_0 : blk 145 0 = some (((cd_Mod_join.lookup 0).getD ([], 0, []))) := rfl
theorem Mod_join_0 (d : Nat) (a0 : Nat) (x1 : Int) (x2 : Int) (h : Hp) : EX d 145 0 [(0, .inr (.inr a0)), (1, .inl x1), (2, .inl x2)] [] h = if sK h a0 = 11 then EX d 145 5 [(0, .inr (.inr a0)), (1, .inl x1), (2, .inl x2)] [] (pI h a0 0 0) else none := (EX_at bk_Mod_join_0 _ _ _).trans rfl
theorem bk_Mod_join_5 : blk 145 5 = some (((cd_Mod_join.lookup 5).getD ([], 0, []))) := rfl
theorem Mod_join_5 (d : Nat) (a0 : Nat) (x1 : Int) (x2 : Int) (h : Hp) : EX d 145 5 [(0, .inr (.inr a0)), (1, .inl x1), (2, .inl x2)] [] h = if sK h a0 = 11 then bak (EX d 145) 14 [(0, .inr (.inr a0)), (1, .inl x1), (2, .inl x2)] [] false (cal d 100 [.inr (.inr (hR h a0 1)), .inl x1, .inl x2] h) else none := (EX_at bk_Mod_join_5 _ _ _).trans rfl
theorem bk_Mod_join_14 : blk 145 14 = some (((cd_Mod_join.lookup 14).getD ([], 0, []))) := rfl
theorem Mod_join_14 (d : Nat) (a0 : Nat) (x1 : Int) (x2 : Int) (s0 : Int) (h : Hp) : EX d 145 14 [(0, .inr (.inr a0)), (1, .inl x1), (2, .inl x2)] [.inl s0] h = if (wr s0) = 0 then EX d 145 24 [(0, .inr (.inr a0)), (1, .inl x1), (2, .inl x2)] [] h else EX d 145 19 [(3, .inl s0)] [] h := (EX_at bk_Mod_join_14 _ _ _).trans rfl
theorem bk_Mod_join_19 : blk 145 19 = some (((cd_Mod_join.lookup 19).getD ([], 0, []))) := rfl
theorem Mod_join_19 (d : Nat) (x3 : Int) (h : Hp) : EX d 145 19 [(3, .inl x3)] [] h = some (.inl ((-10) - x3), h) := (EX_at bk_Mod_join_19 _ _ _).trans rfl
theorem bk_Mod_join_24 : blk 145 24 = some (((cd_Mod_join.lookup 24).getD ([], 0, []))) := rfl
theorem Mod_join_24 (d : Nat) (a0 : Nat) (x1 : Int) (x2 : Int) (h : Hp) : EX d 145 24 [(0, .inr (.inr a0)), (1, .inl x1), (2, .inl x2)] [] h = if sK h a0 = 11 then bak (EX d 145) 28 [(0, .inr (.inr a0)), (1, .inl x1), (2, .inl x2)] [] true (cal d 139 [.inr (.inr a0)] h) else none := (EX_at bk_Mod_join_24 _ _ _).trans rfl
theorem bk_Mod_join_28 : blk 145 28 = some (((cd_Mod_join.lookup 28).getD ([], 0, []))) := rfl
theorem Mod_join_28 (d : Nat) (a0 : Nat) (x1 : Int) (x2 : Int) (h : Hp) : EX d 145 28 [(0, .inr (.inr a0)), (1, .inl x1), (2, .inl x2)] [] h = if sK h a0 = 11 then bak (EX d 145) 34 [(0, .inr (.inr a0))] [] true (cal d 143 [.inr (.inr a0), .inl x1, .inl x2] h) else none := (EX_at bk_Mod_join_28 _ _ _).trans rfl
theorem bk_Mod_join_34 : blk 145 34 = some (((cd_Mod_join.lookup 34).getD ([], 0, []))) := rfl
theorem Mod_join_34 (d : Nat) (a0 : Nat) (h : Hp) : EX d 145 34 [(0, .inr (.inr a0))] [] h = if sK h a0 = 11 then bak (EX d 145) 38 [(0, .inr (.inr a0))] [] true (cal d 144 [.inr (.inr a0)] h) else none := (EX_at bk_Mod_join_34 _ _ _).trans rfl
theorem bk_Mod_join_38 : blk 145 38 = some (((cd_Mod_join.lookup 38).getD ([], 0, []))) := rfl
theorem Mod_join_38 (d : Nat) (a0 : Nat) (h : Hp) : EX d 145 38 [(0, .inr (.inr a0))] [] h = if sK h a0 = 11 then if okx h (hR h a0 1) 20 60 then if sK h a0 = 11 then if okx h (hR h a0 16) 20 1 then some (.inl ((hI h (hR h a0 1) 60) - (hI h (hR h a0 16) 1)), h) else none else none else none else none := (EX_at bk_Mod_join_38 _ _ _).trans rfl
/-! whyNotOff(I)I of HookOverModel: method 149 -/
theorem bk_Mod_whyNotOff_0 : blk 149 0 = some (((cd_Mod_whyNotOff.lookup 0).getD ([], 0, []))) := rfl
theorem Mod_whyNotOff_0 (d : Nat) (a0 : Nat) (x1 : Int) (h : Hp) : EX d 149 0 [(0, .inr (.inr a0)), (1, .inl x1)] [] h = if sK h a0 = 11 then bak (EX d 149) 5 [(0, .inr (.inr a0)), (1, .inl x1)] [] false (cal d 110 [.inr (.inr a0), .inl x1] h) else none := (EX_at bk_Mod_whyNotOff_0 _ _ _).trans rfl
theorem bk_Mod_whyNotOff_5 : blk 149 5 = some (((cd_Mod_whyNotOff.lookup 5).getD ([], 0, []))) := rfl
theorem Mod_whyNotOff_5 (d : Nat) (a0 : Nat) (x1 : Int) (s0 : Int) (h : Hp) : EX d 149 5 [(0, .inr (.inr a0)), (1, .inl x1)] [.inl s0] h = if (wr s0) = 0 then EX d 149 8 [] [] h else EX d 149 12 [(0, .inr (.inr a0)), (1, .inl x1)] [] h := (EX_at bk_Mod_whyNotOff_5 _ _ _).trans rfl
theorem bk_Mod_whyNotOff_8 : blk 149 8 = some (((cd_Mod_whyNotOff.lookup 8).getD ([], 0, []))) := rfl
theorem Mod_whyNotOff_8 (d : Nat) (h : Hp) : EX d 149 8 [] [] h = EX d 149 30 [] [.inl 1] h := (EX_at bk_Mod_whyNotOff_8 _ _ _).trans rfl
theorem bk_Mod_whyNotOff_12 : blk 149 12 = some (((cd_Mod_whyNotOff.lookup 12).getD ([], 0, []))) := rfl
theorem Mod_whyNotOff_12 (d : Nat) (a0 : Nat) (x1 : Int) (h : Hp) : EX d 149 12 [(0, .inr (.inr a0)), (1, .inl x1)] [] h = if sK h a0 = 11 then if okx h (hR h a0 1) 20 (61 + x1) then if (wr (hI h (hR h a0 1) (ix (61 + x1)))) = (-1) then EX d 149 25 [] [] h else EX d 149 29 [] [] h else none else none := (EX_at bk_Mod_whyNotOff_12 _ _ _).trans rfl
theorem bk_Mod_whyNotOff_25 : blk 149 25 = some (((cd_Mod_whyNotOff.lookup 25).getD ([], 0, []))) := rfl
theorem Mod_whyNotOff_25 (d : Nat) (h : Hp) : EX d 149 25 [] [] h = EX d 149 30 [] [.inl 2] h := (EX_at bk_Mod_whyNotOff_25 _ _ _).trans rfl
theorem bk_Mod_whyNotOff_29 : blk 149 29 = some (((cd_Mod_whyNotOff.lookup 29).getD ([], 0, []))) := rfl
theorem Mod_whyNotOff_29 (d : Nat) (h : Hp) : EX d 149 29 [] [] h = EX d 149 30 [] [.inl 0] h := (EX_at bk_Mod_whyNotOff_29 _ _ _).trans rfl
theorem bk_Mod_whyNotOff_30 : blk 149 30 = some (((cd_Mod_whyNotOff.lookup 30).getD ([], 0, []))) := rfl
theorem Mod_whyNotOff_30 (d : Nat) (s0 : Int) (h : Hp) : EX d 149 30 [] [.inl s0] h = some (.inl s0, h) := (EX_at bk_Mod_whyNotOff_30 _ _ _).trans rfl
/-! unhooks(I)V of HookOverModel: method 150 -/
theorem bk_Mod_unhooks_0 : blk 150 0 = some (((cd_Mod_unhooks.lookup 0).getD ([], 0, []))) := rfl
theorem Mod_unhooks_0 (d : Nat) (a0 : Nat) (x1 : Int) (h : Hp) : EX d 150 0 [(0, .inr (.inr a0)), (1, .inl x1)] [] h = if sK h a0 = 11 then if okx h (hR h a0 1) 20 (61 + x1) then if sK h a0 = 11 then bak (EX d 150) 13 [(0, .inr (.inr a0)), (1, .inl x1)] [] true (cal d 142 [.inr (.inr a0), .inl (hI h (hR h a0 1) (ix (61 + x1)))] h) else none else none else none := (EX_at bk_Mod_unhooks_0 _ _ _).trans rfl
theorem bk_Mod_unhooks_13 : blk 150 13 = some (((cd_Mod_unhooks.lookup 13).getD ([], 0, []))) := rfl
theorem Mod_unhooks_13 (d : Nat) (a0 : Nat) (x1 : Int) (h : Hp) : EX d 150 13 [(0, .inr (.inr a0)), (1, .inl x1)] [] h = if sK h a0 = 11 then if okx h (hR h a0 1) 20 (61 + x1) then EX d 150 23 [] [] (pI h (hR h a0 1) (ix (61 + x1)) (-1)) else none else none := (EX_at bk_Mod_unhooks_13 _ _ _).trans rfl
theorem bk_Mod_unhooks_23 : blk 150 23 = some (((cd_Mod_unhooks.lookup 23).getD ([], 0, []))) := rfl
theorem Mod_unhooks_23 (d : Nat) (h : Hp) : EX d 150 23 [] [] h = some (.inl 0, h) := (EX_at bk_Mod_unhooks_23 _ _ _).trans rfl
/-! unhook(I)I of HookOverModel: method 151 -/
theorem bk_Mod_unhook_0 : blk 151 0 = some (((cd_Mod_unhook.lookup 0).getD ([], 0, []))) := rfl
theorem Mod_unhook_0 (d : Nat) (a0 : Nat) (x1 : Int) (h : Hp) : EX d 151 0 [(0, .inr (.inr a0)), (1, .inl x1)] [] h = if sK h a0 = 11 then EX d 151 5 [(0, .inr (.inr a0)), (1, .inl x1)] [] (pI h a0 0 0) else none := (EX_at bk_Mod_unhook_0 _ _ _).trans rfl
theorem bk_Mod_unhook_5 : blk 151 5 = some (((cd_Mod_unhook.lookup 5).getD ([], 0, []))) := rfl
theorem Mod_unhook_5 (d : Nat) (a0 : Nat) (x1 : Int) (h : Hp) : EX d 151 5 [(0, .inr (.inr a0)), (1, .inl x1)] [] h = if sK h a0 = 11 then bak (EX d 151) 10 [(0, .inr (.inr a0)), (1, .inl x1)] [] false (cal d 149 [.inr (.inr a0), .inl x1] h) else none := (EX_at bk_Mod_unhook_5 _ _ _).trans rfl
theorem bk_Mod_unhook_10 : blk 151 10 = some (((cd_Mod_unhook.lookup 10).getD ([], 0, []))) := rfl
theorem Mod_unhook_10 (d : Nat) (a0 : Nat) (x1 : Int) (s0 : Int) (h : Hp) : EX d 151 10 [(0, .inr (.inr a0)), (1, .inl x1)] [.inl s0] h = if (wr s0) = 0 then EX d 151 20 [(0, .inr (.inr a0)), (1, .inl x1)] [] h else EX d 151 15 [(2, .inl s0)] [] h := (EX_at bk_Mod_unhook_10 _ _ _).trans rfl
theorem bk_Mod_unhook_15 : blk 151 15 = some (((cd_Mod_unhook.lookup 15).getD ([], 0, []))) := rfl
theorem Mod_unhook_15 (d : Nat) (x2 : Int) (h : Hp) : EX d 151 15 [(2, .inl x2)] [] h = some (.inl ((-10) - x2), h) := (EX_at bk_Mod_unhook_15 _ _ _).trans rfl
theorem bk_Mod_unhook_20 : blk 151 20 = some (((cd_Mod_unhook.lookup 20).getD ([], 0, []))) := rfl
theorem Mod_unhook_20 (d : Nat) (a0 : Nat) (x1 : Int) (h : Hp) : EX d 151 20 [(0, .inr (.inr a0)), (1, .inl x1)] [] h = if sK h a0 = 11 then bak (EX d 151) 24 [(0, .inr (.inr a0)), (1, .inl x1)] [] true (cal d 139 [.inr (.inr a0)] h) else none := (EX_at bk_Mod_unhook_20 _ _ _).trans rfl
theorem bk_Mod_unhook_24 : blk 151 24 = some (((cd_Mod_unhook.lookup 24).getD ([], 0, []))) := rfl
theorem Mod_unhook_24 (d : Nat) (a0 : Nat) (x1 : Int) (h : Hp) : EX d 151 24 [(0, .inr (.inr a0)), (1, .inl x1)] [] h = if sK h a0 = 11 then bak (EX d 151) 29 [(0, .inr (.inr a0))] [] true (cal d 150 [.inr (.inr a0), .inl x1] h) else none := (EX_at bk_Mod_unhook_24 _ _ _).trans rfl
theorem bk_Mod_unhook_29 : blk 151 29 = some (((cd_Mod_unhook.lookup 29).getD ([], 0, []))) := rfl
theorem Mod_unhook_29 (d : Nat) (a0 : Nat) (h : Hp) : EX d 151 29 [(0, .inr (.inr a0))] [] h = if sK h a0 = 11 then bak (EX d 151) 33 [(0, .inr (.inr a0))] [] true (cal d 144 [.inr (.inr a0)] h) else none := (EX_at bk_Mod_unhook_29 _ _ _).trans rfl
theorem bk_Mod_unhook_33 : blk 151 33 = some (((cd_Mod_unhook.lookup 33).getD ([], 0, []))) := rfl
theorem Mod_unhook_33 (d : Nat) (a0 : Nat) (h : Hp) : EX d 151 33 [(0, .inr (.inr a0))] [] h = if sK h a0 = 11 then if okx h (hR h a0 1) 20 60 then if sK h a0 = 11 then if okx h (hR h a0 16) 20 1 then some (.inl ((hI h (hR h a0 1) 60) - (hI h (hR h a0 16) 1)), h) else none else none else none else none := (EX_at bk_Mod_unhook_33 _ _ _).trans rfl
/-! undo(I)I of HookOverModel: method 155 -/
theorem bk_Mod_undo_0 : blk 155 0 = some (((cd_Mod_undo.lookup 0).getD ([], 0, []))) := rfl
theorem Mod_undo_0 (d : Nat) (a0 : Nat) (x1 : Int) (h : Hp) : EX d 155 0 [(0, .inr (.inr a0)), (1, .inl x1)] [] h = if sK h a0 = 11 then EX d 155 5 [(0, .inr (.inr a0)), (1, .inl x1)] [] (pI h a0 0 0) else none := (EX_at bk_Mod_undo_0 _ _ _).trans rfl
theorem bk_Mod_undo_5 : blk 155 5 = some (((cd_Mod_undo.lookup 5).getD ([], 0, []))) := rfl
theorem Mod_undo_5 (d : Nat) (a0 : Nat) (x1 : Int) (h : Hp) : EX d 155 5 [(0, .inr (.inr a0)), (1, .inl x1)] [] h = bak (EX d 155) 14 [(0, .inr (.inr a0)), (1, .inl x1)] [] false (cal d 73 [.inr (.inl (wr x1)), .inr (.inl 1), .inr (.inl 10)] h) := (EX_at bk_Mod_undo_5 _ _ _).trans rfl
theorem bk_Mod_undo_14 : blk 155 14 = some (((cd_Mod_undo.lookup 14).getD ([], 0, []))) := rfl
theorem Mod_undo_14 (d : Nat) (a0 : Nat) (x1 : Int) (s0 : Int) (h : Hp) : EX d 155 14 [(0, .inr (.inr a0)), (1, .inl x1)] [.inl s0] h = if (wr s0) = 0 then EX d 155 28 [] [] h else EX d 155 17 [(0, .inr (.inr a0)), (1, .inl x1)] [] h := (EX_at bk_Mod_undo_14 _ _ _).trans rfl
theorem bk_Mod_undo_17 : blk 155 17 = some (((cd_Mod_undo.lookup 17).getD ([], 0, []))) := rfl
theorem Mod_undo_17 (d : Nat) (a0 : Nat) (x1 : Int) (h : Hp) : EX d 155 17 [(0, .inr (.inr a0)), (1, .inl x1)] [] h = if sK h a0 = 11 then if okx h (hR h a0 1) 20 73 then if (wr (hI h (hR h a0 1) 73)) < (wr x1) then EX d 155 28 [] [] h else EX d 155 31 [(0, .inr (.inr a0)), (1, .inl x1)] [] h else none else none := (EX_at bk_Mod_undo_17 _ _ _).trans rfl
theorem bk_Mod_undo_28 : blk 155 28 = some (((cd_Mod_undo.lookup 28).getD ([], 0, []))) := rfl
theorem Mod_undo_28 (d : Nat) (h : Hp) : EX d 155 28 [] [] h = some (.inl (-3), h) := (EX_at bk_Mod_undo_28 _ _ _).trans rfl
theorem bk_Mod_undo_31 : blk 155 31 = some (((cd_Mod_undo.lookup 31).getD ([], 0, []))) := rfl
theorem Mod_undo_31 (d : Nat) (a0 : Nat) (x1 : Int) (h : Hp) : EX d 155 31 [(0, .inr (.inr a0)), (1, .inl x1)] [] h = if sK h a0 = 11 then if okx h (hR h a0 1) 20 73 then if okx h (hR h a0 1) 20 73 then EX d 155 42 [(0, .inr (.inr a0))] [] (pI h (hR h a0 1) 73 ((hI h (hR h a0 1) 73) - x1)) else none else none else none := (EX_at bk_Mod_undo_31 _ _ _).trans rfl
theorem bk_Mod_undo_42 : blk 155 42 = some (((cd_Mod_undo.lookup 42).getD ([], 0, []))) := rfl
theorem Mod_undo_42 (d : Nat) (a0 : Nat) (h : Hp) : EX d 155 42 [(0, .inr (.inr a0))] [] h = EX d 155 44 [(0, .inr (.inr a0)), (2, .inl 0)] [] h := (EX_at bk_Mod_undo_42 _ _ _).trans rfl
theorem bk_Mod_undo_44 : blk 155 44 = some (((cd_Mod_undo.lookup 44).getD ([], 0, []))) := rfl
theorem Mod_undo_44 (d : Nat) (a0 : Nat) (x2 : Int) (h : Hp) : EX d 155 44 [(0, .inr (.inr a0)), (2, .inl x2)] [] h = if (wr x2) < 14 then EX d 155 50 [(0, .inr (.inr a0)), (2, .inl x2)] [] h else EX d 155 85 [(0, .inr (.inr a0))] [] h := (EX_at bk_Mod_undo_44 _ _ _).trans rfl
theorem bk_Mod_undo_50 : blk 155 50 = some (((cd_Mod_undo.lookup 50).getD ([], 0, []))) := rfl
theorem Mod_undo_50 (d : Nat) (a0 : Nat) (x2 : Int) (h : Hp) : EX d 155 50 [(0, .inr (.inr a0)), (2, .inl x2)] [] h = if sK h a0 = 11 then if sK h a0 = 11 then if sK h a0 = 11 then if okx h (hR h a0 1) 20 73 then if okx h (hR h a0 1) 20 ((74 + (14 * (hI h (hR h a0 1) 73))) + x2) then if okx h (hR h a0 1) 20 (59 + x2) then EX d 155 79 [(0, .inr (.inr a0)), (2, .inl x2)] [] (pI h (hR h a0 1) (ix (59 + x2)) (hI h (hR h a0 1) (ix ((74 + (14 * (hI h (hR h a0 1) 73))) + x2)))) else none else none else none else none else none else none := (EX_at bk_Mod_undo_50 _ _ _).trans rfl
theorem bk_Mod_undo_79 : blk 155 79 = some (((cd_Mod_undo.lookup 79).getD ([], 0, []))) := rfl
theorem Mod_undo_79 (d : Nat) (a0 : Nat) (x2 : Int) (h : Hp) : EX d 155 79 [(0, .inr (.inr a0)), (2, .inl x2)] [] h = EX d 155 44 [(0, .inr (.inr a0)), (2, .inl (x2 + 1))] [] h := (EX_at bk_Mod_undo_79 _ _ _).trans rfl
theorem bk_Mod_undo_85 : blk 155 85 = some (((cd_Mod_undo.lookup 85).getD ([], 0, []))) := rfl
theorem Mod_undo_85 (d : Nat) (a0 : Nat) (h : Hp) : EX d 155 85 [(0, .inr (.inr a0))] [] h = if sK h a0 = 11 then if okx h (hR h a0 1) 20 73 then some (.inl (hI h (hR h a0 1) 73), h) else none else none := (EX_at bk_Mod_undo_85 _ _ _).trans rfl
/-! noTray(I)I of HookOverModel: method 164 -/
theorem bk_Mod_noTray_0 : blk 164 0 = some (((cd_Mod_noTray.lookup 0).getD ([], 0, []))) := rfl
theorem Mod_noTray_0 (d : Nat) (a0 : Nat) (x1 : Int) (h : Hp) : EX d 164 0 [(0, .inr (.inr a0)), (1, .inl x1)] [] h = bak (EX d 164) 9 [(0, .inr (.inr a0)), (1, .inl x1)] [] false (cal d 73 [.inr (.inl (wr x1)), .inr (.inl 0), .inr (.inl 3)] h) := (EX_at bk_Mod_noTray_0 _ _ _).trans rfl
theorem bk_Mod_noTray_9 : blk 164 9 = some (((cd_Mod_noTray.lookup 9).getD ([], 0, []))) := rfl
theorem Mod_noTray_9 (d : Nat) (a0 : Nat) (x1 : Int) (s0 : Int) (h : Hp) : EX d 164 9 [(0, .inr (.inr a0)), (1, .inl x1)] [.inl s0] h = if (wr s0) = 0 then EX d 164 12 [] [] h else EX d 164 17 [(0, .inr (.inr a0)), (1, .inl x1)] [] h := (EX_at bk_Mod_noTray_9 _ _ _).trans rfl
theorem bk_Mod_noTray_12 : blk 164 12 = some (((cd_Mod_noTray.lookup 12).getD ([], 0, []))) := rfl
theorem Mod_noTray_12 (d : Nat) (h : Hp) : EX d 164 12 [] [] h = EX d 164 33 [] [.inl (-2)] h := (EX_at bk_Mod_noTray_12 _ _ _).trans rfl
theorem bk_Mod_noTray_17 : blk 164 17 = some (((cd_Mod_noTray.lookup 17).getD ([], 0, []))) := rfl
theorem Mod_noTray_17 (d : Nat) (a0 : Nat) (x1 : Int) (h : Hp) : EX d 164 17 [(0, .inr (.inr a0)), (1, .inl x1)] [] h = if sK h a0 = 11 then if okx h (hR h a0 33) 20 x1 then if (wr (hI h (hR h a0 33) (ix x1))) = (-1) then EX d 164 27 [] [] h else EX d 164 32 [] [] h else none else none := (EX_at bk_Mod_noTray_17 _ _ _).trans rfl
theorem bk_Mod_noTray_27 : blk 164 27 = some (((cd_Mod_noTray.lookup 27).getD ([], 0, []))) := rfl
theorem Mod_noTray_27 (d : Nat) (h : Hp) : EX d 164 27 [] [] h = EX d 164 33 [] [.inl (-6)] h := (EX_at bk_Mod_noTray_27 _ _ _).trans rfl
theorem bk_Mod_noTray_32 : blk 164 32 = some (((cd_Mod_noTray.lookup 32).getD ([], 0, []))) := rfl
theorem Mod_noTray_32 (d : Nat) (h : Hp) : EX d 164 32 [] [] h = EX d 164 33 [] [.inl 0] h := (EX_at bk_Mod_noTray_32 _ _ _).trans rfl
theorem bk_Mod_noTray_33 : blk 164 33 = some (((cd_Mod_noTray.lookup 33).getD ([], 0, []))) := rfl
theorem Mod_noTray_33 (d : Nat) (s0 : Int) (h : Hp) : EX d 164 33 [] [.inl s0] h = some (.inl s0, h) := (EX_at bk_Mod_noTray_33 _ _ _).trans rfl
/-! whyNotTold(J)I of HookOverModel: method 165 -/
theorem bk_Mod_whyNotTold_0 : blk 165 0 = some (((cd_Mod_whyNotTold.lookup 0).getD ([], 0, []))) := rfl
theorem Mod_whyNotTold_0 (d : Nat) (a0 : Nat) (y1 : Int) (h : Hp) : EX d 165 0 [(0, .inr (.inr a0)), (1, .inr (.inl y1))] [] h = bak (EX d 165) 8 [(0, .inr (.inr a0)), (1, .inr (.inl y1))] [] false (cal d 73 [.inr (.inl y1), .inr (.inl 0), .inr (.inl 143)] h) := (EX_at bk_Mod_whyNotTold_0 _ _ _).trans rfl
theorem bk_Mod_whyNotTold_8 : blk 165 8 = some (((cd_Mod_whyNotTold.lookup 8).getD ([], 0, []))) := rfl
theorem Mod_whyNotTold_8 (d : Nat) (a0 : Nat) (y1 : Int) (s0 : Int) (h : Hp) : EX d 165 8 [(0, .inr (.inr a0)), (1, .inr (.inl y1))] [.inl s0] h = if (wr s0) = 0 then EX d 165 29 [(0, .inr (.inr a0)), (1, .inr (.inl y1))] [] h else EX d 165 11 [(0, .inr (.inr a0)), (1, .inr (.inl y1))] [] h := (EX_at bk_Mod_whyNotTold_8 _ _ _).trans rfl
theorem bk_Mod_whyNotTold_11 : blk 165 11 = some (((cd_Mod_whyNotTold.lookup 11).getD ([], 0, []))) := rfl
theorem Mod_whyNotTold_11 (d : Nat) (a0 : Nat) (y1 : Int) (h : Hp) : EX d 165 11 [(0, .inr (.inr a0)), (1, .inr (.inl y1))] [] h = if sK h a0 = 11 then bak (EX d 165) 28 [] [] false (cal d 100 [.inr (.inr (hR h a0 1)), .inl (bDiv y1 12), .inl (bRem y1 12)] h) else none := (EX_at bk_Mod_whyNotTold_11 _ _ _).trans rfl
theorem bk_Mod_whyNotTold_28 : blk 165 28 = some (((cd_Mod_whyNotTold.lookup 28).getD ([], 0, []))) := rfl
theorem Mod_whyNotTold_28 (d : Nat) (s0 : Int) (h : Hp) : EX d 165 28 [] [.inl s0] h = some (.inl s0, h) := (EX_at bk_Mod_whyNotTold_28 _ _ _).trans rfl
theorem bk_Mod_whyNotTold_29 : blk 165 29 = some (((cd_Mod_whyNotTold.lookup 29).getD ([], 0, []))) := rfl
theorem Mod_whyNotTold_29 (d : Nat) (a0 : Nat) (y1 : Int) (h : Hp) : EX d 165 29 [(0, .inr (.inr a0)), (1, .inr (.inl y1))] [] h = bak (EX d 165) 39 [(0, .inr (.inr a0)), (1, .inr (.inl y1))] [] false (cal d 73 [.inr (.inl y1), .inr (.inl 200), .inr (.inl 211)] h) := (EX_at bk_Mod_whyNotTold_29 _ _ _).trans rfl
theorem bk_Mod_whyNotTold_39 : blk 165 39 = some (((cd_Mod_whyNotTold.lookup 39).getD ([], 0, []))) := rfl
theorem Mod_whyNotTold_39 (d : Nat) (a0 : Nat) (y1 : Int) (s0 : Int) (h : Hp) : EX d 165 39 [(0, .inr (.inr a0)), (1, .inr (.inl y1))] [.inl s0] h = if (wr s0) = 0 then EX d 165 55 [] [] h else EX d 165 42 [(0, .inr (.inr a0)), (1, .inr (.inl y1))] [] h := (EX_at bk_Mod_whyNotTold_39 _ _ _).trans rfl
theorem bk_Mod_whyNotTold_42 : blk 165 42 = some (((cd_Mod_whyNotTold.lookup 42).getD ([], 0, []))) := rfl
theorem Mod_whyNotTold_42 (d : Nat) (a0 : Nat) (y1 : Int) (h : Hp) : EX d 165 42 [(0, .inr (.inr a0)), (1, .inr (.inl y1))] [] h = if sK h a0 = 11 then bak (EX d 165) 52 [] [] false (cal d 149 [.inr (.inr a0), .inl (y1 - 200)] h) else none := (EX_at bk_Mod_whyNotTold_42 _ _ _).trans rfl
theorem bk_Mod_whyNotTold_52 : blk 165 52 = some (((cd_Mod_whyNotTold.lookup 52).getD ([], 0, []))) := rfl
theorem Mod_whyNotTold_52 (d : Nat) (s0 : Int) (h : Hp) : EX d 165 52 [] [.inl s0] h = EX d 165 56 [] [.inl s0] h := (EX_at bk_Mod_whyNotTold_52 _ _ _).trans rfl
theorem bk_Mod_whyNotTold_55 : blk 165 55 = some (((cd_Mod_whyNotTold.lookup 55).getD ([], 0, []))) := rfl
theorem Mod_whyNotTold_55 (d : Nat) (h : Hp) : EX d 165 55 [] [] h = EX d 165 56 [] [.inl 1] h := (EX_at bk_Mod_whyNotTold_55 _ _ _).trans rfl
theorem bk_Mod_whyNotTold_56 : blk 165 56 = some (((cd_Mod_whyNotTold.lookup 56).getD ([], 0, []))) := rfl
theorem Mod_whyNotTold_56 (d : Nat) (s0 : Int) (h : Hp) : EX d 165 56 [] [.inl s0] h = some (.inl s0, h) := (EX_at bk_Mod_whyNotTold_56 _ _ _).trans rfl
/-! tells(I)I of HookOverModel: method 166 -/
theorem bk_Mod_tells_0 : blk 166 0 = some (((cd_Mod_tells.lookup 0).getD ([], 0, []))) := rfl
theorem Mod_tells_0 (d : Nat) (a0 : Nat) (x1 : Int) (h : Hp) : EX d 166 0 [(0, .inr (.inr a0)), (1, .inl x1)] [] h = if sK h a0 = 11 then EX d 166 5 [(0, .inr (.inr a0)), (1, .inl x1)] [] (pI h a0 17 0) else none := (EX_at bk_Mod_tells_0 _ _ _).trans rfl
theorem bk_Mod_tells_5 : blk 166 5 = some (((cd_Mod_tells.lookup 5).getD ([], 0, []))) := rfl
theorem Mod_tells_5 (d : Nat) (a0 : Nat) (x1 : Int) (h : Hp) : EX d 166 5 [(0, .inr (.inr a0)), (1, .inl x1)] [] h = EX d 166 7 [(0, .inr (.inr a0)), (1, .inl x1), (2, .inl 0)] [] h := (EX_at bk_Mod_tells_5 _ _ _).trans rfl
theorem bk_Mod_tells_7 : blk 166 7 = some (((cd_Mod_tells.lookup 7).getD ([], 0, []))) := rfl
theorem Mod_tells_7 (d : Nat) (a0 : Nat) (x1 : Int) (x2 : Int) (h : Hp) : EX d 166 7 [(0, .inr (.inr a0)), (1, .inl x1), (2, .inl x2)] [] h = if sK h a0 = 11 then if okx h (hR h a0 34) 20 x1 then if (wr x2) < (wr (hI h (hR h a0 34) (ix x1))) then EX d 166 17 [(0, .inr (.inr a0)), (1, .inl x1), (2, .inl x2)] [] h else EX d 166 88 [(0, .inr (.inr a0)), (1, .inl x1)] [] h else none else none := (EX_at bk_Mod_tells_7 _ _ _).trans rfl
theorem bk_Mod_tells_17 : blk 166 17 = some (((cd_Mod_tells.lookup 17).getD ([], 0, []))) := rfl
theorem Mod_tells_17 (d : Nat) (a0 : Nat) (x1 : Int) (x2 : Int) (h : Hp) : EX d 166 17 [(0, .inr (.inr a0)), (1, .inl x1), (2, .inl x2)] [] h = if sK h a0 = 11 then if okx h (hR h a0 35) 21 ((40 * x1) + x2) then if sK h a0 = 11 then bak (EX d 166) 35 [(0, .inr (.inr a0)), (1, .inl x1), (2, .inl x2), (3, .inr (.inl (hL h (hR h a0 35) (ix ((40 * x1) + x2)))))] [.inr (.inr a0)] false (cal d 165 [.inr (.inr a0), .inr (.inl (hL h (hR h a0 35) (ix ((40 * x1) + x2))))] h) else none else none else none := (EX_at bk_Mod_tells_17 _ _ _).trans rfl
theorem bk_Mod_tells_35 : blk 166 35 = some (((cd_Mod_tells.lookup 35).getD ([], 0, []))) := rfl
theorem Mod_tells_35 (d : Nat) (a0 : Nat) (x1 : Int) (x2 : Int) (y3 : Int) (r0 : Nat) (s1 : Int) (h : Hp) : EX d 166 35 [(0, .inr (.inr a0)), (1, .inl x1), (2, .inl x2), (3, .inr (.inl y3))] [.inl s1, .inr (.inr r0)] h = if sK h r0 = 11 then EX d 166 38 [(0, .inr (.inr a0)), (1, .inl x1), (2, .inl x2), (3, .inr (.inl y3))] [] (pI h r0 17 s1) else none := (EX_at bk_Mod_tells_35 _ _ _).trans rfl
theorem bk_Mod_tells_38 : blk 166 38 = some (((cd_Mod_tells.lookup 38).getD ([], 0, []))) := rfl
theorem Mod_tells_38 (d : Nat) (a0 : Nat) (x1 : Int) (x2 : Int) (y3 : Int) (h : Hp) : EX d 166 38 [(0, .inr (.inr a0)), (1, .inl x1), (2, .inl x2), (3, .inr (.inl y3))] [] h = if sK h a0 = 11 then if (wr (hI h a0 17)) = 0 then EX d 166 47 [(0, .inr (.inr a0)), (1, .inl x1), (2, .inl x2), (3, .inr (.inl y3))] [] h else EX d 166 45 [(2, .inl x2)] [] h else none := (EX_at bk_Mod_tells_38 _ _ _).trans rfl
theorem bk_Mod_tells_45 : blk 166 45 = some (((cd_Mod_tells.lookup 45).getD ([], 0, []))) := rfl
theorem Mod_tells_45 (d : Nat) (x2 : Int) (h : Hp) : EX d 166 45 [(2, .inl x2)] [] h = some (.inl x2, h) := (EX_at bk_Mod_tells_45 _ _ _).trans rfl
theorem bk_Mod_tells_47 : blk 166 47 = some (((cd_Mod_tells.lookup 47).getD ([], 0, []))) := rfl
theorem Mod_tells_47 (d : Nat) (a0 : Nat) (x1 : Int) (x2 : Int) (y3 : Int) (h : Hp) : EX d 166 47 [(0, .inr (.inr a0)), (1, .inl x1), (2, .inl x2), (3, .inr (.inl y3))] [] h = if (wr (lCmp y3 200)) < 0 then EX d 166 55 [(0, .inr (.inr a0)), (1, .inl x1), (2, .inl x2), (3, .inr (.inl y3))] [] h else EX d 166 72 [(0, .inr (.inr a0)), (1, .inl x1), (2, .inl x2), (3, .inr (.inl y3))] [] h := (EX_at bk_Mod_tells_47 _ _ _).trans rfl
theorem bk_Mod_tells_55 : blk 166 55 = some (((cd_Mod_tells.lookup 55).getD ([], 0, []))) := rfl
theorem Mod_tells_55 (d : Nat) (a0 : Nat) (x1 : Int) (x2 : Int) (y3 : Int) (h : Hp) : EX d 166 55 [(0, .inr (.inr a0)), (1, .inl x1), (2, .inl x2), (3, .inr (.inl y3))] [] h = if sK h a0 = 11 then bak (EX d 166) 69 [(0, .inr (.inr a0)), (1, .inl x1), (2, .inl x2)] [] true (cal d 143 [.inr (.inr a0), .inl (bDiv y3 12), .inl (bRem y3 12)] h) else none := (EX_at bk_Mod_tells_55 _ _ _).trans rfl
theorem bk_Mod_tells_69 : blk 166 69 = some (((cd_Mod_tells.lookup 69).getD ([], 0, []))) := rfl
theorem Mod_tells_69 (d : Nat) (a0 : Nat) (x1 : Int) (x2 : Int) (h : Hp) : EX d 166 69 [(0, .inr (.inr a0)), (1, .inl x1), (2, .inl x2)] [] h = EX d 166 82 [(0, .inr (.inr a0)), (1, .inl x1), (2, .inl x2)] [] h := (EX_at bk_Mod_tells_69 _ _ _).trans rfl
theorem bk_Mod_tells_72 : blk 166 72 = some (((cd_Mod_tells.lookup 72).getD ([], 0, []))) := rfl
theorem Mod_tells_72 (d : Nat) (a0 : Nat) (x1 : Int) (x2 : Int) (y3 : Int) (h : Hp) : EX d 166 72 [(0, .inr (.inr a0)), (1, .inl x1), (2, .inl x2), (3, .inr (.inl y3))] [] h = if sK h a0 = 11 then bak (EX d 166) 82 [(0, .inr (.inr a0)), (1, .inl x1), (2, .inl x2)] [] true (cal d 150 [.inr (.inr a0), .inl (y3 - 200)] h) else none := (EX_at bk_Mod_tells_72 _ _ _).trans rfl
theorem bk_Mod_tells_82 : blk 166 82 = some (((cd_Mod_tells.lookup 82).getD ([], 0, []))) := rfl
theorem Mod_tells_82 (d : Nat) (a0 : Nat) (x1 : Int) (x2 : Int) (h : Hp) : EX d 166 82 [(0, .inr (.inr a0)), (1, .inl x1), (2, .inl x2)] [] h = EX d 166 7 [(0, .inr (.inr a0)), (1, .inl x1), (2, .inl (x2 + 1))] [] h := (EX_at bk_Mod_tells_82 _ _ _).trans rfl
theorem bk_Mod_tells_88 : blk 166 88 = some (((cd_Mod_tells.lookup 88).getD ([], 0, []))) := rfl
theorem Mod_tells_88 (d : Nat) (a0 : Nat) (x1 : Int) (h : Hp) : EX d 166 88 [(0, .inr (.inr a0)), (1, .inl x1)] [] h = if sK h a0 = 11 then if okx h (hR h a0 34) 20 x1 then some (.inl (hI h (hR h a0 34) (ix x1)), h) else none else none := (EX_at bk_Mod_tells_88 _ _ _).trans rfl
/-! isAgain()V of HookOverModel: method 167 -/
theorem bk_Mod_isAgain_0 : blk 167 0 = some (((cd_Mod_isAgain.lookup 0).getD ([], 0, []))) := rfl
theorem Mod_isAgain_0 (d : Nat) (a0 : Nat) (h : Hp) : EX d 167 0 [(0, .inr (.inr a0))] [] h = EX d 167 2 [(0, .inr (.inr a0)), (1, .inl 0)] [] h := (EX_at bk_Mod_isAgain_0 _ _ _).trans rfl
theorem bk_Mod_isAgain_2 : blk 167 2 = some (((cd_Mod_isAgain.lookup 2).getD ([], 0, []))) := rfl
theorem Mod_isAgain_2 (d : Nat) (a0 : Nat) (x1 : Int) (h : Hp) : EX d 167 2 [(0, .inr (.inr a0)), (1, .inl x1)] [] h = if (wr x1) < 14 then EX d 167 8 [(0, .inr (.inr a0)), (1, .inl x1)] [] h else EX d 167 29 [] [] h := (EX_at bk_Mod_isAgain_2 _ _ _).trans rfl
theorem bk_Mod_isAgain_8 : blk 167 8 = some (((cd_Mod_isAgain.lookup 8).getD ([], 0, []))) := rfl
theorem Mod_isAgain_8 (d : Nat) (a0 : Nat) (x1 : Int) (h : Hp) : EX d 167 8 [(0, .inr (.inr a0)), (1, .inl x1)] [] h = if sK h a0 = 11 then if sK h a0 = 11 then if okx h (hR h a0 16) 20 x1 then if okx h (hR h a0 1) 20 (59 + x1) then EX d 167 23 [(0, .inr (.inr a0)), (1, .inl x1)] [] (pI h (hR h a0 1) (ix (59 + x1)) (hI h (hR h a0 16) (ix x1))) else none else none else none else none := (EX_at bk_Mod_isAgain_8 _ _ _).trans rfl
theorem bk_Mod_isAgain_23 : blk 167 23 = some (((cd_Mod_isAgain.lookup 23).getD ([], 0, []))) := rfl
theorem Mod_isAgain_23 (d : Nat) (a0 : Nat) (x1 : Int) (h : Hp) : EX d 167 23 [(0, .inr (.inr a0)), (1, .inl x1)] [] h = EX d 167 2 [(0, .inr (.inr a0)), (1, .inl (x1 + 1))] [] h := (EX_at bk_Mod_isAgain_23 _ _ _).trans rfl
theorem bk_Mod_isAgain_29 : blk 167 29 = some (((cd_Mod_isAgain.lookup 29).getD ([], 0, []))) := rfl
theorem Mod_isAgain_29 (d : Nat) (h : Hp) : EX d 167 29 [] [] h = some (.inl 0, h) := (EX_at bk_Mod_isAgain_29 _ _ _).trans rfl
/-! judge(II)I of HookOverModel: method 168 -/
theorem bk_Mod_judge_0 : blk 168 0 = some (((cd_Mod_judge.lookup 0).getD ([], 0, []))) := rfl
theorem Mod_judge_0 (d : Nat) (a0 : Nat) (x1 : Int) (x2 : Int) (h : Hp) : EX d 168 0 [(0, .inr (.inr a0)), (1, .inl x1), (2, .inl x2)] [] h = if sK h a0 = 11 then EX d 168 5 [(0, .inr (.inr a0)), (1, .inl x1), (2, .inl x2)] [] (pI h a0 0 0) else none := (EX_at bk_Mod_judge_0 _ _ _).trans rfl
theorem bk_Mod_judge_5 : blk 168 5 = some (((cd_Mod_judge.lookup 5).getD ([], 0, []))) := rfl
theorem Mod_judge_5 (d : Nat) (a0 : Nat) (x1 : Int) (x2 : Int) (h : Hp) : EX d 168 5 [(0, .inr (.inr a0)), (1, .inl x1), (2, .inl x2)] [] h = bak (EX d 168) 14 [(0, .inr (.inr a0)), (1, .inl x1), (2, .inl x2)] [] false (cal d 73 [.inr (.inl (wr x2)), .inr (.inl 0), .inr (.inl 3)] h) := (EX_at bk_Mod_judge_5 _ _ _).trans rfl
theorem bk_Mod_judge_14 : blk 168 14 = some (((cd_Mod_judge.lookup 14).getD ([], 0, []))) := rfl
theorem Mod_judge_14 (d : Nat) (a0 : Nat) (x1 : Int) (x2 : Int) (s0 : Int) (h : Hp) : EX d 168 14 [(0, .inr (.inr a0)), (1, .inl x1), (2, .inl x2)] [.inl s0] h = if (wr s0) = 0 then EX d 168 17 [] [] h else EX d 168 20 [(0, .inr (.inr a0)), (1, .inl x1), (2, .inl x2)] [] h := (EX_at bk_Mod_judge_14 _ _ _).trans rfl
theorem bk_Mod_judge_17 : blk 168 17 = some (((cd_Mod_judge.lookup 17).getD ([], 0, []))) := rfl
theorem Mod_judge_17 (d : Nat) (h : Hp) : EX d 168 17 [] [] h = some (.inl (-2), h) := (EX_at bk_Mod_judge_17 _ _ _).trans rfl
theorem bk_Mod_judge_20 : blk 168 20 = some (((cd_Mod_judge.lookup 20).getD ([], 0, []))) := rfl
theorem Mod_judge_20 (d : Nat) (a0 : Nat) (x1 : Int) (x2 : Int) (h : Hp) : EX d 168 20 [(0, .inr (.inr a0)), (1, .inl x1), (2, .inl x2)] [] h = if sK h a0 = 11 then bak (EX d 168) 25 [(0, .inr (.inr a0)), (1, .inl x1), (2, .inl x2)] [] false (cal d 164 [.inr (.inr a0), .inl x1] h) else none := (EX_at bk_Mod_judge_20 _ _ _).trans rfl
theorem bk_Mod_judge_25 : blk 168 25 = some (((cd_Mod_judge.lookup 25).getD ([], 0, []))) := rfl
theorem Mod_judge_25 (d : Nat) (a0 : Nat) (x1 : Int) (x2 : Int) (s0 : Int) (h : Hp) : EX d 168 25 [(0, .inr (.inr a0)), (1, .inl x1), (2, .inl x2)] [.inl s0] h = if (wr s0) = 0 then EX d 168 32 [(0, .inr (.inr a0)), (1, .inl x1), (2, .inl x2)] [] h else EX d 168 30 [(3, .inl s0)] [] h := (EX_at bk_Mod_judge_25 _ _ _).trans rfl
theorem bk_Mod_judge_30 : blk 168 30 = some (((cd_Mod_judge.lookup 30).getD ([], 0, []))) := rfl
theorem Mod_judge_30 (d : Nat) (x3 : Int) (h : Hp) : EX d 168 30 [(3, .inl x3)] [] h = some (.inl x3, h) := (EX_at bk_Mod_judge_30 _ _ _).trans rfl
theorem bk_Mod_judge_32 : blk 168 32 = some (((cd_Mod_judge.lookup 32).getD ([], 0, []))) := rfl
theorem Mod_judge_32 (d : Nat) (a0 : Nat) (x1 : Int) (x2 : Int) (h : Hp) : EX d 168 32 [(0, .inr (.inr a0)), (1, .inl x1), (2, .inl x2)] [] h = if sK h a0 = 11 then bak (EX d 168) 36 [(0, .inr (.inr a0)), (1, .inl x1), (2, .inl x2)] [] true (cal d 139 [.inr (.inr a0)] h) else none := (EX_at bk_Mod_judge_32 _ _ _).trans rfl
theorem bk_Mod_judge_36 : blk 168 36 = some (((cd_Mod_judge.lookup 36).getD ([], 0, []))) := rfl
theorem Mod_judge_36 (d : Nat) (a0 : Nat) (x1 : Int) (x2 : Int) (h : Hp) : EX d 168 36 [(0, .inr (.inr a0)), (1, .inl x1), (2, .inl x2)] [] h = if sK h a0 = 11 then bak (EX d 168) 41 [(0, .inr (.inr a0)), (2, .inl x2)] [] false (cal d 166 [.inr (.inr a0), .inl x1] h) else none := (EX_at bk_Mod_judge_36 _ _ _).trans rfl
theorem bk_Mod_judge_41 : blk 168 41 = some (((cd_Mod_judge.lookup 41).getD ([], 0, []))) := rfl
theorem Mod_judge_41 (d : Nat) (a0 : Nat) (x2 : Int) (s0 : Int) (h : Hp) : EX d 168 41 [(0, .inr (.inr a0)), (2, .inl x2)] [.inl s0] h = if sK h a0 = 11 then if okx h (hR h a0 1) 20 60 then if sK h a0 = 11 then if okx h (hR h a0 16) 20 1 then if sK h a0 = 11 then bak (EX d 168) 63 [(0, .inr (.inr a0)), (2, .inl x2), (4, .inl s0), (5, .inl ((hI h (hR h a0 1) 60) - (hI h (hR h a0 16) 1)))] [] false (cal d 128 [.inr (.inr a0)] h) else none else none else none else none else none := (EX_at bk_Mod_judge_41 _ _ _).trans rfl
theorem bk_Mod_judge_63 : blk 168 63 = some (((cd_Mod_judge.lookup 63).getD ([], 0, []))) := rfl
theorem Mod_judge_63 (d : Nat) (a0 : Nat) (x2 : Int) (x4 : Int) (x5 : Int) (s0 : Int) (h : Hp) : EX d 168 63 [(0, .inr (.inr a0)), (2, .inl x2), (4, .inl x4), (5, .inl x5)] [.inl s0] h = if sK h a0 = 11 then bak (EX d 168) 69 [(0, .inr (.inr a0)), (2, .inl x2), (4, .inl x4), (5, .inl x5), (6, .inl s0)] [] true (cal d 167 [.inr (.inr a0)] h) else none := (EX_at bk_Mod_judge_63 _ _ _).trans rfl
theorem bk_Mod_judge_69 : blk 168 69 = some (((cd_Mod_judge.lookup 69).getD ([], 0, []))) := rfl
theorem Mod_judge_69 (d : Nat) (a0 : Nat) (x2 : Int) (x4 : Int) (x5 : Int) (x6 : Int) (h : Hp) : EX d 168 69 [(0, .inr (.inr a0)), (2, .inl x2), (4, .inl x4), (5, .inl x5), (6, .inl x6)] [] h = if (wr x2) = 0 then EX d 168 73 [(0, .inr (.inr a0)), (4, .inl x4)] [] h else EX d 168 89 [(0, .inr (.inr a0)), (2, .inl x2), (5, .inl x5), (6, .inl x6)] [] h := (EX_at bk_Mod_judge_69 _ _ _).trans rfl
theorem bk_Mod_judge_73 : blk 168 73 = some (((cd_Mod_judge.lookup 73).getD ([], 0, []))) := rfl
theorem Mod_judge_73 (d : Nat) (a0 : Nat) (x4 : Int) (h : Hp) : EX d 168 73 [(0, .inr (.inr a0)), (4, .inl x4)] [] h = if sK h a0 = 11 then if (wr (hI h a0 17)) = 0 then EX d 168 80 [] [] h else EX d 168 84 [(4, .inl x4)] [] h else none := (EX_at bk_Mod_judge_73 _ _ _).trans rfl
theorem bk_Mod_judge_80 : blk 168 80 = some (((cd_Mod_judge.lookup 80).getD ([], 0, []))) := rfl
theorem Mod_judge_80 (d : Nat) (h : Hp) : EX d 168 80 [] [] h = EX d 168 113 [] [.inl (-1)] h := (EX_at bk_Mod_judge_80 _ _ _).trans rfl
theorem bk_Mod_judge_84 : blk 168 84 = some (((cd_Mod_judge.lookup 84).getD ([], 0, []))) := rfl
theorem Mod_judge_84 (d : Nat) (x4 : Int) (h : Hp) : EX d 168 84 [(4, .inl x4)] [] h = EX d 168 113 [] [.inl x4] h := (EX_at bk_Mod_judge_84 _ _ _).trans rfl
theorem bk_Mod_judge_89 : blk 168 89 = some (((cd_Mod_judge.lookup 89).getD ([], 0, []))) := rfl
theorem Mod_judge_89 (d : Nat) (a0 : Nat) (x2 : Int) (x5 : Int) (x6 : Int) (h : Hp) : EX d 168 89 [(0, .inr (.inr a0)), (2, .inl x2), (5, .inl x5), (6, .inl x6)] [] h = if (wr x2) = 1 then EX d 168 94 [(0, .inr (.inr a0))] [] h else EX d 168 101 [(2, .inl x2), (5, .inl x5), (6, .inl x6)] [] h := (EX_at bk_Mod_judge_89 _ _ _).trans rfl
theorem bk_Mod_judge_94 : blk 168 94 = some (((cd_Mod_judge.lookup 94).getD ([], 0, []))) := rfl
theorem Mod_judge_94 (d : Nat) (a0 : Nat) (h : Hp) : EX d 168 94 [(0, .inr (.inr a0))] [] h = if sK h a0 = 11 then EX d 168 113 [] [.inl (hI h a0 17)] h else none := (EX_at bk_Mod_judge_94 _ _ _).trans rfl
theorem bk_Mod_judge_101 : blk 168 101 = some (((cd_Mod_judge.lookup 101).getD ([], 0, []))) := rfl
theorem Mod_judge_101 (d : Nat) (x2 : Int) (x5 : Int) (x6 : Int) (h : Hp) : EX d 168 101 [(2, .inl x2), (5, .inl x5), (6, .inl x6)] [] h = if (wr x2) = 2 then EX d 168 106 [(5, .inl x5)] [] h else EX d 168 111 [(6, .inl x6)] [] h := (EX_at bk_Mod_judge_101 _ _ _).trans rfl
theorem bk_Mod_judge_106 : blk 168 106 = some (((cd_Mod_judge.lookup 106).getD ([], 0, []))) := rfl
theorem Mod_judge_106 (d : Nat) (x5 : Int) (h : Hp) : EX d 168 106 [(5, .inl x5)] [] h = EX d 168 113 [] [.inl x5] h := (EX_at bk_Mod_judge_106 _ _ _).trans rfl
theorem bk_Mod_judge_111 : blk 168 111 = some (((cd_Mod_judge.lookup 111).getD ([], 0, []))) := rfl
theorem Mod_judge_111 (d : Nat) (x6 : Int) (h : Hp) : EX d 168 111 [(6, .inl x6)] [] h = EX d 168 113 [] [.inl x6] h := (EX_at bk_Mod_judge_111 _ _ _).trans rfl
theorem bk_Mod_judge_113 : blk 168 113 = some (((cd_Mod_judge.lookup 113).getD ([], 0, []))) := rfl
theorem Mod_judge_113 (d : Nat) (s0 : Int) (h : Hp) : EX d 168 113 [] [.inl s0] h = some (.inl s0, h) := (EX_at bk_Mod_judge_113 _ _ _).trans rfl
/-! perform(I)I of HookOverModel: method 171 -/
theorem bk_Mod_perform_0 : blk 171 0 = some (((cd_Mod_perform.lookup 0).getD ([], 0, []))) := rfl
theorem Mod_perform_0 (d : Nat) (a0 : Nat) (x1 : Int) (h : Hp) : EX d 171 0 [(0, .inr (.inr a0)), (1, .inl x1)] [] h = if sK h a0 = 11 then EX d 171 5 [(0, .inr (.inr a0)), (1, .inl x1)] [] (pI h a0 0 0) else none := (EX_at bk_Mod_perform_0 _ _ _).trans rfl
theorem bk_Mod_perform_5 : blk 171 5 = some (((cd_Mod_perform.lookup 5).getD ([], 0, []))) := rfl
theorem Mod_perform_5 (d : Nat) (a0 : Nat) (x1 : Int) (h : Hp) : EX d 171 5 [(0, .inr (.inr a0)), (1, .inl x1)] [] h = if sK h a0 = 11 then bak (EX d 171) 10 [(0, .inr (.inr a0)), (1, .inl x1)] [] false (cal d 164 [.inr (.inr a0), .inl x1] h) else none := (EX_at bk_Mod_perform_5 _ _ _).trans rfl
theorem bk_Mod_perform_10 : blk 171 10 = some (((cd_Mod_perform.lookup 10).getD ([], 0, []))) := rfl
theorem Mod_perform_10 (d : Nat) (a0 : Nat) (x1 : Int) (s0 : Int) (h : Hp) : EX d 171 10 [(0, .inr (.inr a0)), (1, .inl x1)] [.inl s0] h = if (wr s0) = 0 then EX d 171 17 [(0, .inr (.inr a0)), (1, .inl x1)] [] h else EX d 171 15 [(2, .inl s0)] [] h := (EX_at bk_Mod_perform_10 _ _ _).trans rfl
theorem bk_Mod_perform_15 : blk 171 15 = some (((cd_Mod_perform.lookup 15).getD ([], 0, []))) := rfl
theorem Mod_perform_15 (d : Nat) (x2 : Int) (h : Hp) : EX d 171 15 [(2, .inl x2)] [] h = some (.inl x2, h) := (EX_at bk_Mod_perform_15 _ _ _).trans rfl
theorem bk_Mod_perform_17 : blk 171 17 = some (((cd_Mod_perform.lookup 17).getD ([], 0, []))) := rfl
theorem Mod_perform_17 (d : Nat) (a0 : Nat) (x1 : Int) (h : Hp) : EX d 171 17 [(0, .inr (.inr a0)), (1, .inl x1)] [] h = if sK h a0 = 11 then bak (EX d 171) 21 [(0, .inr (.inr a0)), (1, .inl x1)] [] true (cal d 139 [.inr (.inr a0)] h) else none := (EX_at bk_Mod_perform_17 _ _ _).trans rfl
theorem bk_Mod_perform_21 : blk 171 21 = some (((cd_Mod_perform.lookup 21).getD ([], 0, []))) := rfl
theorem Mod_perform_21 (d : Nat) (a0 : Nat) (x1 : Int) (h : Hp) : EX d 171 21 [(0, .inr (.inr a0)), (1, .inl x1)] [] h = if sK h a0 = 11 then bak (EX d 171) 26 [(0, .inr (.inr a0))] [] false (cal d 166 [.inr (.inr a0), .inl x1] h) else none := (EX_at bk_Mod_perform_21 _ _ _).trans rfl
theorem bk_Mod_perform_26 : blk 171 26 = some (((cd_Mod_perform.lookup 26).getD ([], 0, []))) := rfl
theorem Mod_perform_26 (d : Nat) (a0 : Nat) (s0 : Int) (h : Hp) : EX d 171 26 [(0, .inr (.inr a0))] [.inl s0] h = if 0 < (wr s0) then EX d 171 31 [(0, .inr (.inr a0)), (3, .inl s0)] [] h else EX d 171 35 [(3, .inl s0)] [] h := (EX_at bk_Mod_perform_26 _ _ _).trans rfl
theorem bk_Mod_perform_31 : blk 171 31 = some (((cd_Mod_perform.lookup 31).getD ([], 0, []))) := rfl
theorem Mod_perform_31 (d : Nat) (a0 : Nat) (x3 : Int) (h : Hp) : EX d 171 31 [(0, .inr (.inr a0)), (3, .inl x3)] [] h = if sK h a0 = 11 then bak (EX d 171) 35 [(3, .inl x3)] [] true (cal d 144 [.inr (.inr a0)] h) else none := (EX_at bk_Mod_perform_31 _ _ _).trans rfl
theorem bk_Mod_perform_35 : blk 171 35 = some (((cd_Mod_perform.lookup 35).getD ([], 0, []))) := rfl
theorem Mod_perform_35 (d : Nat) (x3 : Int) (h : Hp) : EX d 171 35 [(3, .inl x3)] [] h = some (.inl x3, h) := (EX_at bk_Mod_perform_35 _ _ _).trans rfl
/-! draw(I)I of HookOverModel: method 175 -/
theorem bk_Mod_draw_0 : blk 175 0 = some (((cd_Mod_draw.lookup 0).getD ([], 0, []))) := rfl
theorem Mod_draw_0 (d : Nat) (a0 : Nat) (x1 : Int) (h : Hp) : EX d 175 0 [(0, .inr (.inr a0)), (1, .inl x1)] [] h = if sK h a0 = 11 then if sK h a0 = 11 then EX d 175 16 [(0, .inr (.inr a0)), (1, .inl x1)] [] (pI h a0 18 ((1103515245 * (hI h a0 18)) + 12345)) else none else none := (EX_at bk_Mod_draw_0 _ _ _).trans rfl
theorem bk_Mod_draw_16 : blk 175 16 = some (((cd_Mod_draw.lookup 16).getD ([], 0, []))) := rfl
theorem Mod_draw_16 (d : Nat) (a0 : Nat) (x1 : Int) (h : Hp) : EX d 175 16 [(0, .inr (.inr a0)), (1, .inl x1)] [] h = if sK h a0 = 11 then if (wr x1) = 0 then none else some (.inl (bRem (bUshr (hI h a0 18) 16) x1), h) else none := (EX_at bk_Mod_draw_16 _ _ _).trans rfl
/-! day(II)I of HookOverModel: method 176 -/
theorem bk_Mod_day_0 : blk 176 0 = some (((cd_Mod_day.lookup 0).getD ([], 0, []))) := rfl
theorem Mod_day_0 (d : Nat) (a0 : Nat) (x1 : Int) (x2 : Int) (h : Hp) : EX d 176 0 [(0, .inr (.inr a0)), (1, .inl x1), (2, .inl x2)] [] h = if sK h a0 = 11 then EX d 176 5 [(0, .inr (.inr a0)), (1, .inl x1), (2, .inl x2)] [] (pI h a0 0 0) else none := (EX_at bk_Mod_day_0 _ _ _).trans rfl
theorem bk_Mod_day_5 : blk 176 5 = some (((cd_Mod_day.lookup 5).getD ([], 0, []))) := rfl
theorem Mod_day_5 (d : Nat) (a0 : Nat) (x1 : Int) (x2 : Int) (h : Hp) : EX d 176 5 [(0, .inr (.inr a0)), (1, .inl x1), (2, .inl x2)] [] h = bak (EX d 176) 14 [(0, .inr (.inr a0)), (1, .inl x1), (2, .inl x2)] [] false (cal d 73 [.inr (.inl (wr x2)), .inr (.inl 1), .inr (.inl 60)] h) := (EX_at bk_Mod_day_5 _ _ _).trans rfl
theorem bk_Mod_day_14 : blk 176 14 = some (((cd_Mod_day.lookup 14).getD ([], 0, []))) := rfl
theorem Mod_day_14 (d : Nat) (a0 : Nat) (x1 : Int) (x2 : Int) (s0 : Int) (h : Hp) : EX d 176 14 [(0, .inr (.inr a0)), (1, .inl x1), (2, .inl x2)] [.inl s0] h = if (wr s0) = 0 then EX d 176 17 [] [] h else EX d 176 20 [(0, .inr (.inr a0)), (1, .inl x1), (2, .inl x2)] [] h := (EX_at bk_Mod_day_14 _ _ _).trans rfl
theorem bk_Mod_day_17 : blk 176 17 = some (((cd_Mod_day.lookup 17).getD ([], 0, []))) := rfl
theorem Mod_day_17 (d : Nat) (h : Hp) : EX d 176 17 [] [] h = some (.inl (-3), h) := (EX_at bk_Mod_day_17 _ _ _).trans rfl
theorem bk_Mod_day_20 : blk 176 20 = some (((cd_Mod_day.lookup 20).getD ([], 0, []))) := rfl
theorem Mod_day_20 (d : Nat) (a0 : Nat) (x1 : Int) (x2 : Int) (h : Hp) : EX d 176 20 [(0, .inr (.inr a0)), (1, .inl x1), (2, .inl x2)] [] h = if sK h a0 = 11 then if okx h (hR h a0 1) 20 1 then if (wr (hI h (hR h a0 1) 1)) = 0 then EX d 176 38 [] [] h else EX d 176 29 [(0, .inr (.inr a0)), (1, .inl x1), (2, .inl x2)] [] h else none else none := (EX_at bk_Mod_day_20 _ _ _).trans rfl
theorem bk_Mod_day_29 : blk 176 29 = some (((cd_Mod_day.lookup 29).getD ([], 0, []))) := rfl
theorem Mod_day_29 (d : Nat) (a0 : Nat) (x1 : Int) (x2 : Int) (h : Hp) : EX d 176 29 [(0, .inr (.inr a0)), (1, .inl x1), (2, .inl x2)] [] h = if sK h a0 = 11 then if okx h (hR h a0 1) 20 2 then if (wr (hI h (hR h a0 1) 2)) = 0 then EX d 176 38 [] [] h else EX d 176 41 [(0, .inr (.inr a0)), (1, .inl x1), (2, .inl x2)] [] h else none else none := (EX_at bk_Mod_day_29 _ _ _).trans rfl
theorem bk_Mod_day_38 : blk 176 38 = some (((cd_Mod_day.lookup 38).getD ([], 0, []))) := rfl
theorem Mod_day_38 (d : Nat) (h : Hp) : EX d 176 38 [] [] h = some (.inl (-5), h) := (EX_at bk_Mod_day_38 _ _ _).trans rfl
theorem bk_Mod_day_41 : blk 176 41 = some (((cd_Mod_day.lookup 41).getD ([], 0, []))) := rfl
theorem Mod_day_41 (d : Nat) (a0 : Nat) (x1 : Int) (x2 : Int) (h : Hp) : EX d 176 41 [(0, .inr (.inr a0)), (1, .inl x1), (2, .inl x2)] [] h = if sK h a0 = 11 then bak (EX d 176) 45 [(0, .inr (.inr a0)), (1, .inl x1), (2, .inl x2)] [] true (cal d 139 [.inr (.inr a0)] h) else none := (EX_at bk_Mod_day_41 _ _ _).trans rfl
theorem bk_Mod_day_45 : blk 176 45 = some (((cd_Mod_day.lookup 45).getD ([], 0, []))) := rfl
theorem Mod_day_45 (d : Nat) (a0 : Nat) (x1 : Int) (x2 : Int) (h : Hp) : EX d 176 45 [(0, .inr (.inr a0)), (1, .inl x1), (2, .inl x2)] [] h = if sK h a0 = 11 then EX d 176 50 [(0, .inr (.inr a0)), (2, .inl x2)] [] (pI h a0 18 x1) else none := (EX_at bk_Mod_day_45 _ _ _).trans rfl
theorem bk_Mod_day_50 : blk 176 50 = some (((cd_Mod_day.lookup 50).getD ([], 0, []))) := rfl
theorem Mod_day_50 (d : Nat) (a0 : Nat) (x2 : Int) (h : Hp) : EX d 176 50 [(0, .inr (.inr a0)), (2, .inl x2)] [] h = EX d 176 55 [(0, .inr (.inr a0)), (2, .inl x2), (3, .inl 0), (4, .inl 0)] [] h := (EX_at bk_Mod_day_50 _ _ _).trans rfl
theorem bk_Mod_day_55 : blk 176 55 = some (((cd_Mod_day.lookup 55).getD ([], 0, []))) := rfl
theorem Mod_day_55 (d : Nat) (a0 : Nat) (x2 : Int) (x3 : Int) (x4 : Int) (h : Hp) : EX d 176 55 [(0, .inr (.inr a0)), (2, .inl x2), (3, .inl x3), (4, .inl x4)] [] h = if (wr x4) < (wr x2) then EX d 176 61 [(0, .inr (.inr a0)), (2, .inl x2), (3, .inl x3), (4, .inl x4)] [] h else EX d 176 155 [(0, .inr (.inr a0)), (3, .inl x3)] [] h := (EX_at bk_Mod_day_55 _ _ _).trans rfl
theorem bk_Mod_day_61 : blk 176 61 = some (((cd_Mod_day.lookup 61).getD ([], 0, []))) := rfl
theorem Mod_day_61 (d : Nat) (a0 : Nat) (x2 : Int) (x3 : Int) (x4 : Int) (h : Hp) : EX d 176 61 [(0, .inr (.inr a0)), (2, .inl x2), (3, .inl x3), (4, .inl x4)] [] h = if sK h a0 = 11 then if okx h (hR h a0 1) 20 1 then if sK h a0 = 11 then bak (EX d 176) 71 [(0, .inr (.inr a0)), (2, .inl x2), (3, .inl x3), (4, .inl x4)] [] false (cal d 175 [.inr (.inr a0), .inl (hI h (hR h a0 1) 1)] h) else none else none else none := (EX_at bk_Mod_day_61 _ _ _).trans rfl
theorem bk_Mod_day_71 : blk 176 71 = some (((cd_Mod_day.lookup 71).getD ([], 0, []))) := rfl
theorem Mod_day_71 (d : Nat) (a0 : Nat) (x2 : Int) (x3 : Int) (x4 : Int) (s0 : Int) (h : Hp) : EX d 176 71 [(0, .inr (.inr a0)), (2, .inl x2), (3, .inl x3), (4, .inl x4)] [.inl s0] h = if sK h a0 = 11 then if okx h (hR h a0 1) 20 (61 + s0) then if (wr (hI h (hR h a0 1) (ix (61 + s0)))) = (-1) then EX d 176 91 [(0, .inr (.inr a0)), (2, .inl x2), (3, .inl x3), (4, .inl x4), (5, .inl s0)] [] h else EX d 176 87 [(0, .inr (.inr a0)), (2, .inl x2), (3, .inl x3), (4, .inl x4), (5, .inl s0)] [] h else none else none := (EX_at bk_Mod_day_71 _ _ _).trans rfl
theorem bk_Mod_day_87 : blk 176 87 = some (((cd_Mod_day.lookup 87).getD ([], 0, []))) := rfl
theorem Mod_day_87 (d : Nat) (a0 : Nat) (x2 : Int) (x3 : Int) (x4 : Int) (x5 : Int) (h : Hp) : EX d 176 87 [(0, .inr (.inr a0)), (2, .inl x2), (3, .inl x3), (4, .inl x4), (5, .inl x5)] [] h = EX d 176 101 [(0, .inr (.inr a0)), (2, .inl x2), (3, .inl x3), (4, .inl x4), (5, .inl x5)] [.inl (-1)] h := (EX_at bk_Mod_day_87 _ _ _).trans rfl
theorem bk_Mod_day_91 : blk 176 91 = some (((cd_Mod_day.lookup 91).getD ([], 0, []))) := rfl
theorem Mod_day_91 (d : Nat) (a0 : Nat) (x2 : Int) (x3 : Int) (x4 : Int) (x5 : Int) (h : Hp) : EX d 176 91 [(0, .inr (.inr a0)), (2, .inl x2), (3, .inl x3), (4, .inl x4), (5, .inl x5)] [] h = if sK h a0 = 11 then if okx h (hR h a0 1) 20 2 then if sK h a0 = 11 then bak (EX d 176) 101 [(0, .inr (.inr a0)), (2, .inl x2), (3, .inl x3), (4, .inl x4), (5, .inl x5)] [] false (cal d 175 [.inr (.inr a0), .inl (hI h (hR h a0 1) 2)] h) else none else none else none := (EX_at bk_Mod_day_91 _ _ _).trans rfl
theorem bk_Mod_day_101 : blk 176 101 = some (((cd_Mod_day.lookup 101).getD ([], 0, []))) := rfl
theorem Mod_day_101 (d : Nat) (a0 : Nat) (x2 : Int) (x3 : Int) (x4 : Int) (x5 : Int) (s0 : Int) (h : Hp) : EX d 176 101 [(0, .inr (.inr a0)), (2, .inl x2), (3, .inl x3), (4, .inl x4), (5, .inl x5)] [.inl s0] h = if (wr s0) = (-1) then EX d 176 109 [(0, .inr (.inr a0)), (2, .inl x2), (3, .inl x3), (4, .inl x4), (5, .inl x5)] [] h else EX d 176 118 [(0, .inr (.inr a0)), (2, .inl x2), (3, .inl x3), (4, .inl x4), (5, .inl x5), (6, .inl s0)] [] h := (EX_at bk_Mod_day_101 _ _ _).trans rfl
theorem bk_Mod_day_109 : blk 176 109 = some (((cd_Mod_day.lookup 109).getD ([], 0, []))) := rfl
theorem Mod_day_109 (d : Nat) (a0 : Nat) (x2 : Int) (x3 : Int) (x4 : Int) (x5 : Int) (h : Hp) : EX d 176 109 [(0, .inr (.inr a0)), (2, .inl x2), (3, .inl x3), (4, .inl x4), (5, .inl x5)] [] h = if sK h a0 = 11 then bak (EX d 176) 115 [(0, .inr (.inr a0)), (2, .inl x2), (3, .inl x3), (4, .inl x4)] [] true (cal d 150 [.inr (.inr a0), .inl x5] h) else none := (EX_at bk_Mod_day_109 _ _ _).trans rfl
theorem bk_Mod_day_115 : blk 176 115 = some (((cd_Mod_day.lookup 115).getD ([], 0, []))) := rfl
theorem Mod_day_115 (d : Nat) (a0 : Nat) (x2 : Int) (x3 : Int) (x4 : Int) (h : Hp) : EX d 176 115 [(0, .inr (.inr a0)), (2, .inl x2), (3, .inl x3), (4, .inl x4)] [] h = EX d 176 146 [(0, .inr (.inr a0)), (2, .inl x2), (3, .inl x3), (4, .inl x4)] [] h := (EX_at bk_Mod_day_115 _ _ _).trans rfl
theorem bk_Mod_day_118 : blk 176 118 = some (((cd_Mod_day.lookup 118).getD ([], 0, []))) := rfl
theorem Mod_day_118 (d : Nat) (a0 : Nat) (x2 : Int) (x3 : Int) (x4 : Int) (x5 : Int) (x6 : Int) (h : Hp) : EX d 176 118 [(0, .inr (.inr a0)), (2, .inl x2), (3, .inl x3), (4, .inl x4), (5, .inl x5), (6, .inl x6)] [] h = if sK h a0 = 11 then bak (EX d 176) 129 [(0, .inr (.inr a0)), (2, .inl x2), (3, .inl x3), (4, .inl x4), (5, .inl x5), (6, .inl x6)] [] false (cal d 100 [.inr (.inr (hR h a0 1)), .inl x5, .inl x6] h) else none := (EX_at bk_Mod_day_118 _ _ _).trans rfl
theorem bk_Mod_day_129 : blk 176 129 = some (((cd_Mod_day.lookup 129).getD ([], 0, []))) := rfl
theorem Mod_day_129 (d : Nat) (a0 : Nat) (x2 : Int) (x3 : Int) (x4 : Int) (x5 : Int) (x6 : Int) (s0 : Int) (h : Hp) : EX d 176 129 [(0, .inr (.inr a0)), (2, .inl x2), (3, .inl x3), (4, .inl x4), (5, .inl x5), (6, .inl x6)] [.inl s0] h = if (wr s0) = 0 then EX d 176 132 [(0, .inr (.inr a0)), (2, .inl x2), (3, .inl x3), (4, .inl x4), (5, .inl x5), (6, .inl x6)] [] h else EX d 176 143 [(0, .inr (.inr a0)), (2, .inl x2), (3, .inl x3), (4, .inl x4)] [] h := (EX_at bk_Mod_day_129 _ _ _).trans rfl
theorem bk_Mod_day_132 : blk 176 132 = some (((cd_Mod_day.lookup 132).getD ([], 0, []))) := rfl
theorem Mod_day_132 (d : Nat) (a0 : Nat) (x2 : Int) (x3 : Int) (x4 : Int) (x5 : Int) (x6 : Int) (h : Hp) : EX d 176 132 [(0, .inr (.inr a0)), (2, .inl x2), (3, .inl x3), (4, .inl x4), (5, .inl x5), (6, .inl x6)] [] h = if sK h a0 = 11 then bak (EX d 176) 140 [(0, .inr (.inr a0)), (2, .inl x2), (3, .inl x3), (4, .inl x4)] [] true (cal d 143 [.inr (.inr a0), .inl x5, .inl x6] h) else none := (EX_at bk_Mod_day_132 _ _ _).trans rfl
theorem bk_Mod_day_140 : blk 176 140 = some (((cd_Mod_day.lookup 140).getD ([], 0, []))) := rfl
theorem Mod_day_140 (d : Nat) (a0 : Nat) (x2 : Int) (x3 : Int) (x4 : Int) (h : Hp) : EX d 176 140 [(0, .inr (.inr a0)), (2, .inl x2), (3, .inl x3), (4, .inl x4)] [] h = EX d 176 146 [(0, .inr (.inr a0)), (2, .inl x2), (3, .inl x3), (4, .inl x4)] [] h := (EX_at bk_Mod_day_140 _ _ _).trans rfl
theorem bk_Mod_day_143 : blk 176 143 = some (((cd_Mod_day.lookup 143).getD ([], 0, []))) := rfl
theorem Mod_day_143 (d : Nat) (a0 : Nat) (x2 : Int) (x3 : Int) (x4 : Int) (h : Hp) : EX d 176 143 [(0, .inr (.inr a0)), (2, .inl x2), (3, .inl x3), (4, .inl x4)] [] h = EX d 176 146 [(0, .inr (.inr a0)), (2, .inl x2), (3, .inl (x3 + (-1))), (4, .inl x4)] [] h := (EX_at bk_Mod_day_143 _ _ _).trans rfl
theorem bk_Mod_day_146 : blk 176 146 = some (((cd_Mod_day.lookup 146).getD ([], 0, []))) := rfl
theorem Mod_day_146 (d : Nat) (a0 : Nat) (x2 : Int) (x3 : Int) (x4 : Int) (h : Hp) : EX d 176 146 [(0, .inr (.inr a0)), (2, .inl x2), (3, .inl x3), (4, .inl x4)] [] h = EX d 176 55 [(0, .inr (.inr a0)), (2, .inl x2), (3, .inl (x3 + 1)), (4, .inl (x4 + 1))] [] h := (EX_at bk_Mod_day_146 _ _ _).trans rfl
theorem bk_Mod_day_155 : blk 176 155 = some (((cd_Mod_day.lookup 155).getD ([], 0, []))) := rfl
theorem Mod_day_155 (d : Nat) (a0 : Nat) (x3 : Int) (h : Hp) : EX d 176 155 [(0, .inr (.inr a0)), (3, .inl x3)] [] h = if 0 < (wr x3) then EX d 176 159 [(0, .inr (.inr a0)), (3, .inl x3)] [] h else EX d 176 163 [(3, .inl x3)] [] h := (EX_at bk_Mod_day_155 _ _ _).trans rfl
theorem bk_Mod_day_159 : blk 176 159 = some (((cd_Mod_day.lookup 159).getD ([], 0, []))) := rfl
theorem Mod_day_159 (d : Nat) (a0 : Nat) (x3 : Int) (h : Hp) : EX d 176 159 [(0, .inr (.inr a0)), (3, .inl x3)] [] h = if sK h a0 = 11 then bak (EX d 176) 163 [(3, .inl x3)] [] true (cal d 144 [.inr (.inr a0)] h) else none := (EX_at bk_Mod_day_159 _ _ _).trans rfl
theorem bk_Mod_day_163 : blk 176 163 = some (((cd_Mod_day.lookup 163).getD ([], 0, []))) := rfl
theorem Mod_day_163 (d : Nat) (x3 : Int) (h : Hp) : EX d 176 163 [(3, .inl x3)] [] h = some (.inl x3, h) := (EX_at bk_Mod_day_163 _ _ _).trans rfl
/-! undoing(I)I of HookOverModel: method 179 -/
theorem bk_Mod_undoing_0 : blk 179 0 = some (((cd_Mod_undoing.lookup 0).getD ([], 0, []))) := rfl
theorem Mod_undoing_0 (d : Nat) (a0 : Nat) (x1 : Int) (h : Hp) : EX d 179 0 [(0, .inr (.inr a0)), (1, .inl x1)] [] h = if sK h a0 = 11 then EX d 179 5 [(0, .inr (.inr a0)), (1, .inl x1)] [] (pI h a0 0 0) else none := (EX_at bk_Mod_undoing_0 _ _ _).trans rfl
theorem bk_Mod_undoing_5 : blk 179 5 = some (((cd_Mod_undoing.lookup 5).getD ([], 0, []))) := rfl
theorem Mod_undoing_5 (d : Nat) (a0 : Nat) (x1 : Int) (h : Hp) : EX d 179 5 [(0, .inr (.inr a0)), (1, .inl x1)] [] h = EX d 179 7 [(0, .inr (.inr a0)), (1, .inl x1), (2, .inl 0)] [] h := (EX_at bk_Mod_undoing_5 _ _ _).trans rfl
theorem bk_Mod_undoing_7 : blk 179 7 = some (((cd_Mod_undoing.lookup 7).getD ([], 0, []))) := rfl
theorem Mod_undoing_7 (d : Nat) (a0 : Nat) (x1 : Int) (x2 : Int) (h : Hp) : EX d 179 7 [(0, .inr (.inr a0)), (1, .inl x1), (2, .inl x2)] [] h = if (wr x2) < 32 then EX d 179 13 [(0, .inr (.inr a0)), (1, .inl x1), (2, .inl x2)] [] h else EX d 179 56 [(0, .inr (.inr a0)), (1, .inl x1)] [] h := (EX_at bk_Mod_undoing_7 _ _ _).trans rfl
theorem bk_Mod_undoing_13 : blk 179 13 = some (((cd_Mod_undoing.lookup 13).getD ([], 0, []))) := rfl
theorem Mod_undoing_13 (d : Nat) (a0 : Nat) (x1 : Int) (x2 : Int) (h : Hp) : EX d 179 13 [(0, .inr (.inr a0)), (1, .inl x1), (2, .inl x2)] [] h = bak (EX d 179) 23 [(0, .inr (.inr a0)), (1, .inl x1), (2, .inl x2)] [] false (cal d 98 [.inr (.inl (lAnd (wr x1) 4294967295)), .inl x2] h) := (EX_at bk_Mod_undoing_13 _ _ _).trans rfl
theorem bk_Mod_undoing_23 : blk 179 23 = some (((cd_Mod_undoing.lookup 23).getD ([], 0, []))) := rfl
theorem Mod_undoing_23 (d : Nat) (a0 : Nat) (x1 : Int) (x2 : Int) (s0 : Int) (h : Hp) : EX d 179 23 [(0, .inr (.inr a0)), (1, .inl x1), (2, .inl x2)] [.inl s0] h = if (wr s0) = 0 then EX d 179 50 [(0, .inr (.inr a0)), (1, .inl x1), (2, .inl x2)] [] h else EX d 179 26 [(0, .inr (.inr a0)), (1, .inl x1), (2, .inl x2)] [] h := (EX_at bk_Mod_undoing_23 _ _ _).trans rfl
theorem bk_Mod_undoing_26 : blk 179 26 = some (((cd_Mod_undoing.lookup 26).getD ([], 0, []))) := rfl
theorem Mod_undoing_26 (d : Nat) (a0 : Nat) (x1 : Int) (x2 : Int) (h : Hp) : EX d 179 26 [(0, .inr (.inr a0)), (1, .inl x1), (2, .inl x2)] [] h = if sK h a0 = 11 then bak (EX d 179) 31 [(0, .inr (.inr a0)), (1, .inl x1), (2, .inl x2)] [] false (cal d 110 [.inr (.inr a0), .inl x2] h) else none := (EX_at bk_Mod_undoing_26 _ _ _).trans rfl
theorem bk_Mod_undoing_31 : blk 179 31 = some (((cd_Mod_undoing.lookup 31).getD ([], 0, []))) := rfl
theorem Mod_undoing_31 (d : Nat) (a0 : Nat) (x1 : Int) (x2 : Int) (s0 : Int) (h : Hp) : EX d 179 31 [(0, .inr (.inr a0)), (1, .inl x1), (2, .inl x2)] [.inl s0] h = if (wr s0) = 0 then EX d 179 47 [] [] h else EX d 179 34 [(0, .inr (.inr a0)), (1, .inl x1), (2, .inl x2)] [] h := (EX_at bk_Mod_undoing_31 _ _ _).trans rfl
theorem bk_Mod_undoing_34 : blk 179 34 = some (((cd_Mod_undoing.lookup 34).getD ([], 0, []))) := rfl
theorem Mod_undoing_34 (d : Nat) (a0 : Nat) (x1 : Int) (x2 : Int) (h : Hp) : EX d 179 34 [(0, .inr (.inr a0)), (1, .inl x1), (2, .inl x2)] [] h = if sK h a0 = 11 then if okx h (hR h a0 1) 20 (61 + x2) then if (wr (hI h (hR h a0 1) (ix (61 + x2)))) = (-1) then EX d 179 47 [] [] h else EX d 179 50 [(0, .inr (.inr a0)), (1, .inl x1), (2, .inl x2)] [] h else none else none := (EX_at bk_Mod_undoing_34 _ _ _).trans rfl
theorem bk_Mod_undoing_47 : blk 179 47 = some (((cd_Mod_undoing.lookup 47).getD ([], 0, []))) := rfl
theorem Mod_undoing_47 (d : Nat) (h : Hp) : EX d 179 47 [] [] h = some (.inl (-3), h) := (EX_at bk_Mod_undoing_47 _ _ _).trans rfl
theorem bk_Mod_undoing_50 : blk 179 50 = some (((cd_Mod_undoing.lookup 50).getD ([], 0, []))) := rfl
theorem Mod_undoing_50 (d : Nat) (a0 : Nat) (x1 : Int) (x2 : Int) (h : Hp) : EX d 179 50 [(0, .inr (.inr a0)), (1, .inl x1), (2, .inl x2)] [] h = EX d 179 7 [(0, .inr (.inr a0)), (1, .inl x1), (2, .inl (x2 + 1))] [] h := (EX_at bk_Mod_undoing_50 _ _ _).trans rfl
theorem bk_Mod_undoing_56 : blk 179 56 = some (((cd_Mod_undoing.lookup 56).getD ([], 0, []))) := rfl
theorem Mod_undoing_56 (d : Nat) (a0 : Nat) (x1 : Int) (h : Hp) : EX d 179 56 [(0, .inr (.inr a0)), (1, .inl x1)] [] h = if sK h a0 = 11 then bak (EX d 179) 60 [(0, .inr (.inr a0)), (1, .inl x1)] [] true (cal d 139 [.inr (.inr a0)] h) else none := (EX_at bk_Mod_undoing_56 _ _ _).trans rfl
theorem bk_Mod_undoing_60 : blk 179 60 = some (((cd_Mod_undoing.lookup 60).getD ([], 0, []))) := rfl
theorem Mod_undoing_60 (d : Nat) (a0 : Nat) (x1 : Int) (h : Hp) : EX d 179 60 [(0, .inr (.inr a0)), (1, .inl x1)] [] h = EX d 179 64 [(0, .inr (.inr a0)), (1, .inl x1), (2, .inl 0), (3, .inl 0)] [] h := (EX_at bk_Mod_undoing_60 _ _ _).trans rfl
theorem bk_Mod_undoing_64 : blk 179 64 = some (((cd_Mod_undoing.lookup 64).getD ([], 0, []))) := rfl
theorem Mod_undoing_64 (d : Nat) (a0 : Nat) (x1 : Int) (x2 : Int) (x3 : Int) (h : Hp) : EX d 179 64 [(0, .inr (.inr a0)), (1, .inl x1), (2, .inl x2), (3, .inl x3)] [] h = if (wr x3) < 2 then EX d 179 69 [(0, .inr (.inr a0)), (1, .inl x1), (2, .inl x2), (3, .inl x3)] [] h else EX d 179 170 [(2, .inl x2)] [] h := (EX_at bk_Mod_undoing_64 _ _ _).trans rfl
theorem bk_Mod_undoing_69 : blk 179 69 = some (((cd_Mod_undoing.lookup 69).getD ([], 0, []))) := rfl
theorem Mod_undoing_69 (d : Nat) (a0 : Nat) (x1 : Int) (x2 : Int) (x3 : Int) (h : Hp) : EX d 179 69 [(0, .inr (.inr a0)), (1, .inl x1), (2, .inl x2), (3, .inl x3)] [] h = EX d 179 72 [(0, .inr (.inr a0)), (1, .inl x1), (2, .inl x2), (3, .inl x3), (4, .inl 0)] [] h := (EX_at bk_Mod_undoing_69 _ _ _).trans rfl
theorem bk_Mod_undoing_72 : blk 179 72 = some (((cd_Mod_undoing.lookup 72).getD ([], 0, []))) := rfl
theorem Mod_undoing_72 (d : Nat) (a0 : Nat) (x1 : Int) (x2 : Int) (x3 : Int) (x4 : Int) (h : Hp) : EX d 179 72 [(0, .inr (.inr a0)), (1, .inl x1), (2, .inl x2), (3, .inl x3), (4, .inl x4)] [] h = if sK h a0 = 11 then if okx h (hR h a0 1) 20 1 then if (wr x4) < (wr (hI h (hR h a0 1) 1)) then EX d 179 83 [(0, .inr (.inr a0)), (1, .inl x1), (2, .inl x2), (3, .inl x3), (4, .inl x4)] [] h else EX d 179 127 [(0, .inr (.inr a0)), (1, .inl x1), (2, .inl x2), (3, .inl x3)] [] h else none else none := (EX_at bk_Mod_undoing_72 _ _ _).trans rfl
theorem bk_Mod_undoing_83 : blk 179 83 = some (((cd_Mod_undoing.lookup 83).getD ([], 0, []))) := rfl
theorem Mod_undoing_83 (d : Nat) (a0 : Nat) (x1 : Int) (x2 : Int) (x3 : Int) (x4 : Int) (h : Hp) : EX d 179 83 [(0, .inr (.inr a0)), (1, .inl x1), (2, .inl x2), (3, .inl x3), (4, .inl x4)] [] h = if (wr x3) = 0 then EX d 179 87 [(0, .inr (.inr a0)), (1, .inl x1), (2, .inl x2), (3, .inl x3), (4, .inl x4)] [] h else EX d 179 92 [(0, .inr (.inr a0)), (1, .inl x1), (2, .inl x2), (3, .inl x3), (4, .inl x4)] [] h := (EX_at bk_Mod_undoing_83 _ _ _).trans rfl
theorem bk_Mod_undoing_87 : blk 179 87 = some (((cd_Mod_undoing.lookup 87).getD ([], 0, []))) := rfl
theorem Mod_undoing_87 (d : Nat) (a0 : Nat) (x1 : Int) (x2 : Int) (x3 : Int) (x4 : Int) (h : Hp) : EX d 179 87 [(0, .inr (.inr a0)), (1, .inl x1), (2, .inl x2), (3, .inl x3), (4, .inl x4)] [] h = EX d 179 103 [(0, .inr (.inr a0)), (1, .inl x1), (2, .inl x2), (3, .inl x3), (4, .inl x4)] [.inl x4] h := (EX_at bk_Mod_undoing_87 _ _ _).trans rfl
theorem bk_Mod_undoing_92 : blk 179 92 = some (((cd_Mod_undoing.lookup 92).getD ([], 0, []))) := rfl
theorem Mod_undoing_92 (d : Nat) (a0 : Nat) (x1 : Int) (x2 : Int) (x3 : Int) (x4 : Int) (h : Hp) : EX d 179 92 [(0, .inr (.inr a0)), (1, .inl x1), (2, .inl x2), (3, .inl x3), (4, .inl x4)] [] h = if sK h a0 = 11 then if okx h (hR h a0 1) 20 1 then EX d 179 103 [(0, .inr (.inr a0)), (1, .inl x1), (2, .inl x2), (3, .inl x3), (4, .inl x4)] [.inl (((hI h (hR h a0 1) 1) - 1) - x4)] h else none else none := (EX_at bk_Mod_undoing_92 _ _ _).trans rfl
theorem bk_Mod_undoing_103 : blk 179 103 = some (((cd_Mod_undoing.lookup 103).getD ([], 0, []))) := rfl
theorem Mod_undoing_103 (d : Nat) (a0 : Nat) (x1 : Int) (x2 : Int) (x3 : Int) (x4 : Int) (s0 : Int) (h : Hp) : EX d 179 103 [(0, .inr (.inr a0)), (1, .inl x1), (2, .inl x2), (3, .inl x3), (4, .inl x4)] [.inl s0] h = bak (EX d 179) 112 [(0, .inr (.inr a0)), (1, .inl x1), (2, .inl x2), (3, .inl x3), (4, .inl x4), (5, .inl s0)] [] false (cal d 98 [.inr (.inl (wr x1)), .inl s0] h) := (EX_at bk_Mod_undoing_103 _ _ _).trans rfl
theorem bk_Mod_undoing_112 : blk 179 112 = some (((cd_Mod_undoing.lookup 112).getD ([], 0, []))) := rfl
theorem Mod_undoing_112 (d : Nat) (a0 : Nat) (x1 : Int) (x2 : Int) (x3 : Int) (x4 : Int) (x5 : Int) (s0 : Int) (h : Hp) : EX d 179 112 [(0, .inr (.inr a0)), (1, .inl x1), (2, .inl x2), (3, .inl x3), (4, .inl x4), (5, .inl x5)] [.inl s0] h = if (wr s0) = 0 then EX d 179 121 [(0, .inr (.inr a0)), (1, .inl x1), (2, .inl x2), (3, .inl x3), (4, .inl x4)] [] h else EX d 179 115 [(0, .inr (.inr a0)), (1, .inl x1), (2, .inl x2), (3, .inl x3), (4, .inl x4), (5, .inl x5)] [] h := (EX_at bk_Mod_undoing_112 _ _ _).trans rfl
theorem bk_Mod_undoing_115 : blk 179 115 = some (((cd_Mod_undoing.lookup 115).getD ([], 0, []))) := rfl
theorem Mod_undoing_115 (d : Nat) (a0 : Nat) (x1 : Int) (x2 : Int) (x3 : Int) (x4 : Int) (x5 : Int) (h : Hp) : EX d 179 115 [(0, .inr (.inr a0)), (1, .inl x1), (2, .inl x2), (3, .inl x3), (4, .inl x4), (5, .inl x5)] [] h = if sK h a0 = 11 then bak (EX d 179) 121 [(0, .inr (.inr a0)), (1, .inl x1), (2, .inl x2), (3, .inl x3), (4, .inl x4)] [] true (cal d 150 [.inr (.inr a0), .inl x5] h) else none := (EX_at bk_Mod_undoing_115 _ _ _).trans rfl
theorem bk_Mod_undoing_121 : blk 179 121 = some (((cd_Mod_undoing.lookup 121).getD ([], 0, []))) := rfl
theorem Mod_undoing_121 (d : Nat) (a0 : Nat) (x1 : Int) (x2 : Int) (x3 : Int) (x4 : Int) (h : Hp) : EX d 179 121 [(0, .inr (.inr a0)), (1, .inl x1), (2, .inl x2), (3, .inl x3), (4, .inl x4)] [] h = EX d 179 72 [(0, .inr (.inr a0)), (1, .inl x1), (2, .inl x2), (3, .inl x3), (4, .inl (x4 + 1))] [] h := (EX_at bk_Mod_undoing_121 _ _ _).trans rfl
theorem bk_Mod_undoing_127 : blk 179 127 = some (((cd_Mod_undoing.lookup 127).getD ([], 0, []))) := rfl
theorem Mod_undoing_127 (d : Nat) (a0 : Nat) (x1 : Int) (x2 : Int) (x3 : Int) (h : Hp) : EX d 179 127 [(0, .inr (.inr a0)), (1, .inl x1), (2, .inl x2), (3, .inl x3)] [] h = if sK h a0 = 11 then if okx h (hR h a0 1) 20 60 then if sK h a0 = 11 then if okx h (hR h a0 16) 20 1 then if (wr x3) = 0 then EX d 179 153 [(0, .inr (.inr a0)), (1, .inl x1), (3, .inl x3), (4, .inl ((hI h (hR h a0 1) 60) - (hI h (hR h a0 16) 1)))] [] h else EX d 179 147 [(0, .inr (.inr a0)), (1, .inl x1), (2, .inl x2), (3, .inl x3), (4, .inl ((hI h (hR h a0 1) 60) - (hI h (hR h a0 16) 1)))] [] h else none else none else none else none := (EX_at bk_Mod_undoing_127 _ _ _).trans rfl
theorem bk_Mod_undoing_147 : blk 179 147 = some (((cd_Mod_undoing.lookup 147).getD ([], 0, []))) := rfl
theorem Mod_undoing_147 (d : Nat) (a0 : Nat) (x1 : Int) (x2 : Int) (x3 : Int) (x4 : Int) (h : Hp) : EX d 179 147 [(0, .inr (.inr a0)), (1, .inl x1), (2, .inl x2), (3, .inl x3), (4, .inl x4)] [] h = if (wr x4) < (wr x2) then EX d 179 153 [(0, .inr (.inr a0)), (1, .inl x1), (3, .inl x3), (4, .inl x4)] [] h else EX d 179 158 [(0, .inr (.inr a0)), (1, .inl x1), (2, .inl x2), (3, .inl x3)] [] h := (EX_at bk_Mod_undoing_147 _ _ _).trans rfl
theorem bk_Mod_undoing_153 : blk 179 153 = some (((cd_Mod_undoing.lookup 153).getD ([], 0, []))) := rfl
theorem Mod_undoing_153 (d : Nat) (a0 : Nat) (x1 : Int) (x3 : Int) (x4 : Int) (h : Hp) : EX d 179 153 [(0, .inr (.inr a0)), (1, .inl x1), (3, .inl x3), (4, .inl x4)] [] h = EX d 179 159 [(0, .inr (.inr a0)), (1, .inl x1), (3, .inl x3)] [.inl x4] h := (EX_at bk_Mod_undoing_153 _ _ _).trans rfl
theorem bk_Mod_undoing_158 : blk 179 158 = some (((cd_Mod_undoing.lookup 158).getD ([], 0, []))) := rfl
theorem Mod_undoing_158 (d : Nat) (a0 : Nat) (x1 : Int) (x2 : Int) (x3 : Int) (h : Hp) : EX d 179 158 [(0, .inr (.inr a0)), (1, .inl x1), (2, .inl x2), (3, .inl x3)] [] h = EX d 179 159 [(0, .inr (.inr a0)), (1, .inl x1), (3, .inl x3)] [.inl x2] h := (EX_at bk_Mod_undoing_158 _ _ _).trans rfl
theorem bk_Mod_undoing_159 : blk 179 159 = some (((cd_Mod_undoing.lookup 159).getD ([], 0, []))) := rfl
theorem Mod_undoing_159 (d : Nat) (a0 : Nat) (x1 : Int) (x3 : Int) (s0 : Int) (h : Hp) : EX d 179 159 [(0, .inr (.inr a0)), (1, .inl x1), (3, .inl x3)] [.inl s0] h = if sK h a0 = 11 then bak (EX d 179) 164 [(0, .inr (.inr a0)), (1, .inl x1), (2, .inl s0), (3, .inl x3)] [] true (cal d 167 [.inr (.inr a0)] h) else none := (EX_at bk_Mod_undoing_159 _ _ _).trans rfl
theorem bk_Mod_undoing_164 : blk 179 164 = some (((cd_Mod_undoing.lookup 164).getD ([], 0, []))) := rfl
theorem Mod_undoing_164 (d : Nat) (a0 : Nat) (x1 : Int) (x2 : Int) (x3 : Int) (h : Hp) : EX d 179 164 [(0, .inr (.inr a0)), (1, .inl x1), (2, .inl x2), (3, .inl x3)] [] h = EX d 179 64 [(0, .inr (.inr a0)), (1, .inl x1), (2, .inl x2), (3, .inl (x3 + 1))] [] h := (EX_at bk_Mod_undoing_164 _ _ _).trans rfl
theorem bk_Mod_undoing_170 : blk 179 170 = some (((cd_Mod_undoing.lookup 170).getD ([], 0, []))) := rfl
theorem Mod_undoing_170 (d : Nat) (x2 : Int) (h : Hp) : EX d 179 170 [(2, .inl x2)] [] h = some (.inl x2, h) := (EX_at bk_Mod_undoing_170 _ _ _).trans rfl
/-! spot(III)I of HookOverModel: method 185 -/
theorem bk_Mod_spot_0 : blk 185 0 = some (((cd_Mod_spot.lookup 0).getD ([], 0, []))) := rfl
theorem Mod_spot_0 (d : Nat) (x0 : Int) (x1 : Int) (x2 : Int) (h : Hp) : EX d 185 0 [(0, .inl x0), (1, .inl x1), (2, .inl x2)] [] h = some (.inl (((169 * (x0 + 1)) + (13 * (x1 + 1))) + x2), h) := (EX_at bk_Mod_spot_0 _ _ _).trans rfl
/-! shows(III)Z of HookOverModel: method 186 -/
theorem bk_Mod_shows_0 : blk 186 0 = some (((cd_Mod_shows.lookup 0).getD ([], 0, []))) := rfl
theorem Mod_shows_0 (d : Nat) (a0 : Nat) (x1 : Int) (x2 : Int) (x3 : Int) (h : Hp) : EX d 186 0 [(0, .inr (.inr a0)), (1, .inl x1), (2, .inl x2), (3, .inl x3)] [] h = if sK h a0 = 11 then if (wr (hI h a0 22)) = (-1) then EX d 186 8 [] [] h else EX d 186 10 [(0, .inr (.inr a0)), (1, .inl x1), (2, .inl x2), (3, .inl x3)] [] h else none := (EX_at bk_Mod_shows_0 _ _ _).trans rfl
theorem bk_Mod_shows_8 : blk 186 8 = some (((cd_Mod_shows.lookup 8).getD ([], 0, []))) := rfl
theorem Mod_shows_8 (d : Nat) (h : Hp) : EX d 186 8 [] [] h = some (.inl 1, h) := (EX_at bk_Mod_shows_8 _ _ _).trans rfl
theorem bk_Mod_shows_10 : blk 186 10 = some (((cd_Mod_shows.lookup 10).getD ([], 0, []))) := rfl
theorem Mod_shows_10 (d : Nat) (a0 : Nat) (x1 : Int) (x2 : Int) (x3 : Int) (h : Hp) : EX d 186 10 [(0, .inr (.inr a0)), (1, .inl x1), (2, .inl x2), (3, .inl x3)] [] h = EX d 186 13 [(0, .inr (.inr a0)), (2, .inl x2), (3, .inl x3), (4, .inl x1)] [] h := (EX_at bk_Mod_shows_10 _ _ _).trans rfl
theorem bk_Mod_shows_13 : blk 186 13 = some (((cd_Mod_shows.lookup 13).getD ([], 0, []))) := rfl
theorem Mod_shows_13 (d : Nat) (a0 : Nat) (x2 : Int) (x3 : Int) (x4 : Int) (h : Hp) : EX d 186 13 [(0, .inr (.inr a0)), (2, .inl x2), (3, .inl x3), (4, .inl x4)] [] h = if (wr x4) < (wr x2) then EX d 186 19 [(0, .inr (.inr a0)), (2, .inl x2), (3, .inl x3), (4, .inl x4)] [] h else EX d 186 61 [] [] h := (EX_at bk_Mod_shows_13 _ _ _).trans rfl
theorem bk_Mod_shows_19 : blk 186 19 = some (((cd_Mod_shows.lookup 19).getD ([], 0, []))) := rfl
theorem Mod_shows_19 (d : Nat) (a0 : Nat) (x2 : Int) (x3 : Int) (x4 : Int) (h : Hp) : EX d 186 19 [(0, .inr (.inr a0)), (2, .inl x2), (3, .inl x3), (4, .inl x4)] [] h = if sK h a0 = 11 then if sK h a0 = 11 then if okx h (hR h a0 35) 21 ((40 * (hI h a0 22)) + x4) then if (wr (lCmp (hL h (hR h a0 35) (ix ((40 * (hI h a0 22)) + x4))) (-1))) = 0 then EX d 186 55 [(0, .inr (.inr a0)), (2, .inl x2), (3, .inl x3), (4, .inl x4)] [] h else EX d 186 45 [(0, .inr (.inr a0)), (2, .inl x2), (3, .inl x3), (4, .inl x4), (5, .inr (.inl (hL h (hR h a0 35) (ix ((40 * (hI h a0 22)) + x4)))))] [] h else none else none else none := (EX_at bk_Mod_shows_19 _ _ _).trans rfl
theorem bk_Mod_shows_45 : blk 186 45 = some (((cd_Mod_shows.lookup 45).getD ([], 0, []))) := rfl
theorem Mod_shows_45 (d : Nat) (a0 : Nat) (x2 : Int) (x3 : Int) (x4 : Int) (y5 : Int) (h : Hp) : EX d 186 45 [(0, .inr (.inr a0)), (2, .inl x2), (3, .inl x3), (4, .inl x4), (5, .inr (.inl y5))] [] h = if (wr (lCmp y5 (wr x3))) = 0 then EX d 186 55 [(0, .inr (.inr a0)), (2, .inl x2), (3, .inl x3), (4, .inl x4)] [] h else EX d 186 53 [] [] h := (EX_at bk_Mod_shows_45 _ _ _).trans rfl
theorem bk_Mod_shows_53 : blk 186 53 = some (((cd_Mod_shows.lookup 53).getD ([], 0, []))) := rfl
theorem Mod_shows_53 (d : Nat) (h : Hp) : EX d 186 53 [] [] h = some (.inl 0, h) := (EX_at bk_Mod_shows_53 _ _ _).trans rfl
theorem bk_Mod_shows_55 : blk 186 55 = some (((cd_Mod_shows.lookup 55).getD ([], 0, []))) := rfl
theorem Mod_shows_55 (d : Nat) (a0 : Nat) (x2 : Int) (x3 : Int) (x4 : Int) (h : Hp) : EX d 186 55 [(0, .inr (.inr a0)), (2, .inl x2), (3, .inl x3), (4, .inl x4)] [] h = EX d 186 13 [(0, .inr (.inr a0)), (2, .inl x2), (3, .inl x3), (4, .inl (x4 + 1))] [] h := (EX_at bk_Mod_shows_55 _ _ _).trans rfl
theorem bk_Mod_shows_61 : blk 186 61 = some (((cd_Mod_shows.lookup 61).getD ([], 0, []))) := rfl
theorem Mod_shows_61 (d : Nat) (h : Hp) : EX d 186 61 [] [] h = some (.inl 1, h) := (EX_at bk_Mod_shows_61 _ _ _).trans rfl
/-! follows(IIII)Z of HookOverModel: method 187 -/
theorem bk_Mod_follows_0 : blk 187 0 = some (((cd_Mod_follows.lookup 0).getD ([], 0, []))) := rfl
theorem Mod_follows_0 (d : Nat) (a0 : Nat) (x1 : Int) (x2 : Int) (x3 : Int) (x4 : Int) (h : Hp) : EX d 187 0 [(0, .inr (.inr a0)), (1, .inl x1), (2, .inl x2), (3, .inl x3), (4, .inl x4)] [] h = if sK h a0 = 11 then if okx h (hR h a0 1) 20 10 then bak (EX d 187) 13 [(0, .inr (.inr a0)), (1, .inl x1), (2, .inl x2), (3, .inl x3), (4, .inl x4)] [] false (cal d 98 [.inr (.inl (wr (hI h (hR h a0 1) 10))), .inl x4] h) else none else none := (EX_at bk_Mod_follows_0 _ _ _).trans rfl
theorem bk_Mod_follows_13 : blk 187 13 = some (((cd_Mod_follows.lookup 13).getD ([], 0, []))) := rfl
theorem Mod_follows_13 (d : Nat) (a0 : Nat) (x1 : Int) (x2 : Int) (x3 : Int) (x4 : Int) (s0 : Int) (h : Hp) : EX d 187 13 [(0, .inr (.inr a0)), (1, .inl x1), (2, .inl x2), (3, .inl x3), (4, .inl x4)] [.inl s0] h = if (wr s0) = 0 then EX d 187 16 [(0, .inr (.inr a0)), (1, .inl x1), (2, .inl x2), (3, .inl x3), (4, .inl x4)] [] h else EX d 187 41 [] [] h := (EX_at bk_Mod_follows_13 _ _ _).trans rfl
theorem bk_Mod_follows_16 : blk 187 16 = some (((cd_Mod_follows.lookup 16).getD ([], 0, []))) := rfl
theorem Mod_follows_16 (d : Nat) (a0 : Nat) (x1 : Int) (x2 : Int) (x3 : Int) (x4 : Int) (h : Hp) : EX d 187 16 [(0, .inr (.inr a0)), (1, .inl x1), (2, .inl x2), (3, .inl x3), (4, .inl x4)] [] h = if sK h a0 = 11 then if (wr x3) = (wr (hI h a0 20)) then EX d 187 24 [(0, .inr (.inr a0)), (1, .inl x1), (2, .inl x2), (3, .inl x3), (4, .inl x4)] [] h else EX d 187 43 [(0, .inr (.inr a0)), (1, .inl x1), (2, .inl x2), (3, .inl x3), (4, .inl x4)] [] h else none := (EX_at bk_Mod_follows_16 _ _ _).trans rfl
theorem bk_Mod_follows_24 : blk 187 24 = some (((cd_Mod_follows.lookup 24).getD ([], 0, []))) := rfl
theorem Mod_follows_24 (d : Nat) (a0 : Nat) (x1 : Int) (x2 : Int) (x3 : Int) (x4 : Int) (h : Hp) : EX d 187 24 [(0, .inr (.inr a0)), (1, .inl x1), (2, .inl x2), (3, .inl x3), (4, .inl x4)] [] h = if sK h a0 = 11 then if (wr (hI h a0 21)) = (-1) then EX d 187 41 [] [] h else EX d 187 32 [(0, .inr (.inr a0)), (1, .inl x1), (2, .inl x2), (3, .inl x3), (4, .inl x4)] [] h else none := (EX_at bk_Mod_follows_24 _ _ _).trans rfl
theorem bk_Mod_follows_32 : blk 187 32 = some (((cd_Mod_follows.lookup 32).getD ([], 0, []))) := rfl
theorem Mod_follows_32 (d : Nat) (a0 : Nat) (x1 : Int) (x2 : Int) (x3 : Int) (x4 : Int) (h : Hp) : EX d 187 32 [(0, .inr (.inr a0)), (1, .inl x1), (2, .inl x2), (3, .inl x3), (4, .inl x4)] [] h = if sK h a0 = 11 then if (wr (hI h a0 21)) = (wr x4) then EX d 187 41 [] [] h else EX d 187 43 [(0, .inr (.inr a0)), (1, .inl x1), (2, .inl x2), (3, .inl x3), (4, .inl x4)] [] h else none := (EX_at bk_Mod_follows_32 _ _ _).trans rfl
theorem bk_Mod_follows_41 : blk 187 41 = some (((cd_Mod_follows.lookup 41).getD ([], 0, []))) := rfl
theorem Mod_follows_41 (d : Nat) (h : Hp) : EX d 187 41 [] [] h = some (.inl 0, h) := (EX_at bk_Mod_follows_41 _ _ _).trans rfl
theorem bk_Mod_follows_43 : blk 187 43 = some (((cd_Mod_follows.lookup 43).getD ([], 0, []))) := rfl
theorem Mod_follows_43 (d : Nat) (a0 : Nat) (x1 : Int) (x2 : Int) (x3 : Int) (x4 : Int) (h : Hp) : EX d 187 43 [(0, .inr (.inr a0)), (1, .inl x1), (2, .inl x2), (3, .inl x3), (4, .inl x4)] [] h = if (wr x1) = (-1) then EX d 187 48 [(0, .inr (.inr a0)), (4, .inl x4)] [] h else EX d 187 58 [(0, .inr (.inr a0)), (1, .inl x1), (2, .inl x2), (3, .inl x3), (4, .inl x4)] [] h := (EX_at bk_Mod_follows_43 _ _ _).trans rfl
theorem bk_Mod_follows_48 : blk 187 48 = some (((cd_Mod_follows.lookup 48).getD ([], 0, []))) := rfl
theorem Mod_follows_48 (d : Nat) (a0 : Nat) (x4 : Int) (h : Hp) : EX d 187 48 [(0, .inr (.inr a0)), (4, .inl x4)] [] h = if sK h a0 = 11 then bak (EX d 187) 57 [] [] false (cal d 186 [.inr (.inr a0), .inl 0, .inl x4, .inl (-2)] h) else none := (EX_at bk_Mod_follows_48 _ _ _).trans rfl
theorem bk_Mod_follows_57 : blk 187 57 = some (((cd_Mod_follows.lookup 57).getD ([], 0, []))) := rfl
theorem Mod_follows_57 (d : Nat) (s0 : Int) (h : Hp) : EX d 187 57 [] [.inl s0] h = if ((s0 : Int) = 0 ∨ (s0 : Int) = 1) then some (.inl s0, h) else none := (EX_at bk_Mod_follows_57 _ _ _).trans rfl
theorem bk_Mod_follows_58 : blk 187 58 = some (((cd_Mod_follows.lookup 58).getD ([], 0, []))) := rfl
theorem Mod_follows_58 (d : Nat) (a0 : Nat) (x1 : Int) (x2 : Int) (x3 : Int) (x4 : Int) (h : Hp) : EX d 187 58 [(0, .inr (.inr a0)), (1, .inl x1), (2, .inl x2), (3, .inl x3), (4, .inl x4)] [] h = if sK h a0 = 11 then bak (EX d 187) 70 [(0, .inr (.inr a0)), (2, .inl x2), (4, .inl x4)] [] false (cal d 99 [.inr (.inr (hR h a0 1)), .inl x1, .inl x2, .inl x3, .inl x4] h) else none := (EX_at bk_Mod_follows_58 _ _ _).trans rfl
theorem bk_Mod_follows_70 : blk 187 70 = some (((cd_Mod_follows.lookup 70).getD ([], 0, []))) := rfl
theorem Mod_follows_70 (d : Nat) (a0 : Nat) (x2 : Int) (x4 : Int) (s0 : Int) (h : Hp) : EX d 187 70 [(0, .inr (.inr a0)), (2, .inl x2), (4, .inl x4)] [.inl s0] h = if (wr s0) < 0 then EX d 187 93 [] [] h else EX d 187 77 [(0, .inr (.inr a0)), (2, .inl x2), (4, .inl x4), (5, .inl s0)] [] h := (EX_at bk_Mod_follows_70 _ _ _).trans rfl
theorem bk_Mod_follows_77 : blk 187 77 = some (((cd_Mod_follows.lookup 77).getD ([], 0, []))) := rfl
theorem Mod_follows_77 (d : Nat) (a0 : Nat) (x2 : Int) (x4 : Int) (x5 : Int) (h : Hp) : EX d 187 77 [(0, .inr (.inr a0)), (2, .inl x2), (4, .inl x4), (5, .inl x5)] [] h = if sK h a0 = 11 then bak (EX d 187) 86 [] [] false (cal d 186 [.inr (.inr a0), .inl x2, .inl x4, .inl x5] h) else none := (EX_at bk_Mod_follows_77 _ _ _).trans rfl
theorem bk_Mod_follows_86 : blk 187 86 = some (((cd_Mod_follows.lookup 86).getD ([], 0, []))) := rfl
theorem Mod_follows_86 (d : Nat) (s0 : Int) (h : Hp) : EX d 187 86 [] [.inl s0] h = if (wr s0) = 0 then EX d 187 93 [] [] h else EX d 187 89 [] [] h := (EX_at bk_Mod_follows_86 _ _ _).trans rfl
theorem bk_Mod_follows_89 : blk 187 89 = some (((cd_Mod_follows.lookup 89).getD ([], 0, []))) := rfl
theorem Mod_follows_89 (d : Nat) (h : Hp) : EX d 187 89 [] [] h = EX d 187 94 [] [.inl 1] h := (EX_at bk_Mod_follows_89 _ _ _).trans rfl
theorem bk_Mod_follows_93 : blk 187 93 = some (((cd_Mod_follows.lookup 93).getD ([], 0, []))) := rfl
theorem Mod_follows_93 (d : Nat) (h : Hp) : EX d 187 93 [] [] h = EX d 187 94 [] [.inl 0] h := (EX_at bk_Mod_follows_93 _ _ _).trans rfl
theorem bk_Mod_follows_94 : blk 187 94 = some (((cd_Mod_follows.lookup 94).getD ([], 0, []))) := rfl
theorem Mod_follows_94 (d : Nat) (s0 : Int) (h : Hp) : EX d 187 94 [] [.inl s0] h = if ((s0 : Int) = 0 ∨ (s0 : Int) = 1) then some (.inl s0, h) else none := (EX_at bk_Mod_follows_94 _ _ _).trans rfl
/-! laysWays(III)V of HookOverModel: method 188 -/
theorem bk_Mod_laysWays_0 : blk 188 0 = some (((cd_Mod_laysWays.lookup 0).getD ([], 0, []))) := rfl
theorem Mod_laysWays_0 (d : Nat) (a0 : Nat) (x1 : Int) (x2 : Int) (x3 : Int) (h : Hp) : EX d 188 0 [(0, .inr (.inr a0)), (1, .inl x1), (2, .inl x2), (3, .inl x3)] [] h = if sK h a0 = 11 then EX d 188 5 [(0, .inr (.inr a0)), (2, .inl x2), (3, .inl x3)] [] (pI h a0 20 x1) else none := (EX_at bk_Mod_laysWays_0 _ _ _).trans rfl
theorem bk_Mod_laysWays_5 : blk 188 5 = some (((cd_Mod_laysWays.lookup 5).getD ([], 0, []))) := rfl
theorem Mod_laysWays_5 (d : Nat) (a0 : Nat) (x2 : Int) (x3 : Int) (h : Hp) : EX d 188 5 [(0, .inr (.inr a0)), (2, .inl x2), (3, .inl x3)] [] h = if sK h a0 = 11 then EX d 188 10 [(0, .inr (.inr a0)), (3, .inl x3)] [] (pI h a0 21 x2) else none := (EX_at bk_Mod_laysWays_5 _ _ _).trans rfl
theorem bk_Mod_laysWays_10 : blk 188 10 = some (((cd_Mod_laysWays.lookup 10).getD ([], 0, []))) := rfl
theorem Mod_laysWays_10 (d : Nat) (a0 : Nat) (x3 : Int) (h : Hp) : EX d 188 10 [(0, .inr (.inr a0)), (3, .inl x3)] [] h = if sK h a0 = 11 then EX d 188 15 [(0, .inr (.inr a0))] [] (pI h a0 22 x3) else none := (EX_at bk_Mod_laysWays_10 _ _ _).trans rfl
theorem bk_Mod_laysWays_15 : blk 188 15 = some (((cd_Mod_laysWays.lookup 15).getD ([], 0, []))) := rfl
theorem Mod_laysWays_15 (d : Nat) (a0 : Nat) (h : Hp) : EX d 188 15 [(0, .inr (.inr a0))] [] h = if sK h a0 = 11 then if okx h (hR h a0 1) 20 1 then EX d 188 25 [(0, .inr (.inr a0)), (4, .inl ((hI h (hR h a0 1) 1) - 1))] [] h else none else none := (EX_at bk_Mod_laysWays_15 _ _ _).trans rfl
theorem bk_Mod_laysWays_25 : blk 188 25 = some (((cd_Mod_laysWays.lookup 25).getD ([], 0, []))) := rfl
theorem Mod_laysWays_25 (d : Nat) (a0 : Nat) (x4 : Int) (h : Hp) : EX d 188 25 [(0, .inr (.inr a0)), (4, .inl x4)] [] h = if (wr x4) < (-1) then EX d 188 269 [] [] h else EX d 188 31 [(0, .inr (.inr a0)), (4, .inl x4)] [] h := (EX_at bk_Mod_laysWays_25 _ _ _).trans rfl
theorem bk_Mod_laysWays_31 : blk 188 31 = some (((cd_Mod_laysWays.lookup 31).getD ([], 0, []))) := rfl
theorem Mod_laysWays_31 (d : Nat) (a0 : Nat) (x4 : Int) (h : Hp) : EX d 188 31 [(0, .inr (.inr a0)), (4, .inl x4)] [] h = if sK h a0 = 11 then if okx h (hR h a0 1) 20 2 then EX d 188 41 [(0, .inr (.inr a0)), (4, .inl x4), (5, .inl ((hI h (hR h a0 1) 2) - 1))] [] h else none else none := (EX_at bk_Mod_laysWays_31 _ _ _).trans rfl
theorem bk_Mod_laysWays_41 : blk 188 41 = some (((cd_Mod_laysWays.lookup 41).getD ([], 0, []))) := rfl
theorem Mod_laysWays_41 (d : Nat) (a0 : Nat) (x4 : Int) (x5 : Int) (h : Hp) : EX d 188 41 [(0, .inr (.inr a0)), (4, .inl x4), (5, .inl x5)] [] h = if (wr x5) < (-1) then EX d 188 263 [(0, .inr (.inr a0)), (4, .inl x4)] [] h else EX d 188 47 [(0, .inr (.inr a0)), (4, .inl x4), (5, .inl x5)] [] h := (EX_at bk_Mod_laysWays_41 _ _ _).trans rfl
theorem bk_Mod_laysWays_47 : blk 188 47 = some (((cd_Mod_laysWays.lookup 47).getD ([], 0, []))) := rfl
theorem Mod_laysWays_47 (d : Nat) (a0 : Nat) (x4 : Int) (x5 : Int) (h : Hp) : EX d 188 47 [(0, .inr (.inr a0)), (4, .inl x4), (5, .inl x5)] [] h = if (wr x4) = (-1) then EX d 188 53 [(0, .inr (.inr a0)), (4, .inl x4), (5, .inl x5)] [] h else EX d 188 57 [(0, .inr (.inr a0)), (4, .inl x4), (5, .inl x5)] [] h := (EX_at bk_Mod_laysWays_47 _ _ _).trans rfl
theorem bk_Mod_laysWays_53 : blk 188 53 = some (((cd_Mod_laysWays.lookup 53).getD ([], 0, []))) := rfl
theorem Mod_laysWays_53 (d : Nat) (a0 : Nat) (x4 : Int) (x5 : Int) (h : Hp) : EX d 188 53 [(0, .inr (.inr a0)), (4, .inl x4), (5, .inl x5)] [] h = EX d 188 58 [(0, .inr (.inr a0)), (4, .inl x4), (5, .inl x5)] [.inl 1] h := (EX_at bk_Mod_laysWays_53 _ _ _).trans rfl
theorem bk_Mod_laysWays_57 : blk 188 57 = some (((cd_Mod_laysWays.lookup 57).getD ([], 0, []))) := rfl
theorem Mod_laysWays_57 (d : Nat) (a0 : Nat) (x4 : Int) (x5 : Int) (h : Hp) : EX d 188 57 [(0, .inr (.inr a0)), (4, .inl x4), (5, .inl x5)] [] h = EX d 188 58 [(0, .inr (.inr a0)), (4, .inl x4), (5, .inl x5)] [.inl 0] h := (EX_at bk_Mod_laysWays_57 _ _ _).trans rfl
theorem bk_Mod_laysWays_58 : blk 188 58 = some (((cd_Mod_laysWays.lookup 58).getD ([], 0, []))) := rfl
theorem Mod_laysWays_58 (d : Nat) (a0 : Nat) (x4 : Int) (x5 : Int) (s0 : Int) (h : Hp) : EX d 188 58 [(0, .inr (.inr a0)), (4, .inl x4), (5, .inl x5)] [.inl s0] h = if (wr x5) = (-1) then EX d 188 64 [(0, .inr (.inr a0)), (4, .inl x4), (5, .inl x5)] [.inl s0] h else EX d 188 68 [(0, .inr (.inr a0)), (4, .inl x4), (5, .inl x5)] [.inl s0] h := (EX_at bk_Mod_laysWays_58 _ _ _).trans rfl
theorem bk_Mod_laysWays_64 : blk 188 64 = some (((cd_Mod_laysWays.lookup 64).getD ([], 0, []))) := rfl
theorem Mod_laysWays_64 (d : Nat) (a0 : Nat) (x4 : Int) (x5 : Int) (s0 : Int) (h : Hp) : EX d 188 64 [(0, .inr (.inr a0)), (4, .inl x4), (5, .inl x5)] [.inl s0] h = EX d 188 69 [(0, .inr (.inr a0)), (4, .inl x4), (5, .inl x5)] [.inl 1, .inl s0] h := (EX_at bk_Mod_laysWays_64 _ _ _).trans rfl
theorem bk_Mod_laysWays_68 : blk 188 68 = some (((cd_Mod_laysWays.lookup 68).getD ([], 0, []))) := rfl
theorem Mod_laysWays_68 (d : Nat) (a0 : Nat) (x4 : Int) (x5 : Int) (s0 : Int) (h : Hp) : EX d 188 68 [(0, .inr (.inr a0)), (4, .inl x4), (5, .inl x5)] [.inl s0] h = EX d 188 69 [(0, .inr (.inr a0)), (4, .inl x4), (5, .inl x5)] [.inl 0, .inl s0] h := (EX_at bk_Mod_laysWays_68 _ _ _).trans rfl
theorem bk_Mod_laysWays_69 : blk 188 69 = some (((cd_Mod_laysWays.lookup 69).getD ([], 0, []))) := rfl
theorem Mod_laysWays_69 (d : Nat) (a0 : Nat) (x4 : Int) (x5 : Int) (s0 : Int) (s1 : Int) (h : Hp) : EX d 188 69 [(0, .inr (.inr a0)), (4, .inl x4), (5, .inl x5)] [.inl s1, .inl s0] h = if (wr s0) = (wr s1) then EX d 188 75 [(0, .inr (.inr a0)), (4, .inl x4), (5, .inl x5)] [] h else EX d 188 72 [(0, .inr (.inr a0)), (4, .inl x4), (5, .inl x5)] [] h := (EX_at bk_Mod_laysWays_69 _ _ _).trans rfl
theorem bk_Mod_laysWays_72 : blk 188 72 = some (((cd_Mod_laysWays.lookup 72).getD ([], 0, []))) := rfl
theorem Mod_laysWays_72 (d : Nat) (a0 : Nat) (x4 : Int) (x5 : Int) (h : Hp) : EX d 188 72 [(0, .inr (.inr a0)), (4, .inl x4), (5, .inl x5)] [] h = EX d 188 257 [(0, .inr (.inr a0)), (4, .inl x4), (5, .inl x5)] [] h := (EX_at bk_Mod_laysWays_72 _ _ _).trans rfl
theorem bk_Mod_laysWays_75 : blk 188 75 = some (((cd_Mod_laysWays.lookup 75).getD ([], 0, []))) := rfl
theorem Mod_laysWays_75 (d : Nat) (a0 : Nat) (x4 : Int) (x5 : Int) (h : Hp) : EX d 188 75 [(0, .inr (.inr a0)), (4, .inl x4), (5, .inl x5)] [] h = EX d 188 78 [(0, .inr (.inr a0)), (4, .inl x4), (5, .inl x5), (6, .inl 0)] [] h := (EX_at bk_Mod_laysWays_75 _ _ _).trans rfl
theorem bk_Mod_laysWays_78 : blk 188 78 = some (((cd_Mod_laysWays.lookup 78).getD ([], 0, []))) := rfl
theorem Mod_laysWays_78 (d : Nat) (a0 : Nat) (x4 : Int) (x5 : Int) (x6 : Int) (h : Hp) : EX d 188 78 [(0, .inr (.inr a0)), (4, .inl x4), (5, .inl x5), (6, .inl x6)] [] h = if 12 < (wr x6) then EX d 188 144 [(0, .inr (.inr a0)), (4, .inl x4), (5, .inl x5)] [] h else EX d 188 85 [(0, .inr (.inr a0)), (4, .inl x4), (5, .inl x5), (6, .inl x6)] [] h := (EX_at bk_Mod_laysWays_78 _ _ _).trans rfl
theorem bk_Mod_laysWays_85 : blk 188 85 = some (((cd_Mod_laysWays.lookup 85).getD ([], 0, []))) := rfl
theorem Mod_laysWays_85 (d : Nat) (a0 : Nat) (x4 : Int) (x5 : Int) (x6 : Int) (h : Hp) : EX d 188 85 [(0, .inr (.inr a0)), (4, .inl x4), (5, .inl x5), (6, .inl x6)] [] h = if sK h a0 = 11 then bak (EX d 188) 98 [(0, .inr (.inr a0)), (4, .inl x4), (5, .inl x5), (6, .inl x6)] [.inr (.inr (hR h a0 19))] false (cal d 185 [.inl x4, .inl x5, .inl x6] h) else none := (EX_at bk_Mod_laysWays_85 _ _ _).trans rfl
theorem bk_Mod_laysWays_98 : blk 188 98 = some (((cd_Mod_laysWays.lookup 98).getD ([], 0, []))) := rfl
theorem Mod_laysWays_98 (d : Nat) (a0 : Nat) (x4 : Int) (x5 : Int) (x6 : Int) (r0 : Nat) (s1 : Int) (h : Hp) : EX d 188 98 [(0, .inr (.inr a0)), (4, .inl x4), (5, .inl x5), (6, .inl x6)] [.inl s1, .inr (.inr r0)] h = if (wr x6) = 0 then EX d 188 103 [(0, .inr (.inr a0)), (4, .inl x4), (5, .inl x5), (6, .inl x6)] [.inl s1, .inr (.inr r0)] h else EX d 188 136 [(0, .inr (.inr a0)), (4, .inl x4), (5, .inl x5), (6, .inl x6)] [.inl s1, .inr (.inr r0)] h := (EX_at bk_Mod_laysWays_98 _ _ _).trans rfl
theorem bk_Mod_laysWays_103 : blk 188 103 = some (((cd_Mod_laysWays.lookup 103).getD ([], 0, []))) := rfl
theorem Mod_laysWays_103 (d : Nat) (a0 : Nat) (x4 : Int) (x5 : Int) (x6 : Int) (r0 : Nat) (s1 : Int) (h : Hp) : EX d 188 103 [(0, .inr (.inr a0)), (4, .inl x4), (5, .inl x5), (6, .inl x6)] [.inl s1, .inr (.inr r0)] h = if (wr x5) = (-1) then EX d 188 110 [(0, .inr (.inr a0)), (4, .inl x4), (5, .inl x5), (6, .inl x6)] [.inr (.inr a0), .inl s1, .inr (.inr r0)] h else EX d 188 114 [(0, .inr (.inr a0)), (4, .inl x4), (5, .inl x5), (6, .inl x6)] [.inr (.inr a0), .inl s1, .inr (.inr r0)] h := (EX_at bk_Mod_laysWays_103 _ _ _).trans rfl
theorem bk_Mod_laysWays_110 : blk 188 110 = some (((cd_Mod_laysWays.lookup 110).getD ([], 0, []))) := rfl
theorem Mod_laysWays_110 (d : Nat) (a0 : Nat) (x4 : Int) (x5 : Int) (x6 : Int) (r0 : Nat) (s1 : Int) (r2 : Nat) (h : Hp) : EX d 188 110 [(0, .inr (.inr a0)), (4, .inl x4), (5, .inl x5), (6, .inl x6)] [.inr (.inr r2), .inl s1, .inr (.inr r0)] h = EX d 188 116 [(0, .inr (.inr a0)), (4, .inl x4), (5, .inl x5), (6, .inl x6)] [.inl 0, .inr (.inr r2), .inl s1, .inr (.inr r0)] h := (EX_at bk_Mod_laysWays_110 _ _ _).trans rfl
theorem bk_Mod_laysWays_114 : blk 188 114 = some (((cd_Mod_laysWays.lookup 114).getD ([], 0, []))) := rfl
theorem Mod_laysWays_114 (d : Nat) (a0 : Nat) (x4 : Int) (x5 : Int) (x6 : Int) (r0 : Nat) (s1 : Int) (r2 : Nat) (h : Hp) : EX d 188 114 [(0, .inr (.inr a0)), (4, .inl x4), (5, .inl x5), (6, .inl x6)] [.inr (.inr r2), .inl s1, .inr (.inr r0)] h = EX d 188 116 [(0, .inr (.inr a0)), (4, .inl x4), (5, .inl x5), (6, .inl x6)] [.inl x5, .inr (.inr r2), .inl s1, .inr (.inr r0)] h := (EX_at bk_Mod_laysWays_114 _ _ _).trans rfl
theorem bk_Mod_laysWays_116 : blk 188 116 = some (((cd_Mod_laysWays.lookup 116).getD ([], 0, []))) := rfl
theorem Mod_laysWays_116 (d : Nat) (a0 : Nat) (x4 : Int) (x5 : Int) (x6 : Int) (r0 : Nat) (s1 : Int) (r2 : Nat) (s3 : Int) (h : Hp) : EX d 188 116 [(0, .inr (.inr a0)), (4, .inl x4), (5, .inl x5), (6, .inl x6)] [.inl s3, .inr (.inr r2), .inl s1, .inr (.inr r0)] h = if sK h a0 = 11 then if okx h (hR h a0 1) 20 2 then if sK h r2 = 11 then bak (EX d 188) 129 [(0, .inr (.inr a0)), (4, .inl x4), (5, .inl x5), (6, .inl x6)] [.inl s1, .inr (.inr r0)] false (cal d 186 [.inr (.inr r2), .inl s3, .inl ((hI h (hR h a0 1) 2) - 1), .inl (-2)] h) else none else none else none := (EX_at bk_Mod_laysWays_116 _ _ _).trans rfl
theorem bk_Mod_laysWays_129 : blk 188 129 = some (((cd_Mod_laysWays.lookup 129).getD ([], 0, []))) := rfl
theorem Mod_laysWays_129 (d : Nat) (a0 : Nat) (x4 : Int) (x5 : Int) (x6 : Int) (r0 : Nat) (s1 : Int) (s2 : Int) (h : Hp) : EX d 188 129 [(0, .inr (.inr a0)), (4, .inl x4), (5, .inl x5), (6, .inl x6)] [.inl s2, .inl s1, .inr (.inr r0)] h = if (wr s2) = 0 then EX d 188 136 [(0, .inr (.inr a0)), (4, .inl x4), (5, .inl x5), (6, .inl x6)] [.inl s1, .inr (.inr r0)] h else EX d 188 132 [(0, .inr (.inr a0)), (4, .inl x4), (5, .inl x5), (6, .inl x6)] [.inl s1, .inr (.inr r0)] h := (EX_at bk_Mod_laysWays_129 _ _ _).trans rfl
theorem bk_Mod_laysWays_132 : blk 188 132 = some (((cd_Mod_laysWays.lookup 132).getD ([], 0, []))) := rfl
theorem Mod_laysWays_132 (d : Nat) (a0 : Nat) (x4 : Int) (x5 : Int) (x6 : Int) (r0 : Nat) (s1 : Int) (h : Hp) : EX d 188 132 [(0, .inr (.inr a0)), (4, .inl x4), (5, .inl x5), (6, .inl x6)] [.inl s1, .inr (.inr r0)] h = EX d 188 137 [(0, .inr (.inr a0)), (4, .inl x4), (5, .inl x5), (6, .inl x6)] [.inr (.inl 1), .inl s1, .inr (.inr r0)] h := (EX_at bk_Mod_laysWays_132 _ _ _).trans rfl
theorem bk_Mod_laysWays_136 : blk 188 136 = some (((cd_Mod_laysWays.lookup 136).getD ([], 0, []))) := rfl
theorem Mod_laysWays_136 (d : Nat) (a0 : Nat) (x4 : Int) (x5 : Int) (x6 : Int) (r0 : Nat) (s1 : Int) (h : Hp) : EX d 188 136 [(0, .inr (.inr a0)), (4, .inl x4), (5, .inl x5), (6, .inl x6)] [.inl s1, .inr (.inr r0)] h = EX d 188 137 [(0, .inr (.inr a0)), (4, .inl x4), (5, .inl x5), (6, .inl x6)] [.inr (.inl 0), .inl s1, .inr (.inr r0)] h := (EX_at bk_Mod_laysWays_136 _ _ _).trans rfl
theorem bk_Mod_laysWays_137 : blk 188 137 = some (((cd_Mod_laysWays.lookup 137).getD ([], 0, []))) := rfl
theorem Mod_laysWays_137 (d : Nat) (a0 : Nat) (x4 : Int) (x5 : Int) (x6 : Int) (r0 : Nat) (s1 : Int) (t2 : Int) (h : Hp) : EX d 188 137 [(0, .inr (.inr a0)), (4, .inl x4), (5, .inl x5), (6, .inl x6)] [.inr (.inl t2), .inl s1, .inr (.inr r0)] h = if okx h r0 21 s1 then EX d 188 138 [(0, .inr (.inr a0)), (4, .inl x4), (5, .inl x5), (6, .inl x6)] [] (pL h r0 (ix s1) t2) else none := (EX_at bk_Mod_laysWays_137 _ _ _).trans rfl
theorem bk_Mod_laysWays_138 : blk 188 138 = some (((cd_Mod_laysWays.lookup 138).getD ([], 0, []))) := rfl
theorem Mod_laysWays_138 (d : Nat) (a0 : Nat) (x4 : Int) (x5 : Int) (x6 : Int) (h : Hp) : EX d 188 138 [(0, .inr (.inr a0)), (4, .inl x4), (5, .inl x5), (6, .inl x6)] [] h = EX d 188 78 [(0, .inr (.inr a0)), (4, .inl x4), (5, .inl x5), (6, .inl (x6 + 1))] [] h := (EX_at bk_Mod_laysWays_138 _ _ _).trans rfl
theorem bk_Mod_laysWays_144 : blk 188 144 = some (((cd_Mod_laysWays.lookup 144).getD ([], 0, []))) := rfl
theorem Mod_laysWays_144 (d : Nat) (a0 : Nat) (x4 : Int) (x5 : Int) (h : Hp) : EX d 188 144 [(0, .inr (.inr a0)), (4, .inl x4), (5, .inl x5)] [] h = EX d 188 150 [(0, .inr (.inr a0)), (4, .inl x4), (5, .inl x5), (6, .inl (x4 + 1))] [] h := (EX_at bk_Mod_laysWays_144 _ _ _).trans rfl
theorem bk_Mod_laysWays_150 : blk 188 150 = some (((cd_Mod_laysWays.lookup 150).getD ([], 0, []))) := rfl
theorem Mod_laysWays_150 (d : Nat) (a0 : Nat) (x4 : Int) (x5 : Int) (x6 : Int) (h : Hp) : EX d 188 150 [(0, .inr (.inr a0)), (4, .inl x4), (5, .inl x5), (6, .inl x6)] [] h = if sK h a0 = 11 then if okx h (hR h a0 1) 20 1 then if (wr x6) < (wr (hI h (hR h a0 1) 1)) then EX d 188 161 [(0, .inr (.inr a0)), (4, .inl x4), (5, .inl x5), (6, .inl x6)] [] h else EX d 188 257 [(0, .inr (.inr a0)), (4, .inl x4), (5, .inl x5)] [] h else none else none := (EX_at bk_Mod_laysWays_150 _ _ _).trans rfl
theorem bk_Mod_laysWays_161 : blk 188 161 = some (((cd_Mod_laysWays.lookup 161).getD ([], 0, []))) := rfl
theorem Mod_laysWays_161 (d : Nat) (a0 : Nat) (x4 : Int) (x5 : Int) (x6 : Int) (h : Hp) : EX d 188 161 [(0, .inr (.inr a0)), (4, .inl x4), (5, .inl x5), (6, .inl x6)] [] h = EX d 188 167 [(0, .inr (.inr a0)), (4, .inl x4), (5, .inl x5), (6, .inl x6), (7, .inl (x5 + 1))] [] h := (EX_at bk_Mod_laysWays_161 _ _ _).trans rfl
theorem bk_Mod_laysWays_167 : blk 188 167 = some (((cd_Mod_laysWays.lookup 167).getD ([], 0, []))) := rfl
theorem Mod_laysWays_167 (d : Nat) (a0 : Nat) (x4 : Int) (x5 : Int) (x6 : Int) (x7 : Int) (h : Hp) : EX d 188 167 [(0, .inr (.inr a0)), (4, .inl x4), (5, .inl x5), (6, .inl x6), (7, .inl x7)] [] h = if sK h a0 = 11 then if okx h (hR h a0 1) 20 2 then if (wr x7) < (wr (hI h (hR h a0 1) 2)) then EX d 188 178 [(0, .inr (.inr a0)), (4, .inl x4), (5, .inl x5), (6, .inl x6), (7, .inl x7)] [] h else EX d 188 251 [(0, .inr (.inr a0)), (4, .inl x4), (5, .inl x5), (6, .inl x6)] [] h else none else none := (EX_at bk_Mod_laysWays_167 _ _ _).trans rfl
theorem bk_Mod_laysWays_178 : blk 188 178 = some (((cd_Mod_laysWays.lookup 178).getD ([], 0, []))) := rfl
theorem Mod_laysWays_178 (d : Nat) (a0 : Nat) (x4 : Int) (x5 : Int) (x6 : Int) (x7 : Int) (h : Hp) : EX d 188 178 [(0, .inr (.inr a0)), (4, .inl x4), (5, .inl x5), (6, .inl x6), (7, .inl x7)] [] h = if sK h a0 = 11 then bak (EX d 188) 190 [(0, .inr (.inr a0)), (4, .inl x4), (5, .inl x5), (6, .inl x6), (7, .inl x7)] [] false (cal d 187 [.inr (.inr a0), .inl x4, .inl x5, .inl x6, .inl x7] h) else none := (EX_at bk_Mod_laysWays_178 _ _ _).trans rfl
theorem bk_Mod_laysWays_190 : blk 188 190 = some (((cd_Mod_laysWays.lookup 190).getD ([], 0, []))) := rfl
theorem Mod_laysWays_190 (d : Nat) (a0 : Nat) (x4 : Int) (x5 : Int) (x6 : Int) (x7 : Int) (s0 : Int) (h : Hp) : EX d 188 190 [(0, .inr (.inr a0)), (4, .inl x4), (5, .inl x5), (6, .inl x6), (7, .inl x7)] [.inl s0] h = if (wr s0) = 0 then EX d 188 193 [(0, .inr (.inr a0)), (4, .inl x4), (5, .inl x5), (6, .inl x6), (7, .inl x7)] [] h else EX d 188 196 [(0, .inr (.inr a0)), (4, .inl x4), (5, .inl x5), (6, .inl x6), (7, .inl x7)] [] h := (EX_at bk_Mod_laysWays_190 _ _ _).trans rfl
theorem bk_Mod_laysWays_193 : blk 188 193 = some (((cd_Mod_laysWays.lookup 193).getD ([], 0, []))) := rfl
theorem Mod_laysWays_193 (d : Nat) (a0 : Nat) (x4 : Int) (x5 : Int) (x6 : Int) (x7 : Int) (h : Hp) : EX d 188 193 [(0, .inr (.inr a0)), (4, .inl x4), (5, .inl x5), (6, .inl x6), (7, .inl x7)] [] h = EX d 188 245 [(0, .inr (.inr a0)), (4, .inl x4), (5, .inl x5), (6, .inl x6), (7, .inl x7)] [] h := (EX_at bk_Mod_laysWays_193 _ _ _).trans rfl
theorem bk_Mod_laysWays_196 : blk 188 196 = some (((cd_Mod_laysWays.lookup 196).getD ([], 0, []))) := rfl
theorem Mod_laysWays_196 (d : Nat) (a0 : Nat) (x4 : Int) (x5 : Int) (x6 : Int) (x7 : Int) (h : Hp) : EX d 188 196 [(0, .inr (.inr a0)), (4, .inl x4), (5, .inl x5), (6, .inl x6), (7, .inl x7)] [] h = EX d 188 199 [(0, .inr (.inr a0)), (4, .inl x4), (5, .inl x5), (6, .inl x6), (7, .inl x7), (8, .inl 1)] [] h := (EX_at bk_Mod_laysWays_196 _ _ _).trans rfl
theorem bk_Mod_laysWays_199 : blk 188 199 = some (((cd_Mod_laysWays.lookup 199).getD ([], 0, []))) := rfl
theorem Mod_laysWays_199 (d : Nat) (a0 : Nat) (x4 : Int) (x5 : Int) (x6 : Int) (x7 : Int) (x8 : Int) (h : Hp) : EX d 188 199 [(0, .inr (.inr a0)), (4, .inl x4), (5, .inl x5), (6, .inl x6), (7, .inl x7), (8, .inl x8)] [] h = if 12 < (wr x8) then EX d 188 245 [(0, .inr (.inr a0)), (4, .inl x4), (5, .inl x5), (6, .inl x6), (7, .inl x7)] [] h else EX d 188 206 [(0, .inr (.inr a0)), (4, .inl x4), (5, .inl x5), (6, .inl x6), (7, .inl x7), (8, .inl x8)] [] h := (EX_at bk_Mod_laysWays_199 _ _ _).trans rfl
theorem bk_Mod_laysWays_206 : blk 188 206 = some (((cd_Mod_laysWays.lookup 206).getD ([], 0, []))) := rfl
theorem Mod_laysWays_206 (d : Nat) (a0 : Nat) (x4 : Int) (x5 : Int) (x6 : Int) (x7 : Int) (x8 : Int) (h : Hp) : EX d 188 206 [(0, .inr (.inr a0)), (4, .inl x4), (5, .inl x5), (6, .inl x6), (7, .inl x7), (8, .inl x8)] [] h = if sK h a0 = 11 then bak (EX d 188) 219 [(0, .inr (.inr a0)), (4, .inl x4), (5, .inl x5), (6, .inl x6), (7, .inl x7), (8, .inl x8)] [.inr (.inr (hR h a0 19))] false (cal d 185 [.inl x4, .inl x5, .inl x8] h) else none := (EX_at bk_Mod_laysWays_206 _ _ _).trans rfl
theorem bk_Mod_laysWays_219 : blk 188 219 = some (((cd_Mod_laysWays.lookup 219).getD ([], 0, []))) := rfl
theorem Mod_laysWays_219 (d : Nat) (a0 : Nat) (x4 : Int) (x5 : Int) (x6 : Int) (x7 : Int) (x8 : Int) (r0 : Nat) (s1 : Int) (h : Hp) : EX d 188 219 [(0, .inr (.inr a0)), (4, .inl x4), (5, .inl x5), (6, .inl x6), (7, .inl x7), (8, .inl x8)] [.inl s1, .inr (.inr r0)] h = if okx h r0 21 s1 then if sK h a0 = 11 then bak (EX d 188) 236 [(0, .inr (.inr a0)), (4, .inl x4), (5, .inl x5), (6, .inl x6), (7, .inl x7), (8, .inl x8)] [.inr (.inr (hR h a0 19)), .inr (.inl (hL h r0 (ix s1))), .inl s1, .inr (.inr r0)] false (cal d 185 [.inl x6, .inl x7, .inl (x8 - 1)] h) else none else none := (EX_at bk_Mod_laysWays_219 _ _ _).trans rfl
theorem bk_Mod_laysWays_236 : blk 188 236 = some (((cd_Mod_laysWays.lookup 236).getD ([], 0, []))) := rfl
theorem Mod_laysWays_236 (d : Nat) (a0 : Nat) (x4 : Int) (x5 : Int) (x6 : Int) (x7 : Int) (x8 : Int) (r0 : Nat) (s1 : Int) (t2 : Int) (r3 : Nat) (s4 : Int) (h : Hp) : EX d 188 236 [(0, .inr (.inr a0)), (4, .inl x4), (5, .inl x5), (6, .inl x6), (7, .inl x7), (8, .inl x8)] [.inl s4, .inr (.inr r3), .inr (.inl t2), .inl s1, .inr (.inr r0)] h = if okx h r3 21 s4 then if okx h r0 21 s1 then EX d 188 239 [(0, .inr (.inr a0)), (4, .inl x4), (5, .inl x5), (6, .inl x6), (7, .inl x7), (8, .inl x8)] [] (pL h r0 (ix s1) (t2 + (hL h r3 (ix s4)))) else none else none := (EX_at bk_Mod_laysWays_236 _ _ _).trans rfl
theorem bk_Mod_laysWays_239 : blk 188 239 = some (((cd_Mod_laysWays.lookup 239).getD ([], 0, []))) := rfl
theorem Mod_laysWays_239 (d : Nat) (a0 : Nat) (x4 : Int) (x5 : Int) (x6 : Int) (x7 : Int) (x8 : Int) (h : Hp) : EX d 188 239 [(0, .inr (.inr a0)), (4, .inl x4), (5, .inl x5), (6, .inl x6), (7, .inl x7), (8, .inl x8)] [] h = EX d 188 199 [(0, .inr (.inr a0)), (4, .inl x4), (5, .inl x5), (6, .inl x6), (7, .inl x7), (8, .inl (x8 + 1))] [] h := (EX_at bk_Mod_laysWays_239 _ _ _).trans rfl
theorem bk_Mod_laysWays_245 : blk 188 245 = some (((cd_Mod_laysWays.lookup 245).getD ([], 0, []))) := rfl
theorem Mod_laysWays_245 (d : Nat) (a0 : Nat) (x4 : Int) (x5 : Int) (x6 : Int) (x7 : Int) (h : Hp) : EX d 188 245 [(0, .inr (.inr a0)), (4, .inl x4), (5, .inl x5), (6, .inl x6), (7, .inl x7)] [] h = EX d 188 167 [(0, .inr (.inr a0)), (4, .inl x4), (5, .inl x5), (6, .inl x6), (7, .inl (x7 + 1))] [] h := (EX_at bk_Mod_laysWays_245 _ _ _).trans rfl
theorem bk_Mod_laysWays_251 : blk 188 251 = some (((cd_Mod_laysWays.lookup 251).getD ([], 0, []))) := rfl
theorem Mod_laysWays_251 (d : Nat) (a0 : Nat) (x4 : Int) (x5 : Int) (x6 : Int) (h : Hp) : EX d 188 251 [(0, .inr (.inr a0)), (4, .inl x4), (5, .inl x5), (6, .inl x6)] [] h = EX d 188 150 [(0, .inr (.inr a0)), (4, .inl x4), (5, .inl x5), (6, .inl (x6 + 1))] [] h := (EX_at bk_Mod_laysWays_251 _ _ _).trans rfl
theorem bk_Mod_laysWays_257 : blk 188 257 = some (((cd_Mod_laysWays.lookup 257).getD ([], 0, []))) := rfl
theorem Mod_laysWays_257 (d : Nat) (a0 : Nat) (x4 : Int) (x5 : Int) (h : Hp) : EX d 188 257 [(0, .inr (.inr a0)), (4, .inl x4), (5, .inl x5)] [] h = EX d 188 41 [(0, .inr (.inr a0)), (4, .inl x4), (5, .inl (x5 + (-1)))] [] h := (EX_at bk_Mod_laysWays_257 _ _ _).trans rfl
theorem bk_Mod_laysWays_263 : blk 188 263 = some (((cd_Mod_laysWays.lookup 263).getD ([], 0, []))) := rfl
theorem Mod_laysWays_263 (d : Nat) (a0 : Nat) (x4 : Int) (h : Hp) : EX d 188 263 [(0, .inr (.inr a0)), (4, .inl x4)] [] h = EX d 188 25 [(0, .inr (.inr a0)), (4, .inl (x4 + (-1)))] [] h := (EX_at bk_Mod_laysWays_263 _ _ _).trans rfl
theorem bk_Mod_laysWays_269 : blk 188 269 = some (((cd_Mod_laysWays.lookup 269).getD ([], 0, []))) := rfl
theorem Mod_laysWays_269 (d : Nat) (h : Hp) : EX d 188 269 [] [] h = some (.inl 0, h) := (EX_at bk_Mod_laysWays_269 _ _ _).trans rfl
/-! laysAll()V of HookOverModel: method 189 -/
theorem bk_Mod_laysAll_0 : blk 189 0 = some (((cd_Mod_laysAll.lookup 0).getD ([], 0, []))) := rfl
theorem Mod_laysAll_0 (d : Nat) (a0 : Nat) (h : Hp) : EX d 189 0 [(0, .inr (.inr a0))] [] h = if sK h a0 = 11 then bak (EX d 189) 7 [] [] true (cal d 188 [.inr (.inr a0), .inl (-1), .inl (-1), .inl (-1)] h) else none := (EX_at bk_Mod_laysAll_0 _ _ _).trans rfl
theorem bk_Mod_laysAll_7 : blk 189 7 = some (((cd_Mod_laysAll.lookup 7).getD ([], 0, []))) := rfl
theorem Mod_laysAll_7 (d : Nat) (h : Hp) : EX d 189 7 [] [] h = some (.inl 0, h) := (EX_at bk_Mod_laysAll_7 _ _ _).trans rfl
/-! waysOf(I)J of HookOverModel: method 190 -/
theorem bk_Mod_waysOf_0 : blk 190 0 = some (((cd_Mod_waysOf.lookup 0).getD ([], 0, []))) := rfl
theorem Mod_waysOf_0 (d : Nat) (a0 : Nat) (x1 : Int) (h : Hp) : EX d 190 0 [(0, .inr (.inr a0)), (1, .inl x1)] [] h = if sK h a0 = 11 then bak (EX d 190) 10 [] [.inr (.inr (hR h a0 19))] false (cal d 185 [.inl (-1), .inl (-1), .inl x1] h) else none := (EX_at bk_Mod_waysOf_0 _ _ _).trans rfl
theorem bk_Mod_waysOf_10 : blk 190 10 = some (((cd_Mod_waysOf.lookup 10).getD ([], 0, []))) := rfl
theorem Mod_waysOf_10 (d : Nat) (r0 : Nat) (s1 : Int) (h : Hp) : EX d 190 10 [] [.inl s1, .inr (.inr r0)] h = if okx h r0 21 s1 then some (.inr (.inl (hL h r0 (ix s1))), h) else none := (EX_at bk_Mod_waysOf_10 _ _ _).trans rfl
/-! joinings(I)J of HookOverModel: method 191 -/
theorem bk_Mod_joinings_0 : blk 191 0 = some (((cd_Mod_joinings.lookup 0).getD ([], 0, []))) := rfl
theorem Mod_joinings_0 (d : Nat) (a0 : Nat) (x1 : Int) (h : Hp) : EX d 191 0 [(0, .inr (.inr a0)), (1, .inl x1)] [] h = if sK h a0 = 11 then EX d 191 5 [(0, .inr (.inr a0)), (1, .inl x1)] [] (pI h a0 0 0) else none := (EX_at bk_Mod_joinings_0 _ _ _).trans rfl
theorem bk_Mod_joinings_5 : blk 191 5 = some (((cd_Mod_joinings.lookup 5).getD ([], 0, []))) := rfl
theorem Mod_joinings_5 (d : Nat) (a0 : Nat) (x1 : Int) (h : Hp) : EX d 191 5 [(0, .inr (.inr a0)), (1, .inl x1)] [] h = bak (EX d 191) 14 [(0, .inr (.inr a0)), (1, .inl x1)] [] false (cal d 73 [.inr (.inl (wr x1)), .inr (.inl 0), .inr (.inl 12)] h) := (EX_at bk_Mod_joinings_5 _ _ _).trans rfl
theorem bk_Mod_joinings_14 : blk 191 14 = some (((cd_Mod_joinings.lookup 14).getD ([], 0, []))) := rfl
theorem Mod_joinings_14 (d : Nat) (a0 : Nat) (x1 : Int) (s0 : Int) (h : Hp) : EX d 191 14 [(0, .inr (.inr a0)), (1, .inl x1)] [.inl s0] h = if (wr s0) = 0 then EX d 191 17 [] [] h else EX d 191 21 [(0, .inr (.inr a0)), (1, .inl x1)] [] h := (EX_at bk_Mod_joinings_14 _ _ _).trans rfl
theorem bk_Mod_joinings_17 : blk 191 17 = some (((cd_Mod_joinings.lookup 17).getD ([], 0, []))) := rfl
theorem Mod_joinings_17 (d : Nat) (h : Hp) : EX d 191 17 [] [] h = some (.inr (.inl (-3)), h) := (EX_at bk_Mod_joinings_17 _ _ _).trans rfl
theorem bk_Mod_joinings_21 : blk 191 21 = some (((cd_Mod_joinings.lookup 21).getD ([], 0, []))) := rfl
theorem Mod_joinings_21 (d : Nat) (a0 : Nat) (x1 : Int) (h : Hp) : EX d 191 21 [(0, .inr (.inr a0)), (1, .inl x1)] [] h = if sK h a0 = 11 then bak (EX d 191) 25 [(0, .inr (.inr a0)), (1, .inl x1)] [] true (cal d 189 [.inr (.inr a0)] h) else none := (EX_at bk_Mod_joinings_21 _ _ _).trans rfl
theorem bk_Mod_joinings_25 : blk 191 25 = some (((cd_Mod_joinings.lookup 25).getD ([], 0, []))) := rfl
theorem Mod_joinings_25 (d : Nat) (a0 : Nat) (x1 : Int) (h : Hp) : EX d 191 25 [(0, .inr (.inr a0)), (1, .inl x1)] [] h = if sK h a0 = 11 then bak (EX d 191) 30 [] [] false (cal d 190 [.inr (.inr a0), .inl x1] h) else none := (EX_at bk_Mod_joinings_25 _ _ _).trans rfl
theorem bk_Mod_joinings_30 : blk 191 30 = some (((cd_Mod_joinings.lookup 30).getD ([], 0, []))) := rfl
theorem Mod_joinings_30 (d : Nat) (t0 : Int) (h : Hp) : EX d 191 30 [] [.inr (.inl t0)] h = some (.inr (.inl t0), h) := (EX_at bk_Mod_joinings_30 _ _ _).trans rfl
/-! fullOf()I of HookOverModel: method 193 -/
theorem bk_Mod_fullOf_0 : blk 193 0 = some (((cd_Mod_fullOf.lookup 0).getD ([], 0, []))) := rfl
theorem Mod_fullOf_0 (d : Nat) (a0 : Nat) (h : Hp) : EX d 193 0 [(0, .inr (.inr a0))] [] h = if sK h a0 = 11 then bak (EX d 193) 4 [(0, .inr (.inr a0))] [] true (cal d 189 [.inr (.inr a0)] h) else none := (EX_at bk_Mod_fullOf_0 _ _ _).trans rfl
theorem bk_Mod_fullOf_4 : blk 193 4 = some (((cd_Mod_fullOf.lookup 4).getD ([], 0, []))) := rfl
theorem Mod_fullOf_4 (d : Nat) (a0 : Nat) (h : Hp) : EX d 193 4 [(0, .inr (.inr a0))] [] h = EX d 193 7 [(0, .inr (.inr a0)), (1, .inl 12)] [] h := (EX_at bk_Mod_fullOf_4 _ _ _).trans rfl
theorem bk_Mod_fullOf_7 : blk 193 7 = some (((cd_Mod_fullOf.lookup 7).getD ([], 0, []))) := rfl
theorem Mod_fullOf_7 (d : Nat) (a0 : Nat) (x1 : Int) (h : Hp) : EX d 193 7 [(0, .inr (.inr a0)), (1, .inl x1)] [] h = if sK h a0 = 11 then bak (EX d 193) 12 [(0, .inr (.inr a0)), (1, .inl x1)] [] false (cal d 190 [.inr (.inr a0), .inl x1] h) else none := (EX_at bk_Mod_fullOf_7 _ _ _).trans rfl
theorem bk_Mod_fullOf_12 : blk 193 12 = some (((cd_Mod_fullOf.lookup 12).getD ([], 0, []))) := rfl
theorem Mod_fullOf_12 (d : Nat) (a0 : Nat) (x1 : Int) (t0 : Int) (h : Hp) : EX d 193 12 [(0, .inr (.inr a0)), (1, .inl x1)] [.inr (.inl t0)] h = if (wr (lCmp t0 0)) = 0 then EX d 193 17 [(0, .inr (.inr a0)), (1, .inl x1)] [] h else EX d 193 23 [(1, .inl x1)] [] h := (EX_at bk_Mod_fullOf_12 _ _ _).trans rfl
theorem bk_Mod_fullOf_17 : blk 193 17 = some (((cd_Mod_fullOf.lookup 17).getD ([], 0, []))) := rfl
theorem Mod_fullOf_17 (d : Nat) (a0 : Nat) (x1 : Int) (h : Hp) : EX d 193 17 [(0, .inr (.inr a0)), (1, .inl x1)] [] h = EX d 193 7 [(0, .inr (.inr a0)), (1, .inl (x1 + (-1)))] [] h := (EX_at bk_Mod_fullOf_17 _ _ _).trans rfl
theorem bk_Mod_fullOf_23 : blk 193 23 = some (((cd_Mod_fullOf.lookup 23).getD ([], 0, []))) := rfl
theorem Mod_fullOf_23 (d : Nat) (x1 : Int) (h : Hp) : EX d 193 23 [(1, .inl x1)] [] h = some (.inl x1, h) := (EX_at bk_Mod_fullOf_23 _ _ _).trans rfl
/-! full()I of HookOverModel: method 194 -/
theorem bk_Mod_full_0 : blk 194 0 = some (((cd_Mod_full.lookup 0).getD ([], 0, []))) := rfl
theorem Mod_full_0 (d : Nat) (a0 : Nat) (h : Hp) : EX d 194 0 [(0, .inr (.inr a0))] [] h = if sK h a0 = 11 then EX d 194 5 [(0, .inr (.inr a0))] [] (pI h a0 0 0) else none := (EX_at bk_Mod_full_0 _ _ _).trans rfl
theorem bk_Mod_full_5 : blk 194 5 = some (((cd_Mod_full.lookup 5).getD ([], 0, []))) := rfl
theorem Mod_full_5 (d : Nat) (a0 : Nat) (h : Hp) : EX d 194 5 [(0, .inr (.inr a0))] [] h = if sK h a0 = 11 then bak (EX d 194) 9 [] [] false (cal d 193 [.inr (.inr a0)] h) else none := (EX_at bk_Mod_full_5 _ _ _).trans rfl
theorem bk_Mod_full_9 : blk 194 9 = some (((cd_Mod_full.lookup 9).getD ([], 0, []))) := rfl
theorem Mod_full_9 (d : Nat) (s0 : Int) (h : Hp) : EX d 194 9 [] [.inl s0] h = some (.inl s0, h) := (EX_at bk_Mod_full_9 _ _ _).trans rfl
/-! asksHook(II)Z of HookOverModel: method 204 -/
theorem bk_Mod_asksHook_0 : blk 204 0 = some (((cd_Mod_asksHook.lookup 0).getD ([], 0, []))) := rfl
theorem Mod_asksHook_0 (d : Nat) (a0 : Nat) (x1 : Int) (x2 : Int) (h : Hp) : EX d 204 0 [(0, .inr (.inr a0)), (1, .inl x1), (2, .inl x2)] [] h = bak (EX d 204) 8 [(0, .inr (.inr a0)), (1, .inl x1)] [] false (cal d 73 [.inr (.inl (wr x1)), .inr (.inl 0), .inr (.inl (wr x2))] h) := (EX_at bk_Mod_asksHook_0 _ _ _).trans rfl
theorem bk_Mod_asksHook_8 : blk 204 8 = some (((cd_Mod_asksHook.lookup 8).getD ([], 0, []))) := rfl
theorem Mod_asksHook_8 (d : Nat) (a0 : Nat) (x1 : Int) (s0 : Int) (h : Hp) : EX d 204 8 [(0, .inr (.inr a0)), (1, .inl x1)] [.inl s0] h = if (wr s0) = 0 then EX d 204 11 [(0, .inr (.inr a0)), (1, .inl x1)] [] h else EX d 204 32 [] [] h := (EX_at bk_Mod_asksHook_8 _ _ _).trans rfl
theorem bk_Mod_asksHook_11 : blk 204 11 = some (((cd_Mod_asksHook.lookup 11).getD ([], 0, []))) := rfl
theorem Mod_asksHook_11 (d : Nat) (a0 : Nat) (x1 : Int) (h : Hp) : EX d 204 11 [(0, .inr (.inr a0)), (1, .inl x1)] [] h = if sK h a0 = 11 then if okx h (hR h a0 1) 20 1 then bak (EX d 204) 29 [] [] false (cal d 73 [.inr (.inl (wr x1)), .inr (.inl 10), .inr (.inl (wr (9 + (hI h (hR h a0 1) 1))))] h) else none else none := (EX_at bk_Mod_asksHook_11 _ _ _).trans rfl
theorem bk_Mod_asksHook_29 : blk 204 29 = some (((cd_Mod_asksHook.lookup 29).getD ([], 0, []))) := rfl
theorem Mod_asksHook_29 (d : Nat) (s0 : Int) (h : Hp) : EX d 204 29 [] [.inl s0] h = if (wr s0) = 0 then EX d 204 36 [] [] h else EX d 204 32 [] [] h := (EX_at bk_Mod_asksHook_29 _ _ _).trans rfl
theorem bk_Mod_asksHook_32 : blk 204 32 = some (((cd_Mod_asksHook.lookup 32).getD ([], 0, []))) := rfl
theorem Mod_asksHook_32 (d : Nat) (h : Hp) : EX d 204 32 [] [] h = EX d 204 37 [] [.inl 1] h := (EX_at bk_Mod_asksHook_32 _ _ _).trans rfl
theorem bk_Mod_asksHook_36 : blk 204 36 = some (((cd_Mod_asksHook.lookup 36).getD ([], 0, []))) := rfl
theorem Mod_asksHook_36 (d : Nat) (h : Hp) : EX d 204 36 [] [] h = EX d 204 37 [] [.inl 0] h := (EX_at bk_Mod_asksHook_36 _ _ _).trans rfl
theorem bk_Mod_asksHook_37 : blk 204 37 = some (((cd_Mod_asksHook.lookup 37).getD ([], 0, []))) := rfl
theorem Mod_asksHook_37 (d : Nat) (s0 : Int) (h : Hp) : EX d 204 37 [] [.inl s0] h = if ((s0 : Int) = 0 ∨ (s0 : Int) = 1) then some (.inl s0, h) else none := (EX_at bk_Mod_asksHook_37 _ _ _).trans rfl
/-! keptBy(II)I of HookOverModel: method 205 -/
theorem bk_Mod_keptBy_0 : blk 205 0 = some (((cd_Mod_keptBy.lookup 0).getD ([], 0, []))) := rfl
theorem Mod_keptBy_0 (d : Nat) (a0 : Nat) (x1 : Int) (x2 : Int) (h : Hp) : EX d 205 0 [(0, .inr (.inr a0)), (1, .inl x1), (2, .inl x2)] [] h = if sK h a0 = 11 then if okx h (hR h a0 1) 20 (61 + x1) then if (wr (hI h (hR h a0 1) (ix (61 + x1)))) = (wr x2) then EX d 205 15 [] [.inl 100] h else EX d 205 19 [] [.inl 100] h else none else none := (EX_at bk_Mod_keptBy_0 _ _ _).trans rfl
theorem bk_Mod_keptBy_15 : blk 205 15 = some (((cd_Mod_keptBy.lookup 15).getD ([], 0, []))) := rfl
theorem Mod_keptBy_15 (d : Nat) (s0 : Int) (h : Hp) : EX d 205 15 [] [.inl s0] h = EX d 205 20 [] [.inl 1, .inl s0] h := (EX_at bk_Mod_keptBy_15 _ _ _).trans rfl
theorem bk_Mod_keptBy_19 : blk 205 19 = some (((cd_Mod_keptBy.lookup 19).getD ([], 0, []))) := rfl
theorem Mod_keptBy_19 (d : Nat) (s0 : Int) (h : Hp) : EX d 205 19 [] [.inl s0] h = EX d 205 20 [] [.inl 0, .inl s0] h := (EX_at bk_Mod_keptBy_19 _ _ _).trans rfl
theorem bk_Mod_keptBy_20 : blk 205 20 = some (((cd_Mod_keptBy.lookup 20).getD ([], 0, []))) := rfl
theorem Mod_keptBy_20 (d : Nat) (s0 : Int) (s1 : Int) (h : Hp) : EX d 205 20 [] [.inl s1, .inl s0] h = some (.inl (s0 + s1), h) := (EX_at bk_Mod_keptBy_20 _ _ _).trans rfl
/-! laysRight()I of HookOverModel: method 206 -/
theorem bk_Mod_laysRight_0 : blk 206 0 = some (((cd_Mod_laysRight.lookup 0).getD ([], 0, []))) := rfl
theorem Mod_laysRight_0 (d : Nat) (a0 : Nat) (h : Hp) : EX d 206 0 [(0, .inr (.inr a0))] [] h = if sK h a0 = 11 then bak (EX d 206) 4 [(0, .inr (.inr a0))] [] true (cal d 189 [.inr (.inr a0)] h) else none := (EX_at bk_Mod_laysRight_0 _ _ _).trans rfl
theorem bk_Mod_laysRight_4 : blk 206 4 = some (((cd_Mod_laysRight.lookup 4).getD ([], 0, []))) := rfl
theorem Mod_laysRight_4 (d : Nat) (a0 : Nat) (h : Hp) : EX d 206 4 [(0, .inr (.inr a0))] [] h = if sK h a0 = 11 then if okx h (hR h a0 1) 20 1 then EX d 206 13 [(0, .inr (.inr a0)), (1, .inl ((hI h (hR h a0 1) 1) - 1))] [] h else none else none := (EX_at bk_Mod_laysRight_4 _ _ _).trans rfl
theorem bk_Mod_laysRight_13 : blk 206 13 = some (((cd_Mod_laysRight.lookup 13).getD ([], 0, []))) := rfl
theorem Mod_laysRight_13 (d : Nat) (a0 : Nat) (x1 : Int) (h : Hp) : EX d 206 13 [(0, .inr (.inr a0)), (1, .inl x1)] [] h = if (wr x1) < (-1) then EX d 206 200 [(0, .inr (.inr a0))] [] h else EX d 206 18 [(0, .inr (.inr a0)), (1, .inl x1)] [] h := (EX_at bk_Mod_laysRight_13 _ _ _).trans rfl
theorem bk_Mod_laysRight_18 : blk 206 18 = some (((cd_Mod_laysRight.lookup 18).getD ([], 0, []))) := rfl
theorem Mod_laysRight_18 (d : Nat) (a0 : Nat) (x1 : Int) (h : Hp) : EX d 206 18 [(0, .inr (.inr a0)), (1, .inl x1)] [] h = if sK h a0 = 11 then if okx h (hR h a0 1) 20 2 then EX d 206 27 [(0, .inr (.inr a0)), (1, .inl x1), (2, .inl ((hI h (hR h a0 1) 2) - 1))] [] h else none else none := (EX_at bk_Mod_laysRight_18 _ _ _).trans rfl
theorem bk_Mod_laysRight_27 : blk 206 27 = some (((cd_Mod_laysRight.lookup 27).getD ([], 0, []))) := rfl
theorem Mod_laysRight_27 (d : Nat) (a0 : Nat) (x1 : Int) (x2 : Int) (h : Hp) : EX d 206 27 [(0, .inr (.inr a0)), (1, .inl x1), (2, .inl x2)] [] h = if (wr x2) < (-1) then EX d 206 194 [(0, .inr (.inr a0)), (1, .inl x1)] [] h else EX d 206 32 [(0, .inr (.inr a0)), (1, .inl x1), (2, .inl x2)] [] h := (EX_at bk_Mod_laysRight_27 _ _ _).trans rfl
theorem bk_Mod_laysRight_32 : blk 206 32 = some (((cd_Mod_laysRight.lookup 32).getD ([], 0, []))) := rfl
theorem Mod_laysRight_32 (d : Nat) (a0 : Nat) (x1 : Int) (x2 : Int) (h : Hp) : EX d 206 32 [(0, .inr (.inr a0)), (1, .inl x1), (2, .inl x2)] [] h = if (wr x1) = (-1) then EX d 206 37 [(0, .inr (.inr a0)), (1, .inl x1), (2, .inl x2)] [] h else EX d 206 41 [(0, .inr (.inr a0)), (1, .inl x1), (2, .inl x2)] [] h := (EX_at bk_Mod_laysRight_32 _ _ _).trans rfl
theorem bk_Mod_laysRight_37 : blk 206 37 = some (((cd_Mod_laysRight.lookup 37).getD ([], 0, []))) := rfl
theorem Mod_laysRight_37 (d : Nat) (a0 : Nat) (x1 : Int) (x2 : Int) (h : Hp) : EX d 206 37 [(0, .inr (.inr a0)), (1, .inl x1), (2, .inl x2)] [] h = EX d 206 42 [(0, .inr (.inr a0)), (1, .inl x1), (2, .inl x2)] [.inl 1] h := (EX_at bk_Mod_laysRight_37 _ _ _).trans rfl
theorem bk_Mod_laysRight_41 : blk 206 41 = some (((cd_Mod_laysRight.lookup 41).getD ([], 0, []))) := rfl
theorem Mod_laysRight_41 (d : Nat) (a0 : Nat) (x1 : Int) (x2 : Int) (h : Hp) : EX d 206 41 [(0, .inr (.inr a0)), (1, .inl x1), (2, .inl x2)] [] h = EX d 206 42 [(0, .inr (.inr a0)), (1, .inl x1), (2, .inl x2)] [.inl 0] h := (EX_at bk_Mod_laysRight_41 _ _ _).trans rfl
theorem bk_Mod_laysRight_42 : blk 206 42 = some (((cd_Mod_laysRight.lookup 42).getD ([], 0, []))) := rfl
theorem Mod_laysRight_42 (d : Nat) (a0 : Nat) (x1 : Int) (x2 : Int) (s0 : Int) (h : Hp) : EX d 206 42 [(0, .inr (.inr a0)), (1, .inl x1), (2, .inl x2)] [.inl s0] h = if (wr x2) = (-1) then EX d 206 47 [(0, .inr (.inr a0)), (1, .inl x1), (2, .inl x2)] [.inl s0] h else EX d 206 51 [(0, .inr (.inr a0)), (1, .inl x1), (2, .inl x2)] [.inl s0] h := (EX_at bk_Mod_laysRight_42 _ _ _).trans rfl
theorem bk_Mod_laysRight_47 : blk 206 47 = some (((cd_Mod_laysRight.lookup 47).getD ([], 0, []))) := rfl
theorem Mod_laysRight_47 (d : Nat) (a0 : Nat) (x1 : Int) (x2 : Int) (s0 : Int) (h : Hp) : EX d 206 47 [(0, .inr (.inr a0)), (1, .inl x1), (2, .inl x2)] [.inl s0] h = EX d 206 52 [(0, .inr (.inr a0)), (1, .inl x1), (2, .inl x2)] [.inl 1, .inl s0] h := (EX_at bk_Mod_laysRight_47 _ _ _).trans rfl
theorem bk_Mod_laysRight_51 : blk 206 51 = some (((cd_Mod_laysRight.lookup 51).getD ([], 0, []))) := rfl
theorem Mod_laysRight_51 (d : Nat) (a0 : Nat) (x1 : Int) (x2 : Int) (s0 : Int) (h : Hp) : EX d 206 51 [(0, .inr (.inr a0)), (1, .inl x1), (2, .inl x2)] [.inl s0] h = EX d 206 52 [(0, .inr (.inr a0)), (1, .inl x1), (2, .inl x2)] [.inl 0, .inl s0] h := (EX_at bk_Mod_laysRight_51 _ _ _).trans rfl
theorem bk_Mod_laysRight_52 : blk 206 52 = some (((cd_Mod_laysRight.lookup 52).getD ([], 0, []))) := rfl
theorem Mod_laysRight_52 (d : Nat) (a0 : Nat) (x1 : Int) (x2 : Int) (s0 : Int) (s1 : Int) (h : Hp) : EX d 206 52 [(0, .inr (.inr a0)), (1, .inl x1), (2, .inl x2)] [.inl s1, .inl s0] h = if (wr s0) = (wr s1) then EX d 206 58 [(0, .inr (.inr a0)), (1, .inl x1), (2, .inl x2)] [] h else EX d 206 55 [(0, .inr (.inr a0)), (1, .inl x1), (2, .inl x2)] [] h := (EX_at bk_Mod_laysRight_52 _ _ _).trans rfl
theorem bk_Mod_laysRight_55 : blk 206 55 = some (((cd_Mod_laysRight.lookup 55).getD ([], 0, []))) := rfl
theorem Mod_laysRight_55 (d : Nat) (a0 : Nat) (x1 : Int) (x2 : Int) (h : Hp) : EX d 206 55 [(0, .inr (.inr a0)), (1, .inl x1), (2, .inl x2)] [] h = EX d 206 188 [(0, .inr (.inr a0)), (1, .inl x1), (2, .inl x2)] [] h := (EX_at bk_Mod_laysRight_55 _ _ _).trans rfl
theorem bk_Mod_laysRight_58 : blk 206 58 = some (((cd_Mod_laysRight.lookup 58).getD ([], 0, []))) := rfl
theorem Mod_laysRight_58 (d : Nat) (a0 : Nat) (x1 : Int) (x2 : Int) (h : Hp) : EX d 206 58 [(0, .inr (.inr a0)), (1, .inl x1), (2, .inl x2)] [] h = EX d 206 65 [(0, .inr (.inr a0)), (1, .inl x1), (2, .inl x2), (3, .inl 0), (4, .inl (x1 + 1))] [] h := (EX_at bk_Mod_laysRight_58 _ _ _).trans rfl
theorem bk_Mod_laysRight_65 : blk 206 65 = some (((cd_Mod_laysRight.lookup 65).getD ([], 0, []))) := rfl
theorem Mod_laysRight_65 (d : Nat) (a0 : Nat) (x1 : Int) (x2 : Int) (x3 : Int) (x4 : Int) (h : Hp) : EX d 206 65 [(0, .inr (.inr a0)), (1, .inl x1), (2, .inl x2), (3, .inl x3), (4, .inl x4)] [] h = if sK h a0 = 11 then if okx h (hR h a0 1) 20 1 then if (wr x4) < (wr (hI h (hR h a0 1) 1)) then EX d 206 76 [(0, .inr (.inr a0)), (1, .inl x1), (2, .inl x2), (3, .inl x3), (4, .inl x4)] [] h else EX d 206 172 [(0, .inr (.inr a0)), (1, .inl x1), (2, .inl x2), (3, .inl x3)] [] h else none else none := (EX_at bk_Mod_laysRight_65 _ _ _).trans rfl
theorem bk_Mod_laysRight_76 : blk 206 76 = some (((cd_Mod_laysRight.lookup 76).getD ([], 0, []))) := rfl
theorem Mod_laysRight_76 (d : Nat) (a0 : Nat) (x1 : Int) (x2 : Int) (x3 : Int) (x4 : Int) (h : Hp) : EX d 206 76 [(0, .inr (.inr a0)), (1, .inl x1), (2, .inl x2), (3, .inl x3), (4, .inl x4)] [] h = EX d 206 81 [(0, .inr (.inr a0)), (1, .inl x1), (2, .inl x2), (3, .inl x3), (4, .inl x4), (5, .inl (x2 + 1))] [] h := (EX_at bk_Mod_laysRight_76 _ _ _).trans rfl
theorem bk_Mod_laysRight_81 : blk 206 81 = some (((cd_Mod_laysRight.lookup 81).getD ([], 0, []))) := rfl
theorem Mod_laysRight_81 (d : Nat) (a0 : Nat) (x1 : Int) (x2 : Int) (x3 : Int) (x4 : Int) (x5 : Int) (h : Hp) : EX d 206 81 [(0, .inr (.inr a0)), (1, .inl x1), (2, .inl x2), (3, .inl x3), (4, .inl x4), (5, .inl x5)] [] h = if sK h a0 = 11 then if okx h (hR h a0 1) 20 2 then if (wr x5) < (wr (hI h (hR h a0 1) 2)) then EX d 206 92 [(0, .inr (.inr a0)), (1, .inl x1), (2, .inl x2), (3, .inl x3), (4, .inl x4), (5, .inl x5)] [] h else EX d 206 166 [(0, .inr (.inr a0)), (1, .inl x1), (2, .inl x2), (3, .inl x3), (4, .inl x4)] [] h else none else none := (EX_at bk_Mod_laysRight_81 _ _ _).trans rfl
theorem bk_Mod_laysRight_92 : blk 206 92 = some (((cd_Mod_laysRight.lookup 92).getD ([], 0, []))) := rfl
theorem Mod_laysRight_92 (d : Nat) (a0 : Nat) (x1 : Int) (x2 : Int) (x3 : Int) (x4 : Int) (x5 : Int) (h : Hp) : EX d 206 92 [(0, .inr (.inr a0)), (1, .inl x1), (2, .inl x2), (3, .inl x3), (4, .inl x4), (5, .inl x5)] [] h = if sK h a0 = 11 then bak (EX d 206) 102 [(0, .inr (.inr a0)), (1, .inl x1), (2, .inl x2), (3, .inl x3), (4, .inl x4), (5, .inl x5)] [] false (cal d 187 [.inr (.inr a0), .inl x1, .inl x2, .inl x4, .inl x5] h) else none := (EX_at bk_Mod_laysRight_92 _ _ _).trans rfl
theorem bk_Mod_laysRight_102 : blk 206 102 = some (((cd_Mod_laysRight.lookup 102).getD ([], 0, []))) := rfl
theorem Mod_laysRight_102 (d : Nat) (a0 : Nat) (x1 : Int) (x2 : Int) (x3 : Int) (x4 : Int) (x5 : Int) (s0 : Int) (h : Hp) : EX d 206 102 [(0, .inr (.inr a0)), (1, .inl x1), (2, .inl x2), (3, .inl x3), (4, .inl x4), (5, .inl x5)] [.inl s0] h = if (wr s0) = 0 then EX d 206 160 [(0, .inr (.inr a0)), (1, .inl x1), (2, .inl x2), (3, .inl x3), (4, .inl x4), (5, .inl x5)] [] h else EX d 206 105 [(0, .inr (.inr a0)), (1, .inl x1), (2, .inl x2), (3, .inl x3), (4, .inl x4), (5, .inl x5)] [] h := (EX_at bk_Mod_laysRight_102 _ _ _).trans rfl
theorem bk_Mod_laysRight_105 : blk 206 105 = some (((cd_Mod_laysRight.lookup 105).getD ([], 0, []))) := rfl
theorem Mod_laysRight_105 (d : Nat) (a0 : Nat) (x1 : Int) (x2 : Int) (x3 : Int) (x4 : Int) (x5 : Int) (h : Hp) : EX d 206 105 [(0, .inr (.inr a0)), (1, .inl x1), (2, .inl x2), (3, .inl x3), (4, .inl x4), (5, .inl x5)] [] h = if sK h a0 = 11 then bak (EX d 206) 113 [(0, .inr (.inr a0)), (1, .inl x1), (2, .inl x2), (3, .inl x3), (4, .inl x4), (5, .inl x5)] [] false (cal d 115 [.inr (.inr a0), .inl x4, .inl x5] h) else none := (EX_at bk_Mod_laysRight_105 _ _ _).trans rfl
theorem bk_Mod_laysRight_113 : blk 206 113 = some (((cd_Mod_laysRight.lookup 113).getD ([], 0, []))) := rfl
theorem Mod_laysRight_113 (d : Nat) (a0 : Nat) (x1 : Int) (x2 : Int) (x3 : Int) (x4 : Int) (x5 : Int) (s0 : Int) (h : Hp) : EX d 206 113 [(0, .inr (.inr a0)), (1, .inl x1), (2, .inl x2), (3, .inl x3), (4, .inl x4), (5, .inl x5)] [.inl s0] h = if (wr s0) = 0 then EX d 206 116 [(0, .inr (.inr a0)), (1, .inl x1), (2, .inl x2), (3, .inl x3), (4, .inl x4), (5, .inl x5)] [] h else EX d 206 119 [(0, .inr (.inr a0)), (1, .inl x1), (2, .inl x2), (3, .inl x3), (4, .inl x4), (5, .inl x5)] [] h := (EX_at bk_Mod_laysRight_113 _ _ _).trans rfl
theorem bk_Mod_laysRight_116 : blk 206 116 = some (((cd_Mod_laysRight.lookup 116).getD ([], 0, []))) := rfl
theorem Mod_laysRight_116 (d : Nat) (a0 : Nat) (x1 : Int) (x2 : Int) (x3 : Int) (x4 : Int) (x5 : Int) (h : Hp) : EX d 206 116 [(0, .inr (.inr a0)), (1, .inl x1), (2, .inl x2), (3, .inl x3), (4, .inl x4), (5, .inl x5)] [] h = EX d 206 160 [(0, .inr (.inr a0)), (1, .inl x1), (2, .inl x2), (3, .inl x3), (4, .inl x4), (5, .inl x5)] [] h := (EX_at bk_Mod_laysRight_116 _ _ _).trans rfl
theorem bk_Mod_laysRight_119 : blk 206 119 = some (((cd_Mod_laysRight.lookup 119).getD ([], 0, []))) := rfl
theorem Mod_laysRight_119 (d : Nat) (a0 : Nat) (x1 : Int) (x2 : Int) (x3 : Int) (x4 : Int) (x5 : Int) (h : Hp) : EX d 206 119 [(0, .inr (.inr a0)), (1, .inl x1), (2, .inl x2), (3, .inl x3), (4, .inl x4), (5, .inl x5)] [] h = if sK h a0 = 11 then bak (EX d 206) 127 [(0, .inr (.inr a0)), (1, .inl x1), (2, .inl x2), (3, .inl x3), (4, .inl x4), (5, .inl x5)] [] false (cal d 205 [.inr (.inr a0), .inl x4, .inl x5] h) else none := (EX_at bk_Mod_laysRight_119 _ _ _).trans rfl
theorem bk_Mod_laysRight_127 : blk 206 127 = some (((cd_Mod_laysRight.lookup 127).getD ([], 0, []))) := rfl
theorem Mod_laysRight_127 (d : Nat) (a0 : Nat) (x1 : Int) (x2 : Int) (x3 : Int) (x4 : Int) (x5 : Int) (s0 : Int) (h : Hp) : EX d 206 127 [(0, .inr (.inr a0)), (1, .inl x1), (2, .inl x2), (3, .inl x3), (4, .inl x4), (5, .inl x5)] [.inl s0] h = if sK h a0 = 11 then if okx h (hR h a0 24) 20 (((13 * (x4 + 1)) + x5) + 1) then if (wr x3) < (wr (s0 + (hI h (hR h a0 24) (ix (((13 * (x4 + 1)) + x5) + 1))))) then EX d 206 153 [(0, .inr (.inr a0)), (1, .inl x1), (2, .inl x2), (4, .inl x4), (5, .inl x5), (6, .inl (s0 + (hI h (hR h a0 24) (ix (((13 * (x4 + 1)) + x5) + 1)))))] [] h else EX d 206 158 [(0, .inr (.inr a0)), (1, .inl x1), (2, .inl x2), (3, .inl x3), (4, .inl x4), (5, .inl x5)] [] h else none else none := (EX_at bk_Mod_laysRight_127 _ _ _).trans rfl
theorem bk_Mod_laysRight_153 : blk 206 153 = some (((cd_Mod_laysRight.lookup 153).getD ([], 0, []))) := rfl
theorem Mod_laysRight_153 (d : Nat) (a0 : Nat) (x1 : Int) (x2 : Int) (x4 : Int) (x5 : Int) (x6 : Int) (h : Hp) : EX d 206 153 [(0, .inr (.inr a0)), (1, .inl x1), (2, .inl x2), (4, .inl x4), (5, .inl x5), (6, .inl x6)] [] h = EX d 206 159 [(0, .inr (.inr a0)), (1, .inl x1), (2, .inl x2), (4, .inl x4), (5, .inl x5)] [.inl x6] h := (EX_at bk_Mod_laysRight_153 _ _ _).trans rfl
theorem bk_Mod_laysRight_158 : blk 206 158 = some (((cd_Mod_laysRight.lookup 158).getD ([], 0, []))) := rfl
theorem Mod_laysRight_158 (d : Nat) (a0 : Nat) (x1 : Int) (x2 : Int) (x3 : Int) (x4 : Int) (x5 : Int) (h : Hp) : EX d 206 158 [(0, .inr (.inr a0)), (1, .inl x1), (2, .inl x2), (3, .inl x3), (4, .inl x4), (5, .inl x5)] [] h = EX d 206 159 [(0, .inr (.inr a0)), (1, .inl x1), (2, .inl x2), (4, .inl x4), (5, .inl x5)] [.inl x3] h := (EX_at bk_Mod_laysRight_158 _ _ _).trans rfl
theorem bk_Mod_laysRight_159 : blk 206 159 = some (((cd_Mod_laysRight.lookup 159).getD ([], 0, []))) := rfl
theorem Mod_laysRight_159 (d : Nat) (a0 : Nat) (x1 : Int) (x2 : Int) (x4 : Int) (x5 : Int) (s0 : Int) (h : Hp) : EX d 206 159 [(0, .inr (.inr a0)), (1, .inl x1), (2, .inl x2), (4, .inl x4), (5, .inl x5)] [.inl s0] h = EX d 206 160 [(0, .inr (.inr a0)), (1, .inl x1), (2, .inl x2), (3, .inl s0), (4, .inl x4), (5, .inl x5)] [] h := (EX_at bk_Mod_laysRight_159 _ _ _).trans rfl
theorem bk_Mod_laysRight_160 : blk 206 160 = some (((cd_Mod_laysRight.lookup 160).getD ([], 0, []))) := rfl
theorem Mod_laysRight_160 (d : Nat) (a0 : Nat) (x1 : Int) (x2 : Int) (x3 : Int) (x4 : Int) (x5 : Int) (h : Hp) : EX d 206 160 [(0, .inr (.inr a0)), (1, .inl x1), (2, .inl x2), (3, .inl x3), (4, .inl x4), (5, .inl x5)] [] h = EX d 206 81 [(0, .inr (.inr a0)), (1, .inl x1), (2, .inl x2), (3, .inl x3), (4, .inl x4), (5, .inl (x5 + 1))] [] h := (EX_at bk_Mod_laysRight_160 _ _ _).trans rfl
theorem bk_Mod_laysRight_166 : blk 206 166 = some (((cd_Mod_laysRight.lookup 166).getD ([], 0, []))) := rfl
theorem Mod_laysRight_166 (d : Nat) (a0 : Nat) (x1 : Int) (x2 : Int) (x3 : Int) (x4 : Int) (h : Hp) : EX d 206 166 [(0, .inr (.inr a0)), (1, .inl x1), (2, .inl x2), (3, .inl x3), (4, .inl x4)] [] h = EX d 206 65 [(0, .inr (.inr a0)), (1, .inl x1), (2, .inl x2), (3, .inl x3), (4, .inl (x4 + 1))] [] h := (EX_at bk_Mod_laysRight_166 _ _ _).trans rfl
theorem bk_Mod_laysRight_172 : blk 206 172 = some (((cd_Mod_laysRight.lookup 172).getD ([], 0, []))) := rfl
theorem Mod_laysRight_172 (d : Nat) (a0 : Nat) (x1 : Int) (x2 : Int) (x3 : Int) (h : Hp) : EX d 206 172 [(0, .inr (.inr a0)), (1, .inl x1), (2, .inl x2), (3, .inl x3)] [] h = if sK h a0 = 11 then if okx h (hR h a0 24) 20 (((13 * (x1 + 1)) + x2) + 1) then EX d 206 188 [(0, .inr (.inr a0)), (1, .inl x1), (2, .inl x2)] [] (pI h (hR h a0 24) (ix (((13 * (x1 + 1)) + x2) + 1)) x3) else none else none := (EX_at bk_Mod_laysRight_172 _ _ _).trans rfl
theorem bk_Mod_laysRight_188 : blk 206 188 = some (((cd_Mod_laysRight.lookup 188).getD ([], 0, []))) := rfl
theorem Mod_laysRight_188 (d : Nat) (a0 : Nat) (x1 : Int) (x2 : Int) (h : Hp) : EX d 206 188 [(0, .inr (.inr a0)), (1, .inl x1), (2, .inl x2)] [] h = EX d 206 27 [(0, .inr (.inr a0)), (1, .inl x1), (2, .inl (x2 + (-1)))] [] h := (EX_at bk_Mod_laysRight_188 _ _ _).trans rfl
theorem bk_Mod_laysRight_194 : blk 206 194 = some (((cd_Mod_laysRight.lookup 194).getD ([], 0, []))) := rfl
theorem Mod_laysRight_194 (d : Nat) (a0 : Nat) (x1 : Int) (h : Hp) : EX d 206 194 [(0, .inr (.inr a0)), (1, .inl x1)] [] h = EX d 206 13 [(0, .inr (.inr a0)), (1, .inl (x1 + (-1)))] [] h := (EX_at bk_Mod_laysRight_194 _ _ _).trans rfl
theorem bk_Mod_laysRight_200 : blk 206 200 = some (((cd_Mod_laysRight.lookup 200).getD ([], 0, []))) := rfl
theorem Mod_laysRight_200 (d : Nat) (a0 : Nat) (h : Hp) : EX d 206 200 [(0, .inr (.inr a0))] [] h = if sK h a0 = 11 then if okx h (hR h a0 24) 20 0 then some (.inl (hI h (hR h a0 24) 0), h) else none else none := (EX_at bk_Mod_laysRight_200 _ _ _).trans rfl
/-! foundNone()V of HookOverModel: method 207 -/
theorem bk_Mod_foundNone_0 : blk 207 0 = some (((cd_Mod_foundNone.lookup 0).getD ([], 0, []))) := rfl
theorem Mod_foundNone_0 (d : Nat) (a0 : Nat) (h : Hp) : EX d 207 0 [(0, .inr (.inr a0))] [] h = EX d 207 2 [(0, .inr (.inr a0)), (1, .inl 0)] [] h := (EX_at bk_Mod_foundNone_0 _ _ _).trans rfl
theorem bk_Mod_foundNone_2 : blk 207 2 = some (((cd_Mod_foundNone.lookup 2).getD ([], 0, []))) := rfl
theorem Mod_foundNone_2 (d : Nat) (a0 : Nat) (x1 : Int) (h : Hp) : EX d 207 2 [(0, .inr (.inr a0)), (1, .inl x1)] [] h = if (wr x1) < 12 then EX d 207 8 [(0, .inr (.inr a0)), (1, .inl x1)] [] h else EX d 207 21 [] [] h := (EX_at bk_Mod_foundNone_2 _ _ _).trans rfl
theorem bk_Mod_foundNone_8 : blk 207 8 = some (((cd_Mod_foundNone.lookup 8).getD ([], 0, []))) := rfl
theorem Mod_foundNone_8 (d : Nat) (a0 : Nat) (x1 : Int) (h : Hp) : EX d 207 8 [(0, .inr (.inr a0)), (1, .inl x1)] [] h = if sK h a0 = 11 then if okx h (hR h a0 23) 20 x1 then EX d 207 15 [(0, .inr (.inr a0)), (1, .inl x1)] [] (pI h (hR h a0 23) (ix x1) (-1)) else none else none := (EX_at bk_Mod_foundNone_8 _ _ _).trans rfl
theorem bk_Mod_foundNone_15 : blk 207 15 = some (((cd_Mod_foundNone.lookup 15).getD ([], 0, []))) := rfl
theorem Mod_foundNone_15 (d : Nat) (a0 : Nat) (x1 : Int) (h : Hp) : EX d 207 15 [(0, .inr (.inr a0)), (1, .inl x1)] [] h = EX d 207 2 [(0, .inr (.inr a0)), (1, .inl (x1 + 1))] [] h := (EX_at bk_Mod_foundNone_15 _ _ _).trans rfl
theorem bk_Mod_foundNone_21 : blk 207 21 = some (((cd_Mod_foundNone.lookup 21).getD ([], 0, []))) := rfl
theorem Mod_foundNone_21 (d : Nat) (h : Hp) : EX d 207 21 [] [] h = some (.inl 0, h) := (EX_at bk_Mod_foundNone_21 _ _ _).trans rfl
/-! findsRight()V of HookOverModel: method 208 -/
theorem bk_Mod_findsRight_0 : blk 208 0 = some (((cd_Mod_findsRight.lookup 0).getD ([], 0, []))) := rfl
theorem Mod_findsRight_0 (d : Nat) (a0 : Nat) (h : Hp) : EX d 208 0 [(0, .inr (.inr a0))] [] h = if sK h a0 = 11 then bak (EX d 208) 4 [(0, .inr (.inr a0))] [] true (cal d 207 [.inr (.inr a0)] h) else none := (EX_at bk_Mod_findsRight_0 _ _ _).trans rfl
theorem bk_Mod_findsRight_4 : blk 208 4 = some (((cd_Mod_findsRight.lookup 4).getD ([], 0, []))) := rfl
theorem Mod_findsRight_4 (d : Nat) (a0 : Nat) (h : Hp) : EX d 208 4 [(0, .inr (.inr a0))] [] h = EX d 208 8 [(0, .inr (.inr a0)), (1, .inl (-1)), (2, .inl (-1))] [] h := (EX_at bk_Mod_findsRight_4 _ _ _).trans rfl
theorem bk_Mod_findsRight_8 : blk 208 8 = some (((cd_Mod_findsRight.lookup 8).getD ([], 0, []))) := rfl
theorem Mod_findsRight_8 (d : Nat) (a0 : Nat) (x1 : Int) (x2 : Int) (h : Hp) : EX d 208 8 [(0, .inr (.inr a0)), (1, .inl x1), (2, .inl x2)] [] h = if sK h a0 = 11 then if okx h (hR h a0 24) 20 (((13 * (x1 + 1)) + x2) + 1) then if 0 < (wr (hI h (hR h a0 24) (ix (((13 * (x1 + 1)) + x2) + 1)))) then EX d 208 26 [(0, .inr (.inr a0)), (1, .inl x1), (2, .inl x2)] [] h else EX d 208 181 [] [] h else none else none := (EX_at bk_Mod_findsRight_8 _ _ _).trans rfl
theorem bk_Mod_findsRight_26 : blk 208 26 = some (((cd_Mod_findsRight.lookup 26).getD ([], 0, []))) := rfl
theorem Mod_findsRight_26 (d : Nat) (a0 : Nat) (x1 : Int) (x2 : Int) (h : Hp) : EX d 208 26 [(0, .inr (.inr a0)), (1, .inl x1), (2, .inl x2)] [] h = EX d 208 36 [(0, .inr (.inr a0)), (1, .inl x1), (2, .inl x2), (3, .inl x1), (4, .inl x2), (5, .inl (x1 + 1))] [] h := (EX_at bk_Mod_findsRight_26 _ _ _).trans rfl
theorem bk_Mod_findsRight_36 : blk 208 36 = some (((cd_Mod_findsRight.lookup 36).getD ([], 0, []))) := rfl
theorem Mod_findsRight_36 (d : Nat) (a0 : Nat) (x1 : Int) (x2 : Int) (x3 : Int) (x4 : Int) (x5 : Int) (h : Hp) : EX d 208 36 [(0, .inr (.inr a0)), (1, .inl x1), (2, .inl x2), (3, .inl x3), (4, .inl x4), (5, .inl x5)] [] h = if sK h a0 = 11 then if okx h (hR h a0 1) 20 1 then if (wr x5) < (wr (hI h (hR h a0 1) 1)) then EX d 208 47 [(0, .inr (.inr a0)), (1, .inl x1), (2, .inl x2), (3, .inl x3), (4, .inl x4), (5, .inl x5)] [] h else EX d 208 166 [(0, .inr (.inr a0)), (3, .inl x3), (4, .inl x4)] [] h else none else none := (EX_at bk_Mod_findsRight_36 _ _ _).trans rfl
theorem bk_Mod_findsRight_47 : blk 208 47 = some (((cd_Mod_findsRight.lookup 47).getD ([], 0, []))) := rfl
theorem Mod_findsRight_47 (d : Nat) (a0 : Nat) (x1 : Int) (x2 : Int) (x3 : Int) (x4 : Int) (x5 : Int) (h : Hp) : EX d 208 47 [(0, .inr (.inr a0)), (1, .inl x1), (2, .inl x2), (3, .inl x3), (4, .inl x4), (5, .inl x5)] [] h = if (wr x3) = (wr x1) then EX d 208 52 [(0, .inr (.inr a0)), (1, .inl x1), (2, .inl x2), (3, .inl x3), (4, .inl x4), (5, .inl x5)] [] h else EX d 208 166 [(0, .inr (.inr a0)), (3, .inl x3), (4, .inl x4)] [] h := (EX_at bk_Mod_findsRight_47 _ _ _).trans rfl
theorem bk_Mod_findsRight_52 : blk 208 52 = some (((cd_Mod_findsRight.lookup 52).getD ([], 0, []))) := rfl
theorem Mod_findsRight_52 (d : Nat) (a0 : Nat) (x1 : Int) (x2 : Int) (x3 : Int) (x4 : Int) (x5 : Int) (h : Hp) : EX d 208 52 [(0, .inr (.inr a0)), (1, .inl x1), (2, .inl x2), (3, .inl x3), (4, .inl x4), (5, .inl x5)] [] h = EX d 208 57 [(0, .inr (.inr a0)), (1, .inl x1), (2, .inl x2), (3, .inl x3), (4, .inl x4), (5, .inl x5), (6, .inl (x2 + 1))] [] h := (EX_at bk_Mod_findsRight_52 _ _ _).trans rfl
theorem bk_Mod_findsRight_57 : blk 208 57 = some (((cd_Mod_findsRight.lookup 57).getD ([], 0, []))) := rfl
theorem Mod_findsRight_57 (d : Nat) (a0 : Nat) (x1 : Int) (x2 : Int) (x3 : Int) (x4 : Int) (x5 : Int) (x6 : Int) (h : Hp) : EX d 208 57 [(0, .inr (.inr a0)), (1, .inl x1), (2, .inl x2), (3, .inl x3), (4, .inl x4), (5, .inl x5), (6, .inl x6)] [] h = if sK h a0 = 11 then if okx h (hR h a0 1) 20 2 then if (wr x6) < (wr (hI h (hR h a0 1) 2)) then EX d 208 68 [(0, .inr (.inr a0)), (1, .inl x1), (2, .inl x2), (3, .inl x3), (4, .inl x4), (5, .inl x5), (6, .inl x6)] [] h else EX d 208 160 [(0, .inr (.inr a0)), (1, .inl x1), (2, .inl x2), (3, .inl x3), (4, .inl x4), (5, .inl x5)] [] h else none else none := (EX_at bk_Mod_findsRight_57 _ _ _).trans rfl
theorem bk_Mod_findsRight_68 : blk 208 68 = some (((cd_Mod_findsRight.lookup 68).getD ([], 0, []))) := rfl
theorem Mod_findsRight_68 (d : Nat) (a0 : Nat) (x1 : Int) (x2 : Int) (x3 : Int) (x4 : Int) (x5 : Int) (x6 : Int) (h : Hp) : EX d 208 68 [(0, .inr (.inr a0)), (1, .inl x1), (2, .inl x2), (3, .inl x3), (4, .inl x4), (5, .inl x5), (6, .inl x6)] [] h = if (wr x3) = (wr x1) then EX d 208 73 [(0, .inr (.inr a0)), (1, .inl x1), (2, .inl x2), (3, .inl x3), (4, .inl x4), (5, .inl x5), (6, .inl x6)] [] h else EX d 208 160 [(0, .inr (.inr a0)), (1, .inl x1), (2, .inl x2), (3, .inl x3), (4, .inl x4), (5, .inl x5)] [] h := (EX_at bk_Mod_findsRight_68 _ _ _).trans rfl
theorem bk_Mod_findsRight_73 : blk 208 73 = some (((cd_Mod_findsRight.lookup 73).getD ([], 0, []))) := rfl
theorem Mod_findsRight_73 (d : Nat) (a0 : Nat) (x1 : Int) (x2 : Int) (x3 : Int) (x4 : Int) (x5 : Int) (x6 : Int) (h : Hp) : EX d 208 73 [(0, .inr (.inr a0)), (1, .inl x1), (2, .inl x2), (3, .inl x3), (4, .inl x4), (5, .inl x5), (6, .inl x6)] [] h = if sK h a0 = 11 then bak (EX d 208) 83 [(0, .inr (.inr a0)), (1, .inl x1), (2, .inl x2), (3, .inl x3), (4, .inl x4), (5, .inl x5), (6, .inl x6)] [] false (cal d 187 [.inr (.inr a0), .inl x1, .inl x2, .inl x5, .inl x6] h) else none := (EX_at bk_Mod_findsRight_73 _ _ _).trans rfl
theorem bk_Mod_findsRight_83 : blk 208 83 = some (((cd_Mod_findsRight.lookup 83).getD ([], 0, []))) := rfl
theorem Mod_findsRight_83 (d : Nat) (a0 : Nat) (x1 : Int) (x2 : Int) (x3 : Int) (x4 : Int) (x5 : Int) (x6 : Int) (s0 : Int) (h : Hp) : EX d 208 83 [(0, .inr (.inr a0)), (1, .inl x1), (2, .inl x2), (3, .inl x3), (4, .inl x4), (5, .inl x5), (6, .inl x6)] [.inl s0] h = if (wr s0) = 0 then EX d 208 154 [(0, .inr (.inr a0)), (1, .inl x1), (2, .inl x2), (3, .inl x3), (4, .inl x4), (5, .inl x5), (6, .inl x6)] [] h else EX d 208 86 [(0, .inr (.inr a0)), (1, .inl x1), (2, .inl x2), (3, .inl x3), (4, .inl x4), (5, .inl x5), (6, .inl x6)] [] h := (EX_at bk_Mod_findsRight_83 _ _ _).trans rfl
theorem bk_Mod_findsRight_86 : blk 208 86 = some (((cd_Mod_findsRight.lookup 86).getD ([], 0, []))) := rfl
theorem Mod_findsRight_86 (d : Nat) (a0 : Nat) (x1 : Int) (x2 : Int) (x3 : Int) (x4 : Int) (x5 : Int) (x6 : Int) (h : Hp) : EX d 208 86 [(0, .inr (.inr a0)), (1, .inl x1), (2, .inl x2), (3, .inl x3), (4, .inl x4), (5, .inl x5), (6, .inl x6)] [] h = if sK h a0 = 11 then bak (EX d 208) 94 [(0, .inr (.inr a0)), (1, .inl x1), (2, .inl x2), (3, .inl x3), (4, .inl x4), (5, .inl x5), (6, .inl x6)] [] false (cal d 115 [.inr (.inr a0), .inl x5, .inl x6] h) else none := (EX_at bk_Mod_findsRight_86 _ _ _).trans rfl
theorem bk_Mod_findsRight_94 : blk 208 94 = some (((cd_Mod_findsRight.lookup 94).getD ([], 0, []))) := rfl
theorem Mod_findsRight_94 (d : Nat) (a0 : Nat) (x1 : Int) (x2 : Int) (x3 : Int) (x4 : Int) (x5 : Int) (x6 : Int) (s0 : Int) (h : Hp) : EX d 208 94 [(0, .inr (.inr a0)), (1, .inl x1), (2, .inl x2), (3, .inl x3), (4, .inl x4), (5, .inl x5), (6, .inl x6)] [.inl s0] h = if (wr s0) = 0 then EX d 208 97 [(0, .inr (.inr a0)), (1, .inl x1), (2, .inl x2), (3, .inl x3), (4, .inl x4), (5, .inl x5), (6, .inl x6)] [] h else EX d 208 100 [(0, .inr (.inr a0)), (1, .inl x1), (2, .inl x2), (3, .inl x3), (4, .inl x4), (5, .inl x5), (6, .inl x6)] [] h := (EX_at bk_Mod_findsRight_94 _ _ _).trans rfl
theorem bk_Mod_findsRight_97 : blk 208 97 = some (((cd_Mod_findsRight.lookup 97).getD ([], 0, []))) := rfl
theorem Mod_findsRight_97 (d : Nat) (a0 : Nat) (x1 : Int) (x2 : Int) (x3 : Int) (x4 : Int) (x5 : Int) (x6 : Int) (h : Hp) : EX d 208 97 [(0, .inr (.inr a0)), (1, .inl x1), (2, .inl x2), (3, .inl x3), (4, .inl x4), (5, .inl x5), (6, .inl x6)] [] h = EX d 208 154 [(0, .inr (.inr a0)), (1, .inl x1), (2, .inl x2), (3, .inl x3), (4, .inl x4), (5, .inl x5), (6, .inl x6)] [] h := (EX_at bk_Mod_findsRight_97 _ _ _).trans rfl
theorem bk_Mod_findsRight_100 : blk 208 100 = some (((cd_Mod_findsRight.lookup 100).getD ([], 0, []))) := rfl
theorem Mod_findsRight_100 (d : Nat) (a0 : Nat) (x1 : Int) (x2 : Int) (x3 : Int) (x4 : Int) (x5 : Int) (x6 : Int) (h : Hp) : EX d 208 100 [(0, .inr (.inr a0)), (1, .inl x1), (2, .inl x2), (3, .inl x3), (4, .inl x4), (5, .inl x5), (6, .inl x6)] [] h = if sK h a0 = 11 then bak (EX d 208) 108 [(0, .inr (.inr a0)), (1, .inl x1), (2, .inl x2), (3, .inl x3), (4, .inl x4), (5, .inl x5), (6, .inl x6)] [] false (cal d 205 [.inr (.inr a0), .inl x5, .inl x6] h) else none := (EX_at bk_Mod_findsRight_100 _ _ _).trans rfl
theorem bk_Mod_findsRight_108 : blk 208 108 = some (((cd_Mod_findsRight.lookup 108).getD ([], 0, []))) := rfl
theorem Mod_findsRight_108 (d : Nat) (a0 : Nat) (x1 : Int) (x2 : Int) (x3 : Int) (x4 : Int) (x5 : Int) (x6 : Int) (s0 : Int) (h : Hp) : EX d 208 108 [(0, .inr (.inr a0)), (1, .inl x1), (2, .inl x2), (3, .inl x3), (4, .inl x4), (5, .inl x5), (6, .inl x6)] [.inl s0] h = if sK h a0 = 11 then if okx h (hR h a0 24) 20 (((13 * (x5 + 1)) + x6) + 1) then if sK h a0 = 11 then if okx h (hR h a0 24) 20 (((13 * (x1 + 1)) + x2) + 1) then if (wr (s0 + (hI h (hR h a0 24) (ix (((13 * (x5 + 1)) + x6) + 1))))) = (wr (hI h (hR h a0 24) (ix (((13 * (x1 + 1)) + x2) + 1)))) then EX d 208 147 [(0, .inr (.inr a0)), (1, .inl x1), (2, .inl x2), (5, .inl x5), (6, .inl x6)] [] h else EX d 208 144 [(0, .inr (.inr a0)), (1, .inl x1), (2, .inl x2), (3, .inl x3), (4, .inl x4), (5, .inl x5), (6, .inl x6)] [] h else none else none else none else none := (EX_at bk_Mod_findsRight_108 _ _ _).trans rfl
theorem bk_Mod_findsRight_144 : blk 208 144 = some (((cd_Mod_findsRight.lookup 144).getD ([], 0, []))) := rfl
theorem Mod_findsRight_144 (d : Nat) (a0 : Nat) (x1 : Int) (x2 : Int) (x3 : Int) (x4 : Int) (x5 : Int) (x6 : Int) (h : Hp) : EX d 208 144 [(0, .inr (.inr a0)), (1, .inl x1), (2, .inl x2), (3, .inl x3), (4, .inl x4), (5, .inl x5), (6, .inl x6)] [] h = EX d 208 154 [(0, .inr (.inr a0)), (1, .inl x1), (2, .inl x2), (3, .inl x3), (4, .inl x4), (5, .inl x5), (6, .inl x6)] [] h := (EX_at bk_Mod_findsRight_144 _ _ _).trans rfl
theorem bk_Mod_findsRight_147 : blk 208 147 = some (((cd_Mod_findsRight.lookup 147).getD ([], 0, []))) := rfl
theorem Mod_findsRight_147 (d : Nat) (a0 : Nat) (x1 : Int) (x2 : Int) (x5 : Int) (x6 : Int) (h : Hp) : EX d 208 147 [(0, .inr (.inr a0)), (1, .inl x1), (2, .inl x2), (5, .inl x5), (6, .inl x6)] [] h = EX d 208 154 [(0, .inr (.inr a0)), (1, .inl x1), (2, .inl x2), (3, .inl x5), (4, .inl x6), (5, .inl x5), (6, .inl x6)] [] h := (EX_at bk_Mod_findsRight_147 _ _ _).trans rfl
theorem bk_Mod_findsRight_154 : blk 208 154 = some (((cd_Mod_findsRight.lookup 154).getD ([], 0, []))) := rfl
theorem Mod_findsRight_154 (d : Nat) (a0 : Nat) (x1 : Int) (x2 : Int) (x3 : Int) (x4 : Int) (x5 : Int) (x6 : Int) (h : Hp) : EX d 208 154 [(0, .inr (.inr a0)), (1, .inl x1), (2, .inl x2), (3, .inl x3), (4, .inl x4), (5, .inl x5), (6, .inl x6)] [] h = EX d 208 57 [(0, .inr (.inr a0)), (1, .inl x1), (2, .inl x2), (3, .inl x3), (4, .inl x4), (5, .inl x5), (6, .inl (x6 + 1))] [] h := (EX_at bk_Mod_findsRight_154 _ _ _).trans rfl
theorem bk_Mod_findsRight_160 : blk 208 160 = some (((cd_Mod_findsRight.lookup 160).getD ([], 0, []))) := rfl
theorem Mod_findsRight_160 (d : Nat) (a0 : Nat) (x1 : Int) (x2 : Int) (x3 : Int) (x4 : Int) (x5 : Int) (h : Hp) : EX d 208 160 [(0, .inr (.inr a0)), (1, .inl x1), (2, .inl x2), (3, .inl x3), (4, .inl x4), (5, .inl x5)] [] h = EX d 208 36 [(0, .inr (.inr a0)), (1, .inl x1), (2, .inl x2), (3, .inl x3), (4, .inl x4), (5, .inl (x5 + 1))] [] h := (EX_at bk_Mod_findsRight_160 _ _ _).trans rfl
theorem bk_Mod_findsRight_166 : blk 208 166 = some (((cd_Mod_findsRight.lookup 166).getD ([], 0, []))) := rfl
theorem Mod_findsRight_166 (d : Nat) (a0 : Nat) (x3 : Int) (x4 : Int) (h : Hp) : EX d 208 166 [(0, .inr (.inr a0)), (3, .inl x3), (4, .inl x4)] [] h = if sK h a0 = 11 then if okx h (hR h a0 23) 20 x3 then EX d 208 178 [(0, .inr (.inr a0)), (1, .inl x3), (2, .inl x4)] [] (pI h (hR h a0 23) (ix x3) x4) else none else none := (EX_at bk_Mod_findsRight_166 _ _ _).trans rfl
theorem bk_Mod_findsRight_178 : blk 208 178 = some (((cd_Mod_findsRight.lookup 178).getD ([], 0, []))) := rfl
theorem Mod_findsRight_178 (d : Nat) (a0 : Nat) (x1 : Int) (x2 : Int) (h : Hp) : EX d 208 178 [(0, .inr (.inr a0)), (1, .inl x1), (2, .inl x2)] [] h = EX d 208 8 [(0, .inr (.inr a0)), (1, .inl x1), (2, .inl x2)] [] h := (EX_at bk_Mod_findsRight_178 _ _ _).trans rfl
theorem bk_Mod_findsRight_181 : blk 208 181 = some (((cd_Mod_findsRight.lookup 181).getD ([], 0, []))) := rfl
theorem Mod_findsRight_181 (d : Nat) (h : Hp) : EX d 208 181 [] [] h = some (.inl 0, h) := (EX_at bk_Mod_findsRight_181 _ _ _).trans rfl
/-! mended(I)I of HookOverModel: method 209 -/
theorem bk_Mod_mended_0 : blk 209 0 = some (((cd_Mod_mended.lookup 0).getD ([], 0, []))) := rfl
theorem Mod_mended_0 (d : Nat) (a0 : Nat) (x1 : Int) (h : Hp) : EX d 209 0 [(0, .inr (.inr a0)), (1, .inl x1)] [] h = if sK h a0 = 11 then EX d 209 5 [(0, .inr (.inr a0)), (1, .inl x1)] [] (pI h a0 0 0) else none := (EX_at bk_Mod_mended_0 _ _ _).trans rfl
theorem bk_Mod_mended_5 : blk 209 5 = some (((cd_Mod_mended.lookup 5).getD ([], 0, []))) := rfl
theorem Mod_mended_5 (d : Nat) (a0 : Nat) (x1 : Int) (h : Hp) : EX d 209 5 [(0, .inr (.inr a0)), (1, .inl x1)] [] h = if sK h a0 = 11 then bak (EX d 209) 11 [(0, .inr (.inr a0)), (1, .inl x1)] [] false (cal d 204 [.inr (.inr a0), .inl x1, .inl 1] h) else none := (EX_at bk_Mod_mended_5 _ _ _).trans rfl
theorem bk_Mod_mended_11 : blk 209 11 = some (((cd_Mod_mended.lookup 11).getD ([], 0, []))) := rfl
theorem Mod_mended_11 (d : Nat) (a0 : Nat) (x1 : Int) (s0 : Int) (h : Hp) : EX d 209 11 [(0, .inr (.inr a0)), (1, .inl x1)] [.inl s0] h = if (wr s0) = 0 then EX d 209 14 [] [] h else EX d 209 17 [(0, .inr (.inr a0)), (1, .inl x1)] [] h := (EX_at bk_Mod_mended_11 _ _ _).trans rfl
theorem bk_Mod_mended_14 : blk 209 14 = some (((cd_Mod_mended.lookup 14).getD ([], 0, []))) := rfl
theorem Mod_mended_14 (d : Nat) (h : Hp) : EX d 209 14 [] [] h = some (.inl (-2), h) := (EX_at bk_Mod_mended_14 _ _ _).trans rfl
theorem bk_Mod_mended_17 : blk 209 17 = some (((cd_Mod_mended.lookup 17).getD ([], 0, []))) := rfl
theorem Mod_mended_17 (d : Nat) (a0 : Nat) (x1 : Int) (h : Hp) : EX d 209 17 [(0, .inr (.inr a0)), (1, .inl x1)] [] h = if sK h a0 = 11 then bak (EX d 209) 21 [(0, .inr (.inr a0)), (1, .inl x1)] [] false (cal d 206 [.inr (.inr a0)] h) else none := (EX_at bk_Mod_mended_17 _ _ _).trans rfl
theorem bk_Mod_mended_21 : blk 209 21 = some (((cd_Mod_mended.lookup 21).getD ([], 0, []))) := rfl
theorem Mod_mended_21 (d : Nat) (a0 : Nat) (x1 : Int) (s0 : Int) (h : Hp) : EX d 209 21 [(0, .inr (.inr a0)), (1, .inl x1)] [.inl s0] h = if (wr x1) = 0 then EX d 209 26 [(2, .inl s0)] [] h else EX d 209 31 [(0, .inr (.inr a0)), (1, .inl x1), (2, .inl s0)] [] h := (EX_at bk_Mod_mended_21 _ _ _).trans rfl
theorem bk_Mod_mended_26 : blk 209 26 = some (((cd_Mod_mended.lookup 26).getD ([], 0, []))) := rfl
theorem Mod_mended_26 (d : Nat) (x2 : Int) (h : Hp) : EX d 209 26 [(2, .inl x2)] [] h = some (.inl (bDiv x2 100), h) := (EX_at bk_Mod_mended_26 _ _ _).trans rfl
theorem bk_Mod_mended_31 : blk 209 31 = some (((cd_Mod_mended.lookup 31).getD ([], 0, []))) := rfl
theorem Mod_mended_31 (d : Nat) (a0 : Nat) (x1 : Int) (x2 : Int) (h : Hp) : EX d 209 31 [(0, .inr (.inr a0)), (1, .inl x1), (2, .inl x2)] [] h = if (wr x1) = 1 then EX d 209 36 [(0, .inr (.inr a0)), (2, .inl x2)] [] h else EX d 209 46 [(0, .inr (.inr a0)), (1, .inl x1)] [] h := (EX_at bk_Mod_mended_31 _ _ _).trans rfl
theorem bk_Mod_mended_36 : blk 209 36 = some (((cd_Mod_mended.lookup 36).getD ([], 0, []))) := rfl
theorem Mod_mended_36 (d : Nat) (a0 : Nat) (x2 : Int) (h : Hp) : EX d 209 36 [(0, .inr (.inr a0)), (2, .inl x2)] [] h = if sK h a0 = 11 then bak (EX d 209) 40 [(2, .inl x2)] [] false (cal d 128 [.inr (.inr a0)] h) else none := (EX_at bk_Mod_mended_36 _ _ _).trans rfl
theorem bk_Mod_mended_40 : blk 209 40 = some (((cd_Mod_mended.lookup 40).getD ([], 0, []))) := rfl
theorem Mod_mended_40 (d : Nat) (x2 : Int) (s0 : Int) (h : Hp) : EX d 209 40 [(2, .inl x2)] [.inl s0] h = some (.inl (s0 - (bRem x2 100)), h) := (EX_at bk_Mod_mended_40 _ _ _).trans rfl
theorem bk_Mod_mended_46 : blk 209 46 = some (((cd_Mod_mended.lookup 46).getD ([], 0, []))) := rfl
theorem Mod_mended_46 (d : Nat) (a0 : Nat) (x1 : Int) (h : Hp) : EX d 209 46 [(0, .inr (.inr a0)), (1, .inl x1)] [] h = if sK h a0 = 11 then bak (EX d 209) 50 [(0, .inr (.inr a0)), (1, .inl x1)] [] true (cal d 208 [.inr (.inr a0)] h) else none := (EX_at bk_Mod_mended_46 _ _ _).trans rfl
theorem bk_Mod_mended_50 : blk 209 50 = some (((cd_Mod_mended.lookup 50).getD ([], 0, []))) := rfl
theorem Mod_mended_50 (d : Nat) (a0 : Nat) (x1 : Int) (h : Hp) : EX d 209 50 [(0, .inr (.inr a0)), (1, .inl x1)] [] h = if sK h a0 = 11 then if okx h (hR h a0 23) 20 (x1 - 10) then some (.inl (hI h (hR h a0 23) (ix (x1 - 10))), h) else none else none := (EX_at bk_Mod_mended_50 _ _ _).trans rfl
/-! worse(II)I of HookOverModel: method 215 -/
theorem bk_Mod_worse_0 : blk 215 0 = some (((cd_Mod_worse.lookup 0).getD ([], 0, []))) := rfl
theorem Mod_worse_0 (d : Nat) (x0 : Int) (x1 : Int) (h : Hp) : EX d 215 0 [(0, .inl x0), (1, .inl x1)] [] h = if (wr x1) < (wr x0) then EX d 215 5 [(0, .inl x0)] [] h else EX d 215 9 [(1, .inl x1)] [] h := (EX_at bk_Mod_worse_0 _ _ _).trans rfl
theorem bk_Mod_worse_5 : blk 215 5 = some (((cd_Mod_worse.lookup 5).getD ([], 0, []))) := rfl
theorem Mod_worse_5 (d : Nat) (x0 : Int) (h : Hp) : EX d 215 5 [(0, .inl x0)] [] h = EX d 215 10 [] [.inl x0] h := (EX_at bk_Mod_worse_5 _ _ _).trans rfl
theorem bk_Mod_worse_9 : blk 215 9 = some (((cd_Mod_worse.lookup 9).getD ([], 0, []))) := rfl
theorem Mod_worse_9 (d : Nat) (x1 : Int) (h : Hp) : EX d 215 9 [(1, .inl x1)] [] h = EX d 215 10 [] [.inl x1] h := (EX_at bk_Mod_worse_9 _ _ _).trans rfl
theorem bk_Mod_worse_10 : blk 215 10 = some (((cd_Mod_worse.lookup 10).getD ([], 0, []))) := rfl
theorem Mod_worse_10 (d : Nat) (s0 : Int) (h : Hp) : EX d 215 10 [] [.inl s0] h = some (.inl s0, h) := (EX_at bk_Mod_worse_10 _ _ _).trans rfl
/-! leastBy([IIIIIIIZ)I of HookOverModel: method 216 -/
theorem bk_Mod_leastBy_0 : blk 216 0 = some (((cd_Mod_leastBy.lookup 0).getD ([], 0, []))) := rfl
theorem Mod_leastBy_0 (d : Nat) (a0 : Nat) (a1 : Nat) (x2 : Int) (x3 : Int) (x4 : Int) (x5 : Int) (x6 : Int) (x7 : Int) (x8 : Int) (h : Hp) : EX d 216 0 [(0, .inr (.inr a0)), (1, .inr (.inr a1)), (2, .inl x2), (3, .inl x3), (4, .inl x4), (5, .inl x5), (6, .inl x6), (7, .inl x7), (8, .inl x8)] [] h = if sK h a0 = 11 then bak (EX d 216) 10 [(0, .inr (.inr a0)), (1, .inr (.inr a1)), (2, .inl x2), (3, .inl x3), (4, .inl x4), (5, .inl x5), (6, .inl x6), (7, .inl x7), (8, .inl x8)] [] false (cal d 187 [.inr (.inr a0), .inl x2, .inl x3, .inl x4, .inl x5] h) else none := (EX_at bk_Mod_leastBy_0 _ _ _).trans rfl
theorem bk_Mod_leastBy_10 : blk 216 10 = some (((cd_Mod_leastBy.lookup 10).getD ([], 0, []))) := rfl
theorem Mod_leastBy_10 (d : Nat) (a0 : Nat) (a1 : Nat) (x2 : Int) (x3 : Int) (x4 : Int) (x5 : Int) (x6 : Int) (x7 : Int) (x8 : Int) (s0 : Int) (h : Hp) : EX d 216 10 [(0, .inr (.inr a0)), (1, .inr (.inr a1)), (2, .inl x2), (3, .inl x3), (4, .inl x4), (5, .inl x5), (6, .inl x6), (7, .inl x7), (8, .inl x8)] [.inl s0] h = if (wr s0) = 0 then EX d 216 13 [] [] h else EX d 216 15 [(0, .inr (.inr a0)), (1, .inr (.inr a1)), (2, .inl x2), (3, .inl x3), (4, .inl x4), (5, .inl x5), (6, .inl x6), (7, .inl x7), (8, .inl x8)] [] h := (EX_at bk_Mod_leastBy_10 _ _ _).trans rfl
theorem bk_Mod_leastBy_13 : blk 216 13 = some (((cd_Mod_leastBy.lookup 13).getD ([], 0, []))) := rfl
theorem Mod_leastBy_13 (d : Nat) (h : Hp) : EX d 216 13 [] [] h = some (.inl (-1), h) := (EX_at bk_Mod_leastBy_13 _ _ _).trans rfl
theorem bk_Mod_leastBy_15 : blk 216 15 = some (((cd_Mod_leastBy.lookup 15).getD ([], 0, []))) := rfl
theorem Mod_leastBy_15 (d : Nat) (a0 : Nat) (a1 : Nat) (x2 : Int) (x3 : Int) (x4 : Int) (x5 : Int) (x6 : Int) (x7 : Int) (x8 : Int) (h : Hp) : EX d 216 15 [(0, .inr (.inr a0)), (1, .inr (.inr a1)), (2, .inl x2), (3, .inl x3), (4, .inl x4), (5, .inl x5), (6, .inl x6), (7, .inl x7), (8, .inl x8)] [] h = bak (EX d 216) 27 [(0, .inr (.inr a0)), (2, .inl x2), (3, .inl x3), (4, .inl x4), (5, .inl x5), (7, .inl x7), (8, .inl x8)] [.inr (.inr a1)] false (cal d 185 [.inl x4, .inl x5, .inl (x6 - 1)] h) := (EX_at bk_Mod_leastBy_15 _ _ _).trans rfl
theorem bk_Mod_leastBy_27 : blk 216 27 = some (((cd_Mod_leastBy.lookup 27).getD ([], 0, []))) := rfl
theorem Mod_leastBy_27 (d : Nat) (a0 : Nat) (x2 : Int) (x3 : Int) (x4 : Int) (x5 : Int) (x7 : Int) (x8 : Int) (r0 : Nat) (s1 : Int) (h : Hp) : EX d 216 27 [(0, .inr (.inr a0)), (2, .inl x2), (3, .inl x3), (4, .inl x4), (5, .inl x5), (7, .inl x7), (8, .inl x8)] [.inl s1, .inr (.inr r0)] h = if okx h r0 20 s1 then if (wr x2) = (-1) then EX d 216 35 [(7, .inl x7), (8, .inl x8), (9, .inl (hI h r0 (ix s1)))] [] h else EX d 216 39 [(0, .inr (.inr a0)), (2, .inl x2), (3, .inl x3), (4, .inl x4), (5, .inl x5), (7, .inl x7), (8, .inl x8), (9, .inl (hI h r0 (ix s1)))] [] h else none := (EX_at bk_Mod_leastBy_27 _ _ _).trans rfl
theorem bk_Mod_leastBy_35 : blk 216 35 = some (((cd_Mod_leastBy.lookup 35).getD ([], 0, []))) := rfl
theorem Mod_leastBy_35 (d : Nat) (x7 : Int) (x8 : Int) (x9 : Int) (h : Hp) : EX d 216 35 [(7, .inl x7), (8, .inl x8), (9, .inl x9)] [] h = EX d 216 52 [(7, .inl x7), (8, .inl x8), (9, .inl x9)] [.inl 0] h := (EX_at bk_Mod_leastBy_35 _ _ _).trans rfl
theorem bk_Mod_leastBy_39 : blk 216 39 = some (((cd_Mod_leastBy.lookup 39).getD ([], 0, []))) := rfl
theorem Mod_leastBy_39 (d : Nat) (a0 : Nat) (x2 : Int) (x3 : Int) (x4 : Int) (x5 : Int) (x7 : Int) (x8 : Int) (x9 : Int) (h : Hp) : EX d 216 39 [(0, .inr (.inr a0)), (2, .inl x2), (3, .inl x3), (4, .inl x4), (5, .inl x5), (7, .inl x7), (8, .inl x8), (9, .inl x9)] [] h = if sK h a0 = 11 then bak (EX d 216) 52 [(7, .inl x7), (8, .inl x8), (9, .inl x9)] [] false (cal d 99 [.inr (.inr (hR h a0 1)), .inl x2, .inl x3, .inl x4, .inl x5] h) else none := (EX_at bk_Mod_leastBy_39 _ _ _).trans rfl
theorem bk_Mod_leastBy_52 : blk 216 52 = some (((cd_Mod_leastBy.lookup 52).getD ([], 0, []))) := rfl
theorem Mod_leastBy_52 (d : Nat) (x7 : Int) (x8 : Int) (x9 : Int) (s0 : Int) (h : Hp) : EX d 216 52 [(7, .inl x7), (8, .inl x8), (9, .inl x9)] [.inl s0] h = if (wr x9) = (-1) then EX d 216 73 [] [] h else EX d 216 60 [(7, .inl x7), (8, .inl x8), (9, .inl x9), (10, .inl s0)] [] h := (EX_at bk_Mod_leastBy_52 _ _ _).trans rfl
theorem bk_Mod_leastBy_60 : blk 216 60 = some (((cd_Mod_leastBy.lookup 60).getD ([], 0, []))) := rfl
theorem Mod_leastBy_60 (d : Nat) (x7 : Int) (x8 : Int) (x9 : Int) (x10 : Int) (h : Hp) : EX d 216 60 [(7, .inl x7), (8, .inl x8), (9, .inl x9), (10, .inl x10)] [] h = if (wr x7) = (-1) then EX d 216 75 [(8, .inl x8), (9, .inl x9), (10, .inl x10)] [] h else EX d 216 66 [(7, .inl x7), (8, .inl x8), (9, .inl x9), (10, .inl x10)] [] h := (EX_at bk_Mod_leastBy_60 _ _ _).trans rfl
theorem bk_Mod_leastBy_66 : blk 216 66 = some (((cd_Mod_leastBy.lookup 66).getD ([], 0, []))) := rfl
theorem Mod_leastBy_66 (d : Nat) (x7 : Int) (x8 : Int) (x9 : Int) (x10 : Int) (h : Hp) : EX d 216 66 [(7, .inl x7), (8, .inl x8), (9, .inl x9), (10, .inl x10)] [] h = if (wr x7) < (wr x10) then EX d 216 73 [] [] h else EX d 216 75 [(8, .inl x8), (9, .inl x9), (10, .inl x10)] [] h := (EX_at bk_Mod_leastBy_66 _ _ _).trans rfl
theorem bk_Mod_leastBy_73 : blk 216 73 = some (((cd_Mod_leastBy.lookup 73).getD ([], 0, []))) := rfl
theorem Mod_leastBy_73 (d : Nat) (h : Hp) : EX d 216 73 [] [] h = some (.inl (-1), h) := (EX_at bk_Mod_leastBy_73 _ _ _).trans rfl
theorem bk_Mod_leastBy_75 : blk 216 75 = some (((cd_Mod_leastBy.lookup 75).getD ([], 0, []))) := rfl
theorem Mod_leastBy_75 (d : Nat) (x8 : Int) (x9 : Int) (x10 : Int) (h : Hp) : EX d 216 75 [(8, .inl x8), (9, .inl x9), (10, .inl x10)] [] h = if (wr x8) = 0 then EX d 216 91 [(9, .inl x9), (10, .inl x10)] [] h else EX d 216 80 [(9, .inl x9), (10, .inl x10)] [] h := (EX_at bk_Mod_leastBy_75 _ _ _).trans rfl
theorem bk_Mod_leastBy_80 : blk 216 80 = some (((cd_Mod_leastBy.lookup 80).getD ([], 0, []))) := rfl
theorem Mod_leastBy_80 (d : Nat) (x9 : Int) (x10 : Int) (h : Hp) : EX d 216 80 [(9, .inl x9), (10, .inl x10)] [] h = EX d 216 98 [] [.inl (x9 + (x10 * x10))] h := (EX_at bk_Mod_leastBy_80 _ _ _).trans rfl
theorem bk_Mod_leastBy_91 : blk 216 91 = some (((cd_Mod_leastBy.lookup 91).getD ([], 0, []))) := rfl
theorem Mod_leastBy_91 (d : Nat) (x9 : Int) (x10 : Int) (h : Hp) : EX d 216 91 [(9, .inl x9), (10, .inl x10)] [] h = bak (EX d 216) 98 [] [] false (cal d 215 [.inl x9, .inl x10] h) := (EX_at bk_Mod_leastBy_91 _ _ _).trans rfl
theorem bk_Mod_leastBy_98 : blk 216 98 = some (((cd_Mod_leastBy.lookup 98).getD ([], 0, []))) := rfl
theorem Mod_leastBy_98 (d : Nat) (s0 : Int) (h : Hp) : EX d 216 98 [] [.inl s0] h = some (.inl s0, h) := (EX_at bk_Mod_leastBy_98 _ _ _).trans rfl
/-! laysLeast([IIZ)V of HookOverModel: method 217 -/
theorem bk_Mod_laysLeast_0 : blk 217 0 = some (((cd_Mod_laysLeast.lookup 0).getD ([], 0, []))) := rfl
theorem Mod_laysLeast_0 (d : Nat) (a0 : Nat) (a1 : Nat) (x2 : Int) (x3 : Int) (h : Hp) : EX d 217 0 [(0, .inr (.inr a0)), (1, .inr (.inr a1)), (2, .inl x2), (3, .inl x3)] [] h = if sK h a0 = 11 then if okx h (hR h a0 1) 20 1 then EX d 217 10 [(0, .inr (.inr a0)), (1, .inr (.inr a1)), (2, .inl x2), (3, .inl x3), (4, .inl ((hI h (hR h a0 1) 1) - 1))] [] h else none else none := (EX_at bk_Mod_laysLeast_0 _ _ _).trans rfl
theorem bk_Mod_laysLeast_10 : blk 217 10 = some (((cd_Mod_laysLeast.lookup 10).getD ([], 0, []))) := rfl
theorem Mod_laysLeast_10 (d : Nat) (a0 : Nat) (a1 : Nat) (x2 : Int) (x3 : Int) (x4 : Int) (h : Hp) : EX d 217 10 [(0, .inr (.inr a0)), (1, .inr (.inr a1)), (2, .inl x2), (3, .inl x3), (4, .inl x4)] [] h = if (wr x4) < (-1) then EX d 217 206 [] [] h else EX d 217 16 [(0, .inr (.inr a0)), (1, .inr (.inr a1)), (2, .inl x2), (3, .inl x3), (4, .inl x4)] [] h := (EX_at bk_Mod_laysLeast_10 _ _ _).trans rfl
theorem bk_Mod_laysLeast_16 : blk 217 16 = some (((cd_Mod_laysLeast.lookup 16).getD ([], 0, []))) := rfl
theorem Mod_laysLeast_16 (d : Nat) (a0 : Nat) (a1 : Nat) (x2 : Int) (x3 : Int) (x4 : Int) (h : Hp) : EX d 217 16 [(0, .inr (.inr a0)), (1, .inr (.inr a1)), (2, .inl x2), (3, .inl x3), (4, .inl x4)] [] h = if sK h a0 = 11 then if okx h (hR h a0 1) 20 2 then EX d 217 26 [(0, .inr (.inr a0)), (1, .inr (.inr a1)), (2, .inl x2), (3, .inl x3), (4, .inl x4), (5, .inl ((hI h (hR h a0 1) 2) - 1))] [] h else none else none := (EX_at bk_Mod_laysLeast_16 _ _ _).trans rfl
theorem bk_Mod_laysLeast_26 : blk 217 26 = some (((cd_Mod_laysLeast.lookup 26).getD ([], 0, []))) := rfl
theorem Mod_laysLeast_26 (d : Nat) (a0 : Nat) (a1 : Nat) (x2 : Int) (x3 : Int) (x4 : Int) (x5 : Int) (h : Hp) : EX d 217 26 [(0, .inr (.inr a0)), (1, .inr (.inr a1)), (2, .inl x2), (3, .inl x3), (4, .inl x4), (5, .inl x5)] [] h = if (wr x5) < (-1) then EX d 217 200 [(0, .inr (.inr a0)), (1, .inr (.inr a1)), (2, .inl x2), (3, .inl x3), (4, .inl x4)] [] h else EX d 217 32 [(0, .inr (.inr a0)), (1, .inr (.inr a1)), (2, .inl x2), (3, .inl x3), (4, .inl x4), (5, .inl x5)] [] h := (EX_at bk_Mod_laysLeast_26 _ _ _).trans rfl
theorem bk_Mod_laysLeast_32 : blk 217 32 = some (((cd_Mod_laysLeast.lookup 32).getD ([], 0, []))) := rfl
theorem Mod_laysLeast_32 (d : Nat) (a0 : Nat) (a1 : Nat) (x2 : Int) (x3 : Int) (x4 : Int) (x5 : Int) (h : Hp) : EX d 217 32 [(0, .inr (.inr a0)), (1, .inr (.inr a1)), (2, .inl x2), (3, .inl x3), (4, .inl x4), (5, .inl x5)] [] h = if (wr x4) = (-1) then EX d 217 38 [(0, .inr (.inr a0)), (1, .inr (.inr a1)), (2, .inl x2), (3, .inl x3), (4, .inl x4), (5, .inl x5)] [] h else EX d 217 42 [(0, .inr (.inr a0)), (1, .inr (.inr a1)), (2, .inl x2), (3, .inl x3), (4, .inl x4), (5, .inl x5)] [] h := (EX_at bk_Mod_laysLeast_32 _ _ _).trans rfl
theorem bk_Mod_laysLeast_38 : blk 217 38 = some (((cd_Mod_laysLeast.lookup 38).getD ([], 0, []))) := rfl
theorem Mod_laysLeast_38 (d : Nat) (a0 : Nat) (a1 : Nat) (x2 : Int) (x3 : Int) (x4 : Int) (x5 : Int) (h : Hp) : EX d 217 38 [(0, .inr (.inr a0)), (1, .inr (.inr a1)), (2, .inl x2), (3, .inl x3), (4, .inl x4), (5, .inl x5)] [] h = EX d 217 43 [(0, .inr (.inr a0)), (1, .inr (.inr a1)), (2, .inl x2), (3, .inl x3), (4, .inl x4), (5, .inl x5)] [.inl 1] h := (EX_at bk_Mod_laysLeast_38 _ _ _).trans rfl
theorem bk_Mod_laysLeast_42 : blk 217 42 = some (((cd_Mod_laysLeast.lookup 42).getD ([], 0, []))) := rfl
theorem Mod_laysLeast_42 (d : Nat) (a0 : Nat) (a1 : Nat) (x2 : Int) (x3 : Int) (x4 : Int) (x5 : Int) (h : Hp) : EX d 217 42 [(0, .inr (.inr a0)), (1, .inr (.inr a1)), (2, .inl x2), (3, .inl x3), (4, .inl x4), (5, .inl x5)] [] h = EX d 217 43 [(0, .inr (.inr a0)), (1, .inr (.inr a1)), (2, .inl x2), (3, .inl x3), (4, .inl x4), (5, .inl x5)] [.inl 0] h := (EX_at bk_Mod_laysLeast_42 _ _ _).trans rfl
theorem bk_Mod_laysLeast_43 : blk 217 43 = some (((cd_Mod_laysLeast.lookup 43).getD ([], 0, []))) := rfl
theorem Mod_laysLeast_43 (d : Nat) (a0 : Nat) (a1 : Nat) (x2 : Int) (x3 : Int) (x4 : Int) (x5 : Int) (s0 : Int) (h : Hp) : EX d 217 43 [(0, .inr (.inr a0)), (1, .inr (.inr a1)), (2, .inl x2), (3, .inl x3), (4, .inl x4), (5, .inl x5)] [.inl s0] h = if (wr x5) = (-1) then EX d 217 49 [(0, .inr (.inr a0)), (1, .inr (.inr a1)), (2, .inl x2), (3, .inl x3), (4, .inl x4), (5, .inl x5)] [.inl s0] h else EX d 217 53 [(0, .inr (.inr a0)), (1, .inr (.inr a1)), (2, .inl x2), (3, .inl x3), (4, .inl x4), (5, .inl x5)] [.inl s0] h := (EX_at bk_Mod_laysLeast_43 _ _ _).trans rfl
theorem bk_Mod_laysLeast_49 : blk 217 49 = some (((cd_Mod_laysLeast.lookup 49).getD ([], 0, []))) := rfl
theorem Mod_laysLeast_49 (d : Nat) (a0 : Nat) (a1 : Nat) (x2 : Int) (x3 : Int) (x4 : Int) (x5 : Int) (s0 : Int) (h : Hp) : EX d 217 49 [(0, .inr (.inr a0)), (1, .inr (.inr a1)), (2, .inl x2), (3, .inl x3), (4, .inl x4), (5, .inl x5)] [.inl s0] h = EX d 217 54 [(0, .inr (.inr a0)), (1, .inr (.inr a1)), (2, .inl x2), (3, .inl x3), (4, .inl x4), (5, .inl x5)] [.inl 1, .inl s0] h := (EX_at bk_Mod_laysLeast_49 _ _ _).trans rfl
theorem bk_Mod_laysLeast_53 : blk 217 53 = some (((cd_Mod_laysLeast.lookup 53).getD ([], 0, []))) := rfl
theorem Mod_laysLeast_53 (d : Nat) (a0 : Nat) (a1 : Nat) (x2 : Int) (x3 : Int) (x4 : Int) (x5 : Int) (s0 : Int) (h : Hp) : EX d 217 53 [(0, .inr (.inr a0)), (1, .inr (.inr a1)), (2, .inl x2), (3, .inl x3), (4, .inl x4), (5, .inl x5)] [.inl s0] h = EX d 217 54 [(0, .inr (.inr a0)), (1, .inr (.inr a1)), (2, .inl x2), (3, .inl x3), (4, .inl x4), (5, .inl x5)] [.inl 0, .inl s0] h := (EX_at bk_Mod_laysLeast_53 _ _ _).trans rfl
theorem bk_Mod_laysLeast_54 : blk 217 54 = some (((cd_Mod_laysLeast.lookup 54).getD ([], 0, []))) := rfl
theorem Mod_laysLeast_54 (d : Nat) (a0 : Nat) (a1 : Nat) (x2 : Int) (x3 : Int) (x4 : Int) (x5 : Int) (s0 : Int) (s1 : Int) (h : Hp) : EX d 217 54 [(0, .inr (.inr a0)), (1, .inr (.inr a1)), (2, .inl x2), (3, .inl x3), (4, .inl x4), (5, .inl x5)] [.inl s1, .inl s0] h = if (wr s0) = (wr s1) then EX d 217 60 [(0, .inr (.inr a0)), (1, .inr (.inr a1)), (2, .inl x2), (3, .inl x3), (4, .inl x4), (5, .inl x5)] [] h else EX d 217 57 [(0, .inr (.inr a0)), (1, .inr (.inr a1)), (2, .inl x2), (3, .inl x3), (4, .inl x4), (5, .inl x5)] [] h := (EX_at bk_Mod_laysLeast_54 _ _ _).trans rfl
theorem bk_Mod_laysLeast_57 : blk 217 57 = some (((cd_Mod_laysLeast.lookup 57).getD ([], 0, []))) := rfl
theorem Mod_laysLeast_57 (d : Nat) (a0 : Nat) (a1 : Nat) (x2 : Int) (x3 : Int) (x4 : Int) (x5 : Int) (h : Hp) : EX d 217 57 [(0, .inr (.inr a0)), (1, .inr (.inr a1)), (2, .inl x2), (3, .inl x3), (4, .inl x4), (5, .inl x5)] [] h = EX d 217 194 [(0, .inr (.inr a0)), (1, .inr (.inr a1)), (2, .inl x2), (3, .inl x3), (4, .inl x4), (5, .inl x5)] [] h := (EX_at bk_Mod_laysLeast_57 _ _ _).trans rfl
theorem bk_Mod_laysLeast_60 : blk 217 60 = some (((cd_Mod_laysLeast.lookup 60).getD ([], 0, []))) := rfl
theorem Mod_laysLeast_60 (d : Nat) (a0 : Nat) (a1 : Nat) (x2 : Int) (x3 : Int) (x4 : Int) (x5 : Int) (h : Hp) : EX d 217 60 [(0, .inr (.inr a0)), (1, .inr (.inr a1)), (2, .inl x2), (3, .inl x3), (4, .inl x4), (5, .inl x5)] [] h = EX d 217 63 [(0, .inr (.inr a0)), (1, .inr (.inr a1)), (2, .inl x2), (3, .inl x3), (4, .inl x4), (5, .inl x5), (6, .inl 0)] [] h := (EX_at bk_Mod_laysLeast_60 _ _ _).trans rfl
theorem bk_Mod_laysLeast_63 : blk 217 63 = some (((cd_Mod_laysLeast.lookup 63).getD ([], 0, []))) := rfl
theorem Mod_laysLeast_63 (d : Nat) (a0 : Nat) (a1 : Nat) (x2 : Int) (x3 : Int) (x4 : Int) (x5 : Int) (x6 : Int) (h : Hp) : EX d 217 63 [(0, .inr (.inr a0)), (1, .inr (.inr a1)), (2, .inl x2), (3, .inl x3), (4, .inl x4), (5, .inl x5), (6, .inl x6)] [] h = if 12 < (wr x6) then EX d 217 194 [(0, .inr (.inr a0)), (1, .inr (.inr a1)), (2, .inl x2), (3, .inl x3), (4, .inl x4), (5, .inl x5)] [] h else EX d 217 70 [(0, .inr (.inr a0)), (1, .inr (.inr a1)), (2, .inl x2), (3, .inl x3), (4, .inl x4), (5, .inl x5), (6, .inl x6)] [] h := (EX_at bk_Mod_laysLeast_63 _ _ _).trans rfl
theorem bk_Mod_laysLeast_70 : blk 217 70 = some (((cd_Mod_laysLeast.lookup 70).getD ([], 0, []))) := rfl
theorem Mod_laysLeast_70 (d : Nat) (a0 : Nat) (a1 : Nat) (x2 : Int) (x3 : Int) (x4 : Int) (x5 : Int) (x6 : Int) (h : Hp) : EX d 217 70 [(0, .inr (.inr a0)), (1, .inr (.inr a1)), (2, .inl x2), (3, .inl x3), (4, .inl x4), (5, .inl x5), (6, .inl x6)] [] h = if (wr x6) = 0 then EX d 217 75 [(0, .inr (.inr a0)), (1, .inr (.inr a1)), (2, .inl x2), (3, .inl x3), (4, .inl x4), (5, .inl x5), (6, .inl x6)] [] h else EX d 217 79 [(0, .inr (.inr a0)), (1, .inr (.inr a1)), (2, .inl x2), (3, .inl x3), (4, .inl x4), (5, .inl x5), (6, .inl x6)] [] h := (EX_at bk_Mod_laysLeast_70 _ _ _).trans rfl
theorem bk_Mod_laysLeast_75 : blk 217 75 = some (((cd_Mod_laysLeast.lookup 75).getD ([], 0, []))) := rfl
theorem Mod_laysLeast_75 (d : Nat) (a0 : Nat) (a1 : Nat) (x2 : Int) (x3 : Int) (x4 : Int) (x5 : Int) (x6 : Int) (h : Hp) : EX d 217 75 [(0, .inr (.inr a0)), (1, .inr (.inr a1)), (2, .inl x2), (3, .inl x3), (4, .inl x4), (5, .inl x5), (6, .inl x6)] [] h = EX d 217 80 [(0, .inr (.inr a0)), (1, .inr (.inr a1)), (2, .inl x2), (3, .inl x3), (4, .inl x4), (5, .inl x5), (6, .inl x6)] [.inl 0] h := (EX_at bk_Mod_laysLeast_75 _ _ _).trans rfl
theorem bk_Mod_laysLeast_79 : blk 217 79 = some (((cd_Mod_laysLeast.lookup 79).getD ([], 0, []))) := rfl
theorem Mod_laysLeast_79 (d : Nat) (a0 : Nat) (a1 : Nat) (x2 : Int) (x3 : Int) (x4 : Int) (x5 : Int) (x6 : Int) (h : Hp) : EX d 217 79 [(0, .inr (.inr a0)), (1, .inr (.inr a1)), (2, .inl x2), (3, .inl x3), (4, .inl x4), (5, .inl x5), (6, .inl x6)] [] h = EX d 217 80 [(0, .inr (.inr a0)), (1, .inr (.inr a1)), (2, .inl x2), (3, .inl x3), (4, .inl x4), (5, .inl x5), (6, .inl x6)] [.inl (-1)] h := (EX_at bk_Mod_laysLeast_79 _ _ _).trans rfl
theorem bk_Mod_laysLeast_80 : blk 217 80 = some (((cd_Mod_laysLeast.lookup 80).getD ([], 0, []))) := rfl
theorem Mod_laysLeast_80 (d : Nat) (a0 : Nat) (a1 : Nat) (x2 : Int) (x3 : Int) (x4 : Int) (x5 : Int) (x6 : Int) (s0 : Int) (h : Hp) : EX d 217 80 [(0, .inr (.inr a0)), (1, .inr (.inr a1)), (2, .inl x2), (3, .inl x3), (4, .inl x4), (5, .inl x5), (6, .inl x6)] [.inl s0] h = EX d 217 88 [(0, .inr (.inr a0)), (1, .inr (.inr a1)), (2, .inl x2), (3, .inl x3), (4, .inl x4), (5, .inl x5), (6, .inl x6), (7, .inl s0), (8, .inl (x4 + 1))] [] h := (EX_at bk_Mod_laysLeast_80 _ _ _).trans rfl
theorem bk_Mod_laysLeast_88 : blk 217 88 = some (((cd_Mod_laysLeast.lookup 88).getD ([], 0, []))) := rfl
theorem Mod_laysLeast_88 (d : Nat) (a0 : Nat) (a1 : Nat) (x2 : Int) (x3 : Int) (x4 : Int) (x5 : Int) (x6 : Int) (x7 : Int) (x8 : Int) (h : Hp) : EX d 217 88 [(0, .inr (.inr a0)), (1, .inr (.inr a1)), (2, .inl x2), (3, .inl x3), (4, .inl x4), (5, .inl x5), (6, .inl x6), (7, .inl x7), (8, .inl x8)] [] h = if sK h a0 = 11 then if okx h (hR h a0 1) 20 1 then if (wr x8) < (wr (hI h (hR h a0 1) 1)) then EX d 217 99 [(0, .inr (.inr a0)), (1, .inr (.inr a1)), (2, .inl x2), (3, .inl x3), (4, .inl x4), (5, .inl x5), (6, .inl x6), (7, .inl x7), (8, .inl x8)] [] h else EX d 217 175 [(0, .inr (.inr a0)), (1, .inr (.inr a1)), (2, .inl x2), (3, .inl x3), (4, .inl x4), (5, .inl x5), (6, .inl x6), (7, .inl x7)] [] h else none else none := (EX_at bk_Mod_laysLeast_88 _ _ _).trans rfl
theorem bk_Mod_laysLeast_99 : blk 217 99 = some (((cd_Mod_laysLeast.lookup 99).getD ([], 0, []))) := rfl
theorem Mod_laysLeast_99 (d : Nat) (a0 : Nat) (a1 : Nat) (x2 : Int) (x3 : Int) (x4 : Int) (x5 : Int) (x6 : Int) (x7 : Int) (x8 : Int) (h : Hp) : EX d 217 99 [(0, .inr (.inr a0)), (1, .inr (.inr a1)), (2, .inl x2), (3, .inl x3), (4, .inl x4), (5, .inl x5), (6, .inl x6), (7, .inl x7), (8, .inl x8)] [] h = if 0 < (wr x6) then EX d 217 104 [(0, .inr (.inr a0)), (1, .inr (.inr a1)), (2, .inl x2), (3, .inl x3), (4, .inl x4), (5, .inl x5), (6, .inl x6), (7, .inl x7), (8, .inl x8)] [] h else EX d 217 175 [(0, .inr (.inr a0)), (1, .inr (.inr a1)), (2, .inl x2), (3, .inl x3), (4, .inl x4), (5, .inl x5), (6, .inl x6), (7, .inl x7)] [] h := (EX_at bk_Mod_laysLeast_99 _ _ _).trans rfl
theorem bk_Mod_laysLeast_104 : blk 217 104 = some (((cd_Mod_laysLeast.lookup 104).getD ([], 0, []))) := rfl
theorem Mod_laysLeast_104 (d : Nat) (a0 : Nat) (a1 : Nat) (x2 : Int) (x3 : Int) (x4 : Int) (x5 : Int) (x6 : Int) (x7 : Int) (x8 : Int) (h : Hp) : EX d 217 104 [(0, .inr (.inr a0)), (1, .inr (.inr a1)), (2, .inl x2), (3, .inl x3), (4, .inl x4), (5, .inl x5), (6, .inl x6), (7, .inl x7), (8, .inl x8)] [] h = EX d 217 110 [(0, .inr (.inr a0)), (1, .inr (.inr a1)), (2, .inl x2), (3, .inl x3), (4, .inl x4), (5, .inl x5), (6, .inl x6), (7, .inl x7), (8, .inl x8), (9, .inl (x5 + 1))] [] h := (EX_at bk_Mod_laysLeast_104 _ _ _).trans rfl
theorem bk_Mod_laysLeast_110 : blk 217 110 = some (((cd_Mod_laysLeast.lookup 110).getD ([], 0, []))) := rfl
theorem Mod_laysLeast_110 (d : Nat) (a0 : Nat) (a1 : Nat) (x2 : Int) (x3 : Int) (x4 : Int) (x5 : Int) (x6 : Int) (x7 : Int) (x8 : Int) (x9 : Int) (h : Hp) : EX d 217 110 [(0, .inr (.inr a0)), (1, .inr (.inr a1)), (2, .inl x2), (3, .inl x3), (4, .inl x4), (5, .inl x5), (6, .inl x6), (7, .inl x7), (8, .inl x8), (9, .inl x9)] [] h = if sK h a0 = 11 then if okx h (hR h a0 1) 20 2 then if (wr x9) < (wr (hI h (hR h a0 1) 2)) then EX d 217 121 [(0, .inr (.inr a0)), (1, .inr (.inr a1)), (2, .inl x2), (3, .inl x3), (4, .inl x4), (5, .inl x5), (6, .inl x6), (7, .inl x7), (8, .inl x8), (9, .inl x9)] [] h else EX d 217 169 [(0, .inr (.inr a0)), (1, .inr (.inr a1)), (2, .inl x2), (3, .inl x3), (4, .inl x4), (5, .inl x5), (6, .inl x6), (7, .inl x7), (8, .inl x8)] [] h else none else none := (EX_at bk_Mod_laysLeast_110 _ _ _).trans rfl
theorem bk_Mod_laysLeast_121 : blk 217 121 = some (((cd_Mod_laysLeast.lookup 121).getD ([], 0, []))) := rfl
theorem Mod_laysLeast_121 (d : Nat) (a0 : Nat) (a1 : Nat) (x2 : Int) (x3 : Int) (x4 : Int) (x5 : Int) (x6 : Int) (x7 : Int) (x8 : Int) (x9 : Int) (h : Hp) : EX d 217 121 [(0, .inr (.inr a0)), (1, .inr (.inr a1)), (2, .inl x2), (3, .inl x3), (4, .inl x4), (5, .inl x5), (6, .inl x6), (7, .inl x7), (8, .inl x8), (9, .inl x9)] [] h = if sK h a0 = 11 then bak (EX d 217) 138 [(0, .inr (.inr a0)), (1, .inr (.inr a1)), (2, .inl x2), (3, .inl x3), (4, .inl x4), (5, .inl x5), (6, .inl x6), (7, .inl x7), (8, .inl x8), (9, .inl x9)] [] false (cal d 216 [.inr (.inr a0), .inr (.inr a1), .inl x4, .inl x5, .inl x8, .inl x9, .inl x6, .inl x2, .inl x3] h) else none := (EX_at bk_Mod_laysLeast_121 _ _ _).trans rfl
theorem bk_Mod_laysLeast_138 : blk 217 138 = some (((cd_Mod_laysLeast.lookup 138).getD ([], 0, []))) := rfl
theorem Mod_laysLeast_138 (d : Nat) (a0 : Nat) (a1 : Nat) (x2 : Int) (x3 : Int) (x4 : Int) (x5 : Int) (x6 : Int) (x7 : Int) (x8 : Int) (x9 : Int) (s0 : Int) (h : Hp) : EX d 217 138 [(0, .inr (.inr a0)), (1, .inr (.inr a1)), (2, .inl x2), (3, .inl x3), (4, .inl x4), (5, .inl x5), (6, .inl x6), (7, .inl x7), (8, .inl x8), (9, .inl x9)] [.inl s0] h = if (wr s0) = (-1) then EX d 217 163 [(0, .inr (.inr a0)), (1, .inr (.inr a1)), (2, .inl x2), (3, .inl x3), (4, .inl x4), (5, .inl x5), (6, .inl x6), (7, .inl x7), (8, .inl x8), (9, .inl x9)] [] h else EX d 217 146 [(0, .inr (.inr a0)), (1, .inr (.inr a1)), (2, .inl x2), (3, .inl x3), (4, .inl x4), (5, .inl x5), (6, .inl x6), (7, .inl x7), (8, .inl x8), (9, .inl x9), (10, .inl s0)] [] h := (EX_at bk_Mod_laysLeast_138 _ _ _).trans rfl
theorem bk_Mod_laysLeast_146 : blk 217 146 = some (((cd_Mod_laysLeast.lookup 146).getD ([], 0, []))) := rfl
theorem Mod_laysLeast_146 (d : Nat) (a0 : Nat) (a1 : Nat) (x2 : Int) (x3 : Int) (x4 : Int) (x5 : Int) (x6 : Int) (x7 : Int) (x8 : Int) (x9 : Int) (x10 : Int) (h : Hp) : EX d 217 146 [(0, .inr (.inr a0)), (1, .inr (.inr a1)), (2, .inl x2), (3, .inl x3), (4, .inl x4), (5, .inl x5), (6, .inl x6), (7, .inl x7), (8, .inl x8), (9, .inl x9), (10, .inl x10)] [] h = if (wr x7) = (-1) then EX d 217 159 [(0, .inr (.inr a0)), (1, .inr (.inr a1)), (2, .inl x2), (3, .inl x3), (4, .inl x4), (5, .inl x5), (6, .inl x6), (8, .inl x8), (9, .inl x9), (10, .inl x10)] [] h else EX d 217 152 [(0, .inr (.inr a0)), (1, .inr (.inr a1)), (2, .inl x2), (3, .inl x3), (4, .inl x4), (5, .inl x5), (6, .inl x6), (7, .inl x7), (8, .inl x8), (9, .inl x9), (10, .inl x10)] [] h := (EX_at bk_Mod_laysLeast_146 _ _ _).trans rfl
theorem bk_Mod_laysLeast_152 : blk 217 152 = some (((cd_Mod_laysLeast.lookup 152).getD ([], 0, []))) := rfl
theorem Mod_laysLeast_152 (d : Nat) (a0 : Nat) (a1 : Nat) (x2 : Int) (x3 : Int) (x4 : Int) (x5 : Int) (x6 : Int) (x7 : Int) (x8 : Int) (x9 : Int) (x10 : Int) (h : Hp) : EX d 217 152 [(0, .inr (.inr a0)), (1, .inr (.inr a1)), (2, .inl x2), (3, .inl x3), (4, .inl x4), (5, .inl x5), (6, .inl x6), (7, .inl x7), (8, .inl x8), (9, .inl x9), (10, .inl x10)] [] h = if (wr x10) < (wr x7) then EX d 217 159 [(0, .inr (.inr a0)), (1, .inr (.inr a1)), (2, .inl x2), (3, .inl x3), (4, .inl x4), (5, .inl x5), (6, .inl x6), (8, .inl x8), (9, .inl x9), (10, .inl x10)] [] h else EX d 217 163 [(0, .inr (.inr a0)), (1, .inr (.inr a1)), (2, .inl x2), (3, .inl x3), (4, .inl x4), (5, .inl x5), (6, .inl x6), (7, .inl x7), (8, .inl x8), (9, .inl x9)] [] h := (EX_at bk_Mod_laysLeast_152 _ _ _).trans rfl
theorem bk_Mod_laysLeast_159 : blk 217 159 = some (((cd_Mod_laysLeast.lookup 159).getD ([], 0, []))) := rfl
theorem Mod_laysLeast_159 (d : Nat) (a0 : Nat) (a1 : Nat) (x2 : Int) (x3 : Int) (x4 : Int) (x5 : Int) (x6 : Int) (x8 : Int) (x9 : Int) (x10 : Int) (h : Hp) : EX d 217 159 [(0, .inr (.inr a0)), (1, .inr (.inr a1)), (2, .inl x2), (3, .inl x3), (4, .inl x4), (5, .inl x5), (6, .inl x6), (8, .inl x8), (9, .inl x9), (10, .inl x10)] [] h = EX d 217 163 [(0, .inr (.inr a0)), (1, .inr (.inr a1)), (2, .inl x2), (3, .inl x3), (4, .inl x4), (5, .inl x5), (6, .inl x6), (7, .inl x10), (8, .inl x8), (9, .inl x9)] [] h := (EX_at bk_Mod_laysLeast_159 _ _ _).trans rfl
theorem bk_Mod_laysLeast_163 : blk 217 163 = some (((cd_Mod_laysLeast.lookup 163).getD ([], 0, []))) := rfl
theorem Mod_laysLeast_163 (d : Nat) (a0 : Nat) (a1 : Nat) (x2 : Int) (x3 : Int) (x4 : Int) (x5 : Int) (x6 : Int) (x7 : Int) (x8 : Int) (x9 : Int) (h : Hp) : EX d 217 163 [(0, .inr (.inr a0)), (1, .inr (.inr a1)), (2, .inl x2), (3, .inl x3), (4, .inl x4), (5, .inl x5), (6, .inl x6), (7, .inl x7), (8, .inl x8), (9, .inl x9)] [] h = EX d 217 110 [(0, .inr (.inr a0)), (1, .inr (.inr a1)), (2, .inl x2), (3, .inl x3), (4, .inl x4), (5, .inl x5), (6, .inl x6), (7, .inl x7), (8, .inl x8), (9, .inl (x9 + 1))] [] h := (EX_at bk_Mod_laysLeast_163 _ _ _).trans rfl
theorem bk_Mod_laysLeast_169 : blk 217 169 = some (((cd_Mod_laysLeast.lookup 169).getD ([], 0, []))) := rfl
theorem Mod_laysLeast_169 (d : Nat) (a0 : Nat) (a1 : Nat) (x2 : Int) (x3 : Int) (x4 : Int) (x5 : Int) (x6 : Int) (x7 : Int) (x8 : Int) (h : Hp) : EX d 217 169 [(0, .inr (.inr a0)), (1, .inr (.inr a1)), (2, .inl x2), (3, .inl x3), (4, .inl x4), (5, .inl x5), (6, .inl x6), (7, .inl x7), (8, .inl x8)] [] h = EX d 217 88 [(0, .inr (.inr a0)), (1, .inr (.inr a1)), (2, .inl x2), (3, .inl x3), (4, .inl x4), (5, .inl x5), (6, .inl x6), (7, .inl x7), (8, .inl (x8 + 1))] [] h := (EX_at bk_Mod_laysLeast_169 _ _ _).trans rfl
theorem bk_Mod_laysLeast_175 : blk 217 175 = some (((cd_Mod_laysLeast.lookup 175).getD ([], 0, []))) := rfl
theorem Mod_laysLeast_175 (d : Nat) (a0 : Nat) (a1 : Nat) (x2 : Int) (x3 : Int) (x4 : Int) (x5 : Int) (x6 : Int) (x7 : Int) (h : Hp) : EX d 217 175 [(0, .inr (.inr a0)), (1, .inr (.inr a1)), (2, .inl x2), (3, .inl x3), (4, .inl x4), (5, .inl x5), (6, .inl x6), (7, .inl x7)] [] h = bak (EX d 217) 185 [(0, .inr (.inr a0)), (1, .inr (.inr a1)), (2, .inl x2), (3, .inl x3), (4, .inl x4), (5, .inl x5), (6, .inl x6), (7, .inl x7)] [.inr (.inr a1)] false (cal d 185 [.inl x4, .inl x5, .inl x6] h) := (EX_at bk_Mod_laysLeast_175 _ _ _).trans rfl
theorem bk_Mod_laysLeast_185 : blk 217 185 = some (((cd_Mod_laysLeast.lookup 185).getD ([], 0, []))) := rfl
theorem Mod_laysLeast_185 (d : Nat) (a0 : Nat) (a1 : Nat) (x2 : Int) (x3 : Int) (x4 : Int) (x5 : Int) (x6 : Int) (x7 : Int) (r0 : Nat) (s1 : Int) (h : Hp) : EX d 217 185 [(0, .inr (.inr a0)), (1, .inr (.inr a1)), (2, .inl x2), (3, .inl x3), (4, .inl x4), (5, .inl x5), (6, .inl x6), (7, .inl x7)] [.inl s1, .inr (.inr r0)] h = if okx h r0 20 s1 then EX d 217 188 [(0, .inr (.inr a0)), (1, .inr (.inr a1)), (2, .inl x2), (3, .inl x3), (4, .inl x4), (5, .inl x5), (6, .inl x6)] [] (pI h r0 (ix s1) x7) else none := (EX_at bk_Mod_laysLeast_185 _ _ _).trans rfl
theorem bk_Mod_laysLeast_188 : blk 217 188 = some (((cd_Mod_laysLeast.lookup 188).getD ([], 0, []))) := rfl
theorem Mod_laysLeast_188 (d : Nat) (a0 : Nat) (a1 : Nat) (x2 : Int) (x3 : Int) (x4 : Int) (x5 : Int) (x6 : Int) (h : Hp) : EX d 217 188 [(0, .inr (.inr a0)), (1, .inr (.inr a1)), (2, .inl x2), (3, .inl x3), (4, .inl x4), (5, .inl x5), (6, .inl x6)] [] h = EX d 217 63 [(0, .inr (.inr a0)), (1, .inr (.inr a1)), (2, .inl x2), (3, .inl x3), (4, .inl x4), (5, .inl x5), (6, .inl (x6 + 1))] [] h := (EX_at bk_Mod_laysLeast_188 _ _ _).trans rfl
theorem bk_Mod_laysLeast_194 : blk 217 194 = some (((cd_Mod_laysLeast.lookup 194).getD ([], 0, []))) := rfl
theorem Mod_laysLeast_194 (d : Nat) (a0 : Nat) (a1 : Nat) (x2 : Int) (x3 : Int) (x4 : Int) (x5 : Int) (h : Hp) : EX d 217 194 [(0, .inr (.inr a0)), (1, .inr (.inr a1)), (2, .inl x2), (3, .inl x3), (4, .inl x4), (5, .inl x5)] [] h = EX d 217 26 [(0, .inr (.inr a0)), (1, .inr (.inr a1)), (2, .inl x2), (3, .inl x3), (4, .inl x4), (5, .inl (x5 + (-1)))] [] h := (EX_at bk_Mod_laysLeast_194 _ _ _).trans rfl
theorem bk_Mod_laysLeast_200 : blk 217 200 = some (((cd_Mod_laysLeast.lookup 200).getD ([], 0, []))) := rfl
theorem Mod_laysLeast_200 (d : Nat) (a0 : Nat) (a1 : Nat) (x2 : Int) (x3 : Int) (x4 : Int) (h : Hp) : EX d 217 200 [(0, .inr (.inr a0)), (1, .inr (.inr a1)), (2, .inl x2), (3, .inl x3), (4, .inl x4)] [] h = EX d 217 10 [(0, .inr (.inr a0)), (1, .inr (.inr a1)), (2, .inl x2), (3, .inl x3), (4, .inl (x4 + (-1)))] [] h := (EX_at bk_Mod_laysLeast_200 _ _ _).trans rfl
theorem bk_Mod_laysLeast_206 : blk 217 206 = some (((cd_Mod_laysLeast.lookup 206).getD ([], 0, []))) := rfl
theorem Mod_laysLeast_206 (d : Nat) (h : Hp) : EX d 217 206 [] [] h = some (.inl 0, h) := (EX_at bk_Mod_laysLeast_206 _ _ _).trans rfl
/-! laysEvenest()V of HookOverModel: method 218 -/
theorem bk_Mod_laysEvenest_0 : blk 218 0 = some (((cd_Mod_laysEvenest.lookup 0).getD ([], 0, []))) := rfl
theorem Mod_laysEvenest_0 (d : Nat) (a0 : Nat) (h : Hp) : EX d 218 0 [(0, .inr (.inr a0))] [] h = if sK h a0 = 11 then bak (EX d 218) 5 [(0, .inr (.inr a0))] [.inr (.inr a0)] false (cal d 193 [.inr (.inr a0)] h) else none := (EX_at bk_Mod_laysEvenest_0 _ _ _).trans rfl
theorem bk_Mod_laysEvenest_5 : blk 218 5 = some (((cd_Mod_laysEvenest.lookup 5).getD ([], 0, []))) := rfl
theorem Mod_laysEvenest_5 (d : Nat) (a0 : Nat) (r0 : Nat) (s1 : Int) (h : Hp) : EX d 218 5 [(0, .inr (.inr a0))] [.inl s1, .inr (.inr r0)] h = if sK h r0 = 11 then EX d 218 8 [(0, .inr (.inr a0))] [] (pI h r0 27 s1) else none := (EX_at bk_Mod_laysEvenest_5 _ _ _).trans rfl
theorem bk_Mod_laysEvenest_8 : blk 218 8 = some (((cd_Mod_laysEvenest.lookup 8).getD ([], 0, []))) := rfl
theorem Mod_laysEvenest_8 (d : Nat) (a0 : Nat) (h : Hp) : EX d 218 8 [(0, .inr (.inr a0))] [] h = if sK h a0 = 11 then if sK h a0 = 11 then bak (EX d 218) 18 [(0, .inr (.inr a0))] [] true (cal d 217 [.inr (.inr a0), .inr (.inr (hR h a0 25)), .inl (-1), .inl 0] h) else none else none := (EX_at bk_Mod_laysEvenest_8 _ _ _).trans rfl
theorem bk_Mod_laysEvenest_18 : blk 218 18 = some (((cd_Mod_laysEvenest.lookup 18).getD ([], 0, []))) := rfl
theorem Mod_laysEvenest_18 (d : Nat) (a0 : Nat) (h : Hp) : EX d 218 18 [(0, .inr (.inr a0))] [] h = if sK h a0 = 11 then if sK h a0 = 11 then bak (EX d 218) 32 [(0, .inr (.inr a0))] [.inr (.inr (hR h a0 25)), .inr (.inr a0)] false (cal d 185 [.inl (-1), .inl (-1), .inl (hI h a0 27)] h) else none else none := (EX_at bk_Mod_laysEvenest_18 _ _ _).trans rfl
theorem bk_Mod_laysEvenest_32 : blk 218 32 = some (((cd_Mod_laysEvenest.lookup 32).getD ([], 0, []))) := rfl
theorem Mod_laysEvenest_32 (d : Nat) (a0 : Nat) (r0 : Nat) (r1 : Nat) (s2 : Int) (h : Hp) : EX d 218 32 [(0, .inr (.inr a0))] [.inl s2, .inr (.inr r1), .inr (.inr r0)] h = if okx h r1 20 s2 then if sK h r0 = 11 then EX d 218 36 [(0, .inr (.inr a0))] [] (pI h r0 28 (hI h r1 (ix s2))) else none else none := (EX_at bk_Mod_laysEvenest_32 _ _ _).trans rfl
theorem bk_Mod_laysEvenest_36 : blk 218 36 = some (((cd_Mod_laysEvenest.lookup 36).getD ([], 0, []))) := rfl
theorem Mod_laysEvenest_36 (d : Nat) (a0 : Nat) (h : Hp) : EX d 218 36 [(0, .inr (.inr a0))] [] h = if sK h a0 = 11 then if sK h a0 = 11 then if sK h a0 = 11 then bak (EX d 218) 49 [] [] true (cal d 217 [.inr (.inr a0), .inr (.inr (hR h a0 26)), .inl (hI h a0 28), .inl 1] h) else none else none else none := (EX_at bk_Mod_laysEvenest_36 _ _ _).trans rfl
theorem bk_Mod_laysEvenest_49 : blk 218 49 = some (((cd_Mod_laysEvenest.lookup 49).getD ([], 0, []))) := rfl
theorem Mod_laysEvenest_49 (d : Nat) (h : Hp) : EX d 218 49 [] [] h = some (.inl 0, h) := (EX_at bk_Mod_laysEvenest_49 _ _ _).trans rfl
/-! findsEvenest()V of HookOverModel: method 219 -/
theorem bk_Mod_findsEvenest_0 : blk 219 0 = some (((cd_Mod_findsEvenest.lookup 0).getD ([], 0, []))) := rfl
theorem Mod_findsEvenest_0 (d : Nat) (a0 : Nat) (h : Hp) : EX d 219 0 [(0, .inr (.inr a0))] [] h = if sK h a0 = 11 then bak (EX d 219) 4 [(0, .inr (.inr a0))] [] true (cal d 207 [.inr (.inr a0)] h) else none := (EX_at bk_Mod_findsEvenest_0 _ _ _).trans rfl
theorem bk_Mod_findsEvenest_4 : blk 219 4 = some (((cd_Mod_findsEvenest.lookup 4).getD ([], 0, []))) := rfl
theorem Mod_findsEvenest_4 (d : Nat) (a0 : Nat) (h : Hp) : EX d 219 4 [(0, .inr (.inr a0))] [] h = if sK h a0 = 11 then EX d 219 13 [(0, .inr (.inr a0)), (1, .inl (-1)), (2, .inl (-1)), (3, .inl (hI h a0 27))] [] h else none := (EX_at bk_Mod_findsEvenest_4 _ _ _).trans rfl
theorem bk_Mod_findsEvenest_13 : blk 219 13 = some (((cd_Mod_findsEvenest.lookup 13).getD ([], 0, []))) := rfl
theorem Mod_findsEvenest_13 (d : Nat) (a0 : Nat) (x1 : Int) (x2 : Int) (x3 : Int) (h : Hp) : EX d 219 13 [(0, .inr (.inr a0)), (1, .inl x1), (2, .inl x2), (3, .inl x3)] [] h = if 0 < (wr x3) then EX d 219 17 [(0, .inr (.inr a0)), (1, .inl x1), (2, .inl x2), (3, .inl x3)] [] h else EX d 219 143 [] [] h := (EX_at bk_Mod_findsEvenest_13 _ _ _).trans rfl
theorem bk_Mod_findsEvenest_17 : blk 219 17 = some (((cd_Mod_findsEvenest.lookup 17).getD ([], 0, []))) := rfl
theorem Mod_findsEvenest_17 (d : Nat) (a0 : Nat) (x1 : Int) (x2 : Int) (x3 : Int) (h : Hp) : EX d 219 17 [(0, .inr (.inr a0)), (1, .inl x1), (2, .inl x2), (3, .inl x3)] [] h = EX d 219 28 [(0, .inr (.inr a0)), (1, .inl x1), (2, .inl x2), (3, .inl x3), (4, .inl x1), (5, .inl x2), (6, .inl (x1 + 1))] [] h := (EX_at bk_Mod_findsEvenest_17 _ _ _).trans rfl
theorem bk_Mod_findsEvenest_28 : blk 219 28 = some (((cd_Mod_findsEvenest.lookup 28).getD ([], 0, []))) := rfl
theorem Mod_findsEvenest_28 (d : Nat) (a0 : Nat) (x1 : Int) (x2 : Int) (x3 : Int) (x4 : Int) (x5 : Int) (x6 : Int) (h : Hp) : EX d 219 28 [(0, .inr (.inr a0)), (1, .inl x1), (2, .inl x2), (3, .inl x3), (4, .inl x4), (5, .inl x5), (6, .inl x6)] [] h = if sK h a0 = 11 then if okx h (hR h a0 1) 20 1 then if (wr x6) < (wr (hI h (hR h a0 1) 1)) then EX d 219 39 [(0, .inr (.inr a0)), (1, .inl x1), (2, .inl x2), (3, .inl x3), (4, .inl x4), (5, .inl x5), (6, .inl x6)] [] h else EX d 219 124 [(0, .inr (.inr a0)), (3, .inl x3), (4, .inl x4), (5, .inl x5)] [] h else none else none := (EX_at bk_Mod_findsEvenest_28 _ _ _).trans rfl
theorem bk_Mod_findsEvenest_39 : blk 219 39 = some (((cd_Mod_findsEvenest.lookup 39).getD ([], 0, []))) := rfl
theorem Mod_findsEvenest_39 (d : Nat) (a0 : Nat) (x1 : Int) (x2 : Int) (x3 : Int) (x4 : Int) (x5 : Int) (x6 : Int) (h : Hp) : EX d 219 39 [(0, .inr (.inr a0)), (1, .inl x1), (2, .inl x2), (3, .inl x3), (4, .inl x4), (5, .inl x5), (6, .inl x6)] [] h = if (wr x4) = (wr x1) then EX d 219 45 [(0, .inr (.inr a0)), (1, .inl x1), (2, .inl x2), (3, .inl x3), (4, .inl x4), (5, .inl x5), (6, .inl x6)] [] h else EX d 219 124 [(0, .inr (.inr a0)), (3, .inl x3), (4, .inl x4), (5, .inl x5)] [] h := (EX_at bk_Mod_findsEvenest_39 _ _ _).trans rfl
theorem bk_Mod_findsEvenest_45 : blk 219 45 = some (((cd_Mod_findsEvenest.lookup 45).getD ([], 0, []))) := rfl
theorem Mod_findsEvenest_45 (d : Nat) (a0 : Nat) (x1 : Int) (x2 : Int) (x3 : Int) (x4 : Int) (x5 : Int) (x6 : Int) (h : Hp) : EX d 219 45 [(0, .inr (.inr a0)), (1, .inl x1), (2, .inl x2), (3, .inl x3), (4, .inl x4), (5, .inl x5), (6, .inl x6)] [] h = EX d 219 50 [(0, .inr (.inr a0)), (1, .inl x1), (2, .inl x2), (3, .inl x3), (4, .inl x4), (5, .inl x5), (6, .inl x6), (7, .inl (x2 + 1))] [] h := (EX_at bk_Mod_findsEvenest_45 _ _ _).trans rfl
theorem bk_Mod_findsEvenest_50 : blk 219 50 = some (((cd_Mod_findsEvenest.lookup 50).getD ([], 0, []))) := rfl
theorem Mod_findsEvenest_50 (d : Nat) (a0 : Nat) (x1 : Int) (x2 : Int) (x3 : Int) (x4 : Int) (x5 : Int) (x6 : Int) (x7 : Int) (h : Hp) : EX d 219 50 [(0, .inr (.inr a0)), (1, .inl x1), (2, .inl x2), (3, .inl x3), (4, .inl x4), (5, .inl x5), (6, .inl x6), (7, .inl x7)] [] h = if sK h a0 = 11 then if okx h (hR h a0 1) 20 2 then if (wr x7) < (wr (hI h (hR h a0 1) 2)) then EX d 219 61 [(0, .inr (.inr a0)), (1, .inl x1), (2, .inl x2), (3, .inl x3), (4, .inl x4), (5, .inl x5), (6, .inl x6), (7, .inl x7)] [] h else EX d 219 118 [(0, .inr (.inr a0)), (1, .inl x1), (2, .inl x2), (3, .inl x3), (4, .inl x4), (5, .inl x5), (6, .inl x6)] [] h else none else none := (EX_at bk_Mod_findsEvenest_50 _ _ _).trans rfl
theorem bk_Mod_findsEvenest_61 : blk 219 61 = some (((cd_Mod_findsEvenest.lookup 61).getD ([], 0, []))) := rfl
theorem Mod_findsEvenest_61 (d : Nat) (a0 : Nat) (x1 : Int) (x2 : Int) (x3 : Int) (x4 : Int) (x5 : Int) (x6 : Int) (x7 : Int) (h : Hp) : EX d 219 61 [(0, .inr (.inr a0)), (1, .inl x1), (2, .inl x2), (3, .inl x3), (4, .inl x4), (5, .inl x5), (6, .inl x6), (7, .inl x7)] [] h = if (wr x4) = (wr x1) then EX d 219 67 [(0, .inr (.inr a0)), (1, .inl x1), (2, .inl x2), (3, .inl x3), (4, .inl x4), (5, .inl x5), (6, .inl x6), (7, .inl x7)] [] h else EX d 219 118 [(0, .inr (.inr a0)), (1, .inl x1), (2, .inl x2), (3, .inl x3), (4, .inl x4), (5, .inl x5), (6, .inl x6)] [] h := (EX_at bk_Mod_findsEvenest_61 _ _ _).trans rfl
theorem bk_Mod_findsEvenest_67 : blk 219 67 = some (((cd_Mod_findsEvenest.lookup 67).getD ([], 0, []))) := rfl
theorem Mod_findsEvenest_67 (d : Nat) (a0 : Nat) (x1 : Int) (x2 : Int) (x3 : Int) (x4 : Int) (x5 : Int) (x6 : Int) (x7 : Int) (h : Hp) : EX d 219 67 [(0, .inr (.inr a0)), (1, .inl x1), (2, .inl x2), (3, .inl x3), (4, .inl x4), (5, .inl x5), (6, .inl x6), (7, .inl x7)] [] h = if sK h a0 = 11 then if sK h a0 = 11 then if sK h a0 = 11 then bak (EX d 219) 87 [(0, .inr (.inr a0)), (1, .inl x1), (2, .inl x2), (3, .inl x3), (4, .inl x4), (5, .inl x5), (6, .inl x6), (7, .inl x7)] [] false (cal d 216 [.inr (.inr a0), .inr (.inr (hR h a0 26)), .inl x1, .inl x2, .inl x6, .inl x7, .inl x3, .inl (hI h a0 28), .inl 1] h) else none else none else none := (EX_at bk_Mod_findsEvenest_67 _ _ _).trans rfl
theorem bk_Mod_findsEvenest_87 : blk 219 87 = some (((cd_Mod_findsEvenest.lookup 87).getD ([], 0, []))) := rfl
theorem Mod_findsEvenest_87 (d : Nat) (a0 : Nat) (x1 : Int) (x2 : Int) (x3 : Int) (x4 : Int) (x5 : Int) (x6 : Int) (x7 : Int) (s0 : Int) (h : Hp) : EX d 219 87 [(0, .inr (.inr a0)), (1, .inl x1), (2, .inl x2), (3, .inl x3), (4, .inl x4), (5, .inl x5), (6, .inl x6), (7, .inl x7)] [.inl s0] h = if sK h a0 = 11 then bak (EX d 219) 97 [(0, .inr (.inr a0)), (1, .inl x1), (2, .inl x2), (3, .inl x3), (4, .inl x4), (5, .inl x5), (6, .inl x6), (7, .inl x7)] [.inr (.inr (hR h a0 26)), .inl s0] false (cal d 185 [.inl x1, .inl x2, .inl x3] h) else none := (EX_at bk_Mod_findsEvenest_87 _ _ _).trans rfl
theorem bk_Mod_findsEvenest_97 : blk 219 97 = some (((cd_Mod_findsEvenest.lookup 97).getD ([], 0, []))) := rfl
theorem Mod_findsEvenest_97 (d : Nat) (a0 : Nat) (x1 : Int) (x2 : Int) (x3 : Int) (x4 : Int) (x5 : Int) (x6 : Int) (x7 : Int) (s0 : Int) (r1 : Nat) (s2 : Int) (h : Hp) : EX d 219 97 [(0, .inr (.inr a0)), (1, .inl x1), (2, .inl x2), (3, .inl x3), (4, .inl x4), (5, .inl x5), (6, .inl x6), (7, .inl x7)] [.inl s2, .inr (.inr r1), .inl s0] h = if okx h r1 20 s2 then if (wr s0) = (wr (hI h r1 (ix s2))) then EX d 219 104 [(0, .inr (.inr a0)), (1, .inl x1), (2, .inl x2), (3, .inl x3), (6, .inl x6), (7, .inl x7)] [] h else EX d 219 101 [(0, .inr (.inr a0)), (1, .inl x1), (2, .inl x2), (3, .inl x3), (4, .inl x4), (5, .inl x5), (6, .inl x6), (7, .inl x7)] [] h else none := (EX_at bk_Mod_findsEvenest_97 _ _ _).trans rfl
theorem bk_Mod_findsEvenest_101 : blk 219 101 = some (((cd_Mod_findsEvenest.lookup 101).getD ([], 0, []))) := rfl
theorem Mod_findsEvenest_101 (d : Nat) (a0 : Nat) (x1 : Int) (x2 : Int) (x3 : Int) (x4 : Int) (x5 : Int) (x6 : Int) (x7 : Int) (h : Hp) : EX d 219 101 [(0, .inr (.inr a0)), (1, .inl x1), (2, .inl x2), (3, .inl x3), (4, .inl x4), (5, .inl x5), (6, .inl x6), (7, .inl x7)] [] h = EX d 219 112 [(0, .inr (.inr a0)), (1, .inl x1), (2, .inl x2), (3, .inl x3), (4, .inl x4), (5, .inl x5), (6, .inl x6), (7, .inl x7)] [] h := (EX_at bk_Mod_findsEvenest_101 _ _ _).trans rfl
theorem bk_Mod_findsEvenest_104 : blk 219 104 = some (((cd_Mod_findsEvenest.lookup 104).getD ([], 0, []))) := rfl
theorem Mod_findsEvenest_104 (d : Nat) (a0 : Nat) (x1 : Int) (x2 : Int) (x3 : Int) (x6 : Int) (x7 : Int) (h : Hp) : EX d 219 104 [(0, .inr (.inr a0)), (1, .inl x1), (2, .inl x2), (3, .inl x3), (6, .inl x6), (7, .inl x7)] [] h = EX d 219 112 [(0, .inr (.inr a0)), (1, .inl x1), (2, .inl x2), (3, .inl x3), (4, .inl x6), (5, .inl x7), (6, .inl x6), (7, .inl x7)] [] h := (EX_at bk_Mod_findsEvenest_104 _ _ _).trans rfl
theorem bk_Mod_findsEvenest_112 : blk 219 112 = some (((cd_Mod_findsEvenest.lookup 112).getD ([], 0, []))) := rfl
theorem Mod_findsEvenest_112 (d : Nat) (a0 : Nat) (x1 : Int) (x2 : Int) (x3 : Int) (x4 : Int) (x5 : Int) (x6 : Int) (x7 : Int) (h : Hp) : EX d 219 112 [(0, .inr (.inr a0)), (1, .inl x1), (2, .inl x2), (3, .inl x3), (4, .inl x4), (5, .inl x5), (6, .inl x6), (7, .inl x7)] [] h = EX d 219 50 [(0, .inr (.inr a0)), (1, .inl x1), (2, .inl x2), (3, .inl x3), (4, .inl x4), (5, .inl x5), (6, .inl x6), (7, .inl (x7 + 1))] [] h := (EX_at bk_Mod_findsEvenest_112 _ _ _).trans rfl
theorem bk_Mod_findsEvenest_118 : blk 219 118 = some (((cd_Mod_findsEvenest.lookup 118).getD ([], 0, []))) := rfl
theorem Mod_findsEvenest_118 (d : Nat) (a0 : Nat) (x1 : Int) (x2 : Int) (x3 : Int) (x4 : Int) (x5 : Int) (x6 : Int) (h : Hp) : EX d 219 118 [(0, .inr (.inr a0)), (1, .inl x1), (2, .inl x2), (3, .inl x3), (4, .inl x4), (5, .inl x5), (6, .inl x6)] [] h = EX d 219 28 [(0, .inr (.inr a0)), (1, .inl x1), (2, .inl x2), (3, .inl x3), (4, .inl x4), (5, .inl x5), (6, .inl (x6 + 1))] [] h := (EX_at bk_Mod_findsEvenest_118 _ _ _).trans rfl
theorem bk_Mod_findsEvenest_124 : blk 219 124 = some (((cd_Mod_findsEvenest.lookup 124).getD ([], 0, []))) := rfl
theorem Mod_findsEvenest_124 (d : Nat) (a0 : Nat) (x3 : Int) (x4 : Int) (x5 : Int) (h : Hp) : EX d 219 124 [(0, .inr (.inr a0)), (3, .inl x3), (4, .inl x4), (5, .inl x5)] [] h = if sK h a0 = 11 then if okx h (hR h a0 23) 20 x4 then EX d 219 137 [(0, .inr (.inr a0)), (1, .inl x4), (2, .inl x5), (3, .inl x3)] [] (pI h (hR h a0 23) (ix x4) x5) else none else none := (EX_at bk_Mod_findsEvenest_124 _ _ _).trans rfl
theorem bk_Mod_findsEvenest_137 : blk 219 137 = some (((cd_Mod_findsEvenest.lookup 137).getD ([], 0, []))) := rfl
theorem Mod_findsEvenest_137 (d : Nat) (a0 : Nat) (x1 : Int) (x2 : Int) (x3 : Int) (h : Hp) : EX d 219 137 [(0, .inr (.inr a0)), (1, .inl x1), (2, .inl x2), (3, .inl x3)] [] h = EX d 219 13 [(0, .inr (.inr a0)), (1, .inl x1), (2, .inl x2), (3, .inl (x3 + (-1)))] [] h := (EX_at bk_Mod_findsEvenest_137 _ _ _).trans rfl
theorem bk_Mod_findsEvenest_143 : blk 219 143 = some (((cd_Mod_findsEvenest.lookup 143).getD ([], 0, []))) := rfl
theorem Mod_findsEvenest_143 (d : Nat) (h : Hp) : EX d 219 143 [] [] h = some (.inl 0, h) := (EX_at bk_Mod_findsEvenest_143 _ _ _).trans rfl
/-! evenest(I)I of HookOverModel: method 220 -/
theorem bk_Mod_evenest_0 : blk 220 0 = some (((cd_Mod_evenest.lookup 0).getD ([], 0, []))) := rfl
theorem Mod_evenest_0 (d : Nat) (a0 : Nat) (x1 : Int) (h : Hp) : EX d 220 0 [(0, .inr (.inr a0)), (1, .inl x1)] [] h = if sK h a0 = 11 then EX d 220 5 [(0, .inr (.inr a0)), (1, .inl x1)] [] (pI h a0 0 0) else none := (EX_at bk_Mod_evenest_0 _ _ _).trans rfl
theorem bk_Mod_evenest_5 : blk 220 5 = some (((cd_Mod_evenest.lookup 5).getD ([], 0, []))) := rfl
theorem Mod_evenest_5 (d : Nat) (a0 : Nat) (x1 : Int) (h : Hp) : EX d 220 5 [(0, .inr (.inr a0)), (1, .inl x1)] [] h = if sK h a0 = 11 then bak (EX d 220) 11 [(0, .inr (.inr a0)), (1, .inl x1)] [] false (cal d 204 [.inr (.inr a0), .inl x1, .inl 1] h) else none := (EX_at bk_Mod_evenest_5 _ _ _).trans rfl
theorem bk_Mod_evenest_11 : blk 220 11 = some (((cd_Mod_evenest.lookup 11).getD ([], 0, []))) := rfl
theorem Mod_evenest_11 (d : Nat) (a0 : Nat) (x1 : Int) (s0 : Int) (h : Hp) : EX d 220 11 [(0, .inr (.inr a0)), (1, .inl x1)] [.inl s0] h = if (wr s0) = 0 then EX d 220 14 [] [] h else EX d 220 17 [(0, .inr (.inr a0)), (1, .inl x1)] [] h := (EX_at bk_Mod_evenest_11 _ _ _).trans rfl
theorem bk_Mod_evenest_14 : blk 220 14 = some (((cd_Mod_evenest.lookup 14).getD ([], 0, []))) := rfl
theorem Mod_evenest_14 (d : Nat) (h : Hp) : EX d 220 14 [] [] h = some (.inl (-2), h) := (EX_at bk_Mod_evenest_14 _ _ _).trans rfl
theorem bk_Mod_evenest_17 : blk 220 17 = some (((cd_Mod_evenest.lookup 17).getD ([], 0, []))) := rfl
theorem Mod_evenest_17 (d : Nat) (a0 : Nat) (x1 : Int) (h : Hp) : EX d 220 17 [(0, .inr (.inr a0)), (1, .inl x1)] [] h = if sK h a0 = 11 then bak (EX d 220) 21 [(0, .inr (.inr a0)), (1, .inl x1)] [] true (cal d 218 [.inr (.inr a0)] h) else none := (EX_at bk_Mod_evenest_17 _ _ _).trans rfl
theorem bk_Mod_evenest_21 : blk 220 21 = some (((cd_Mod_evenest.lookup 21).getD ([], 0, []))) := rfl
theorem Mod_evenest_21 (d : Nat) (a0 : Nat) (x1 : Int) (h : Hp) : EX d 220 21 [(0, .inr (.inr a0)), (1, .inl x1)] [] h = if (wr x1) = 0 then EX d 220 25 [(0, .inr (.inr a0))] [] h else EX d 220 30 [(0, .inr (.inr a0)), (1, .inl x1)] [] h := (EX_at bk_Mod_evenest_21 _ _ _).trans rfl
theorem bk_Mod_evenest_25 : blk 220 25 = some (((cd_Mod_evenest.lookup 25).getD ([], 0, []))) := rfl
theorem Mod_evenest_25 (d : Nat) (a0 : Nat) (h : Hp) : EX d 220 25 [(0, .inr (.inr a0))] [] h = if sK h a0 = 11 then some (.inl (hI h a0 28), h) else none := (EX_at bk_Mod_evenest_25 _ _ _).trans rfl
theorem bk_Mod_evenest_30 : blk 220 30 = some (((cd_Mod_evenest.lookup 30).getD ([], 0, []))) := rfl
theorem Mod_evenest_30 (d : Nat) (a0 : Nat) (x1 : Int) (h : Hp) : EX d 220 30 [(0, .inr (.inr a0)), (1, .inl x1)] [] h = if (wr x1) = 1 then EX d 220 35 [(0, .inr (.inr a0))] [] h else EX d 220 50 [(0, .inr (.inr a0)), (1, .inl x1)] [] h := (EX_at bk_Mod_evenest_30 _ _ _).trans rfl
theorem bk_Mod_evenest_35 : blk 220 35 = some (((cd_Mod_evenest.lookup 35).getD ([], 0, []))) := rfl
theorem Mod_evenest_35 (d : Nat) (a0 : Nat) (h : Hp) : EX d 220 35 [(0, .inr (.inr a0))] [] h = if sK h a0 = 11 then if sK h a0 = 11 then bak (EX d 220) 48 [] [.inr (.inr (hR h a0 26))] false (cal d 185 [.inl (-1), .inl (-1), .inl (hI h a0 27)] h) else none else none := (EX_at bk_Mod_evenest_35 _ _ _).trans rfl
theorem bk_Mod_evenest_48 : blk 220 48 = some (((cd_Mod_evenest.lookup 48).getD ([], 0, []))) := rfl
theorem Mod_evenest_48 (d : Nat) (r0 : Nat) (s1 : Int) (h : Hp) : EX d 220 48 [] [.inl s1, .inr (.inr r0)] h = if okx h r0 20 s1 then some (.inl (hI h r0 (ix s1)), h) else none := (EX_at bk_Mod_evenest_48 _ _ _).trans rfl
theorem bk_Mod_evenest_50 : blk 220 50 = some (((cd_Mod_evenest.lookup 50).getD ([], 0, []))) := rfl
theorem Mod_evenest_50 (d : Nat) (a0 : Nat) (x1 : Int) (h : Hp) : EX d 220 50 [(0, .inr (.inr a0)), (1, .inl x1)] [] h = if sK h a0 = 11 then bak (EX d 220) 54 [(0, .inr (.inr a0)), (1, .inl x1)] [] true (cal d 219 [.inr (.inr a0)] h) else none := (EX_at bk_Mod_evenest_50 _ _ _).trans rfl
theorem bk_Mod_evenest_54 : blk 220 54 = some (((cd_Mod_evenest.lookup 54).getD ([], 0, []))) := rfl
theorem Mod_evenest_54 (d : Nat) (a0 : Nat) (x1 : Int) (h : Hp) : EX d 220 54 [(0, .inr (.inr a0)), (1, .inl x1)] [] h = if sK h a0 = 11 then if okx h (hR h a0 23) 20 (x1 - 10) then some (.inl (hI h (hR h a0 23) (ix (x1 - 10))), h) else none else none := (EX_at bk_Mod_evenest_54 _ _ _).trans rfl
/-! spread()I of HookOverModel: method 222 -/
theorem bk_Mod_spread_0 : blk 222 0 = some (((cd_Mod_spread.lookup 0).getD ([], 0, []))) := rfl
theorem Mod_spread_0 (d : Nat) (a0 : Nat) (h : Hp) : EX d 222 0 [(0, .inr (.inr a0))] [] h = if sK h a0 = 11 then EX d 222 5 [(0, .inr (.inr a0))] [] (pI h a0 0 0) else none := (EX_at bk_Mod_spread_0 _ _ _).trans rfl
theorem bk_Mod_spread_5 : blk 222 5 = some (((cd_Mod_spread.lookup 5).getD ([], 0, []))) := rfl
theorem Mod_spread_5 (d : Nat) (a0 : Nat) (h : Hp) : EX d 222 5 [(0, .inr (.inr a0))] [] h = if sK h a0 = 11 then bak (EX d 222) 9 [(0, .inr (.inr a0))] [] true (cal d 139 [.inr (.inr a0)] h) else none := (EX_at bk_Mod_spread_5 _ _ _).trans rfl
theorem bk_Mod_spread_9 : blk 222 9 = some (((cd_Mod_spread.lookup 9).getD ([], 0, []))) := rfl
theorem Mod_spread_9 (d : Nat) (a0 : Nat) (h : Hp) : EX d 222 9 [(0, .inr (.inr a0))] [] h = if sK h a0 = 11 then bak (EX d 222) 13 [(0, .inr (.inr a0))] [] true (cal d 218 [.inr (.inr a0)] h) else none := (EX_at bk_Mod_spread_9 _ _ _).trans rfl
theorem bk_Mod_spread_13 : blk 222 13 = some (((cd_Mod_spread.lookup 13).getD ([], 0, []))) := rfl
theorem Mod_spread_13 (d : Nat) (a0 : Nat) (h : Hp) : EX d 222 13 [(0, .inr (.inr a0))] [] h = if sK h a0 = 11 then bak (EX d 222) 17 [(0, .inr (.inr a0))] [] true (cal d 219 [.inr (.inr a0)] h) else none := (EX_at bk_Mod_spread_13 _ _ _).trans rfl
theorem bk_Mod_spread_17 : blk 222 17 = some (((cd_Mod_spread.lookup 17).getD ([], 0, []))) := rfl
theorem Mod_spread_17 (d : Nat) (a0 : Nat) (h : Hp) : EX d 222 17 [(0, .inr (.inr a0))] [] h = EX d 222 21 [(0, .inr (.inr a0)), (1, .inl 0), (2, .inl 0)] [] h := (EX_at bk_Mod_spread_17 _ _ _).trans rfl
theorem bk_Mod_spread_21 : blk 222 21 = some (((cd_Mod_spread.lookup 21).getD ([], 0, []))) := rfl
theorem Mod_spread_21 (d : Nat) (a0 : Nat) (x1 : Int) (x2 : Int) (h : Hp) : EX d 222 21 [(0, .inr (.inr a0)), (1, .inl x1), (2, .inl x2)] [] h = if sK h a0 = 11 then if okx h (hR h a0 1) 20 1 then if (wr x2) < (wr (hI h (hR h a0 1) 1)) then EX d 222 31 [(0, .inr (.inr a0)), (1, .inl x1), (2, .inl x2)] [] h else EX d 222 78 [(0, .inr (.inr a0)), (1, .inl x1)] [] h else none else none := (EX_at bk_Mod_spread_21 _ _ _).trans rfl
theorem bk_Mod_spread_31 : blk 222 31 = some (((cd_Mod_spread.lookup 31).getD ([], 0, []))) := rfl
theorem Mod_spread_31 (d : Nat) (a0 : Nat) (x1 : Int) (x2 : Int) (h : Hp) : EX d 222 31 [(0, .inr (.inr a0)), (1, .inl x1), (2, .inl x2)] [] h = if sK h a0 = 11 then if okx h (hR h a0 1) 20 (61 + x2) then if sK h a0 = 11 then if okx h (hR h a0 23) 20 x2 then if (wr (hI h (hR h a0 1) (ix (61 + x2)))) = (wr (hI h (hR h a0 23) (ix x2))) then EX d 222 50 [(0, .inr (.inr a0)), (2, .inl x2)] [.inl x1] h else EX d 222 54 [(0, .inr (.inr a0)), (2, .inl x2)] [.inl x1] h else none else none else none else none := (EX_at bk_Mod_spread_31 _ _ _).trans rfl
theorem bk_Mod_spread_50 : blk 222 50 = some (((cd_Mod_spread.lookup 50).getD ([], 0, []))) := rfl
theorem Mod_spread_50 (d : Nat) (a0 : Nat) (x2 : Int) (s0 : Int) (h : Hp) : EX d 222 50 [(0, .inr (.inr a0)), (2, .inl x2)] [.inl s0] h = EX d 222 55 [(0, .inr (.inr a0)), (2, .inl x2)] [.inl 0, .inl s0] h := (EX_at bk_Mod_spread_50 _ _ _).trans rfl
theorem bk_Mod_spread_54 : blk 222 54 = some (((cd_Mod_spread.lookup 54).getD ([], 0, []))) := rfl
theorem Mod_spread_54 (d : Nat) (a0 : Nat) (x2 : Int) (s0 : Int) (h : Hp) : EX d 222 54 [(0, .inr (.inr a0)), (2, .inl x2)] [.inl s0] h = EX d 222 55 [(0, .inr (.inr a0)), (2, .inl x2)] [.inl 1, .inl s0] h := (EX_at bk_Mod_spread_54 _ _ _).trans rfl
theorem bk_Mod_spread_55 : blk 222 55 = some (((cd_Mod_spread.lookup 55).getD ([], 0, []))) := rfl
theorem Mod_spread_55 (d : Nat) (a0 : Nat) (x2 : Int) (s0 : Int) (s1 : Int) (h : Hp) : EX d 222 55 [(0, .inr (.inr a0)), (2, .inl x2)] [.inl s1, .inl s0] h = if sK h a0 = 11 then if sK h a0 = 11 then if okx h (hR h a0 23) 20 x2 then if okx h (hR h a0 1) 20 (61 + x2) then EX d 222 72 [(0, .inr (.inr a0)), (1, .inl (s0 + s1)), (2, .inl x2)] [] (pI h (hR h a0 1) (ix (61 + x2)) (hI h (hR h a0 23) (ix x2))) else none else none else none else none := (EX_at bk_Mod_spread_55 _ _ _).trans rfl
theorem bk_Mod_spread_72 : blk 222 72 = some (((cd_Mod_spread.lookup 72).getD ([], 0, []))) := rfl
theorem Mod_spread_72 (d : Nat) (a0 : Nat) (x1 : Int) (x2 : Int) (h : Hp) : EX d 222 72 [(0, .inr (.inr a0)), (1, .inl x1), (2, .inl x2)] [] h = EX d 222 21 [(0, .inr (.inr a0)), (1, .inl x1), (2, .inl (x2 + 1))] [] h := (EX_at bk_Mod_spread_72 _ _ _).trans rfl
theorem bk_Mod_spread_78 : blk 222 78 = some (((cd_Mod_spread.lookup 78).getD ([], 0, []))) := rfl
theorem Mod_spread_78 (d : Nat) (a0 : Nat) (x1 : Int) (h : Hp) : EX d 222 78 [(0, .inr (.inr a0)), (1, .inl x1)] [] h = if 0 < (wr x1) then EX d 222 82 [(0, .inr (.inr a0)), (1, .inl x1)] [] h else EX d 222 86 [(1, .inl x1)] [] h := (EX_at bk_Mod_spread_78 _ _ _).trans rfl
theorem bk_Mod_spread_82 : blk 222 82 = some (((cd_Mod_spread.lookup 82).getD ([], 0, []))) := rfl
theorem Mod_spread_82 (d : Nat) (a0 : Nat) (x1 : Int) (h : Hp) : EX d 222 82 [(0, .inr (.inr a0)), (1, .inl x1)] [] h = if sK h a0 = 11 then bak (EX d 222) 86 [(1, .inl x1)] [] true (cal d 144 [.inr (.inr a0)] h) else none := (EX_at bk_Mod_spread_82 _ _ _).trans rfl
theorem bk_Mod_spread_86 : blk 222 86 = some (((cd_Mod_spread.lookup 86).getD ([], 0, []))) := rfl
theorem Mod_spread_86 (d : Nat) (x1 : Int) (h : Hp) : EX d 222 86 [(1, .inl x1)] [] h = some (.inl x1, h) := (EX_at bk_Mod_spread_86 _ _ _).trans rfl
/-! fullAt(II)I of HookOverModel: method 225 -/
theorem bk_Mod_fullAt_0 : blk 225 0 = some (((cd_Mod_fullAt.lookup 0).getD ([], 0, []))) := rfl
theorem Mod_fullAt_0 (d : Nat) (a0 : Nat) (x1 : Int) (x2 : Int) (h : Hp) : EX d 225 0 [(0, .inr (.inr a0)), (1, .inl x1), (2, .inl x2)] [] h = if sK h a0 = 11 then EX d 225 5 [(0, .inr (.inr a0)), (1, .inl x1), (2, .inl x2)] [] (pI h a0 0 0) else none := (EX_at bk_Mod_fullAt_0 _ _ _).trans rfl
theorem bk_Mod_fullAt_5 : blk 225 5 = some (((cd_Mod_fullAt.lookup 5).getD ([], 0, []))) := rfl
theorem Mod_fullAt_5 (d : Nat) (a0 : Nat) (x1 : Int) (x2 : Int) (h : Hp) : EX d 225 5 [(0, .inr (.inr a0)), (1, .inl x1), (2, .inl x2)] [] h = if sK h a0 = 11 then bak (EX d 225) 10 [(0, .inr (.inr a0)), (1, .inl x1), (2, .inl x2)] [] false (cal d 110 [.inr (.inr a0), .inl x2] h) else none := (EX_at bk_Mod_fullAt_5 _ _ _).trans rfl
theorem bk_Mod_fullAt_10 : blk 225 10 = some (((cd_Mod_fullAt.lookup 10).getD ([], 0, []))) := rfl
theorem Mod_fullAt_10 (d : Nat) (a0 : Nat) (x1 : Int) (x2 : Int) (s0 : Int) (h : Hp) : EX d 225 10 [(0, .inr (.inr a0)), (1, .inl x1), (2, .inl x2)] [.inl s0] h = if (wr s0) = 0 then EX d 225 13 [] [] h else EX d 225 16 [(0, .inr (.inr a0)), (1, .inl x1), (2, .inl x2)] [] h := (EX_at bk_Mod_fullAt_10 _ _ _).trans rfl
theorem bk_Mod_fullAt_13 : blk 225 13 = some (((cd_Mod_fullAt.lookup 13).getD ([], 0, []))) := rfl
theorem Mod_fullAt_13 (d : Nat) (h : Hp) : EX d 225 13 [] [] h = some (.inl (-2), h) := (EX_at bk_Mod_fullAt_13 _ _ _).trans rfl
theorem bk_Mod_fullAt_16 : blk 225 16 = some (((cd_Mod_fullAt.lookup 16).getD ([], 0, []))) := rfl
theorem Mod_fullAt_16 (d : Nat) (a0 : Nat) (x1 : Int) (x2 : Int) (h : Hp) : EX d 225 16 [(0, .inr (.inr a0)), (1, .inl x1), (2, .inl x2)] [] h = if (wr x1) < 0 then EX d 225 20 [] [] h else EX d 225 23 [(0, .inr (.inr a0)), (1, .inl x1), (2, .inl x2)] [] h := (EX_at bk_Mod_fullAt_16 _ _ _).trans rfl
theorem bk_Mod_fullAt_20 : blk 225 20 = some (((cd_Mod_fullAt.lookup 20).getD ([], 0, []))) := rfl
theorem Mod_fullAt_20 (d : Nat) (h : Hp) : EX d 225 20 [] [] h = some (.inl (-3), h) := (EX_at bk_Mod_fullAt_20 _ _ _).trans rfl
theorem bk_Mod_fullAt_23 : blk 225 23 = some (((cd_Mod_fullAt.lookup 23).getD ([], 0, []))) := rfl
theorem Mod_fullAt_23 (d : Nat) (a0 : Nat) (x1 : Int) (x2 : Int) (h : Hp) : EX d 225 23 [(0, .inr (.inr a0)), (1, .inl x1), (2, .inl x2)] [] h = if sK h a0 = 11 then bak (EX d 225) 27 [(0, .inr (.inr a0)), (1, .inl x1), (2, .inl x2)] [] false (cal d 193 [.inr (.inr a0)] h) else none := (EX_at bk_Mod_fullAt_23 _ _ _).trans rfl
theorem bk_Mod_fullAt_27 : blk 225 27 = some (((cd_Mod_fullAt.lookup 27).getD ([], 0, []))) := rfl
theorem Mod_fullAt_27 (d : Nat) (a0 : Nat) (x1 : Int) (x2 : Int) (s0 : Int) (h : Hp) : EX d 225 27 [(0, .inr (.inr a0)), (1, .inl x1), (2, .inl x2)] [.inl s0] h = if sK h a0 = 11 then bak (EX d 225) 33 [(0, .inr (.inr a0)), (1, .inl x1), (2, .inl x2), (3, .inl s0)] [] false (cal d 190 [.inr (.inr a0), .inl s0] h) else none := (EX_at bk_Mod_fullAt_27 _ _ _).trans rfl
theorem bk_Mod_fullAt_33 : blk 225 33 = some (((cd_Mod_fullAt.lookup 33).getD ([], 0, []))) := rfl
theorem Mod_fullAt_33 (d : Nat) (a0 : Nat) (x1 : Int) (x2 : Int) (x3 : Int) (t0 : Int) (h : Hp) : EX d 225 33 [(0, .inr (.inr a0)), (1, .inl x1), (2, .inl x2), (3, .inl x3)] [.inr (.inl t0)] h = if 0 < (wr (lCmp t0 (wr x1))) then EX d 225 42 [(0, .inr (.inr a0)), (1, .inl x1), (2, .inl x2), (3, .inl x3)] [] h else EX d 225 39 [] [] h := (EX_at bk_Mod_fullAt_33 _ _ _).trans rfl
theorem bk_Mod_fullAt_39 : blk 225 39 = some (((cd_Mod_fullAt.lookup 39).getD ([], 0, []))) := rfl
theorem Mod_fullAt_39 (d : Nat) (h : Hp) : EX d 225 39 [] [] h = some (.inl (-5), h) := (EX_at bk_Mod_fullAt_39 _ _ _).trans rfl
theorem bk_Mod_fullAt_42 : blk 225 42 = some (((cd_Mod_fullAt.lookup 42).getD ([], 0, []))) := rfl
theorem Mod_fullAt_42 (d : Nat) (a0 : Nat) (x1 : Int) (x2 : Int) (x3 : Int) (h : Hp) : EX d 225 42 [(0, .inr (.inr a0)), (1, .inl x1), (2, .inl x2), (3, .inl x3)] [] h = if sK h a0 = 11 then bak (EX d 225) 50 [(0, .inr (.inr a0)), (2, .inl x2), (3, .inl x3), (4, .inr (.inl (wr x1)))] [] true (cal d 207 [.inr (.inr a0)] h) else none := (EX_at bk_Mod_fullAt_42 _ _ _).trans rfl
theorem bk_Mod_fullAt_50 : blk 225 50 = some (((cd_Mod_fullAt.lookup 50).getD ([], 0, []))) := rfl
theorem Mod_fullAt_50 (d : Nat) (a0 : Nat) (x2 : Int) (x3 : Int) (y4 : Int) (h : Hp) : EX d 225 50 [(0, .inr (.inr a0)), (2, .inl x2), (3, .inl x3), (4, .inr (.inl y4))] [] h = EX d 225 56 [(0, .inr (.inr a0)), (2, .inl x2), (3, .inl x3), (4, .inr (.inl y4)), (6, .inl (-1)), (7, .inl (-1))] [] h := (EX_at bk_Mod_fullAt_50 _ _ _).trans rfl
theorem bk_Mod_fullAt_56 : blk 225 56 = some (((cd_Mod_fullAt.lookup 56).getD ([], 0, []))) := rfl
theorem Mod_fullAt_56 (d : Nat) (a0 : Nat) (x2 : Int) (x3 : Int) (y4 : Int) (x6 : Int) (x7 : Int) (h : Hp) : EX d 225 56 [(0, .inr (.inr a0)), (2, .inl x2), (3, .inl x3), (4, .inr (.inl y4)), (6, .inl x6), (7, .inl x7)] [] h = if 0 < (wr x3) then EX d 225 60 [(0, .inr (.inr a0)), (2, .inl x2), (3, .inl x3), (4, .inr (.inl y4)), (6, .inl x6), (7, .inl x7)] [] h else EX d 225 221 [(0, .inr (.inr a0)), (2, .inl x2)] [] h := (EX_at bk_Mod_fullAt_56 _ _ _).trans rfl
theorem bk_Mod_fullAt_60 : blk 225 60 = some (((cd_Mod_fullAt.lookup 60).getD ([], 0, []))) := rfl
theorem Mod_fullAt_60 (d : Nat) (a0 : Nat) (x2 : Int) (x3 : Int) (y4 : Int) (x6 : Int) (x7 : Int) (h : Hp) : EX d 225 60 [(0, .inr (.inr a0)), (2, .inl x2), (3, .inl x3), (4, .inr (.inl y4)), (6, .inl x6), (7, .inl x7)] [] h = EX d 225 74 [(0, .inr (.inr a0)), (2, .inl x2), (3, .inl x3), (4, .inr (.inl y4)), (6, .inl x6), (7, .inl x7), (8, .inl x6), (9, .inl x7), (10, .inl (x6 + 1))] [] h := (EX_at bk_Mod_fullAt_60 _ _ _).trans rfl
theorem bk_Mod_fullAt_74 : blk 225 74 = some (((cd_Mod_fullAt.lookup 74).getD ([], 0, []))) := rfl
theorem Mod_fullAt_74 (d : Nat) (a0 : Nat) (x2 : Int) (x3 : Int) (y4 : Int) (x6 : Int) (x7 : Int) (x8 : Int) (x9 : Int) (x10 : Int) (h : Hp) : EX d 225 74 [(0, .inr (.inr a0)), (2, .inl x2), (3, .inl x3), (4, .inr (.inl y4)), (6, .inl x6), (7, .inl x7), (8, .inl x8), (9, .inl x9), (10, .inl x10)] [] h = if sK h a0 = 11 then if okx h (hR h a0 1) 20 1 then if (wr x10) < (wr (hI h (hR h a0 1) 1)) then EX d 225 85 [(0, .inr (.inr a0)), (2, .inl x2), (3, .inl x3), (4, .inr (.inl y4)), (6, .inl x6), (7, .inl x7), (8, .inl x8), (9, .inl x9), (10, .inl x10)] [] h else EX d 225 198 [(0, .inr (.inr a0)), (2, .inl x2), (3, .inl x3), (4, .inr (.inl y4)), (8, .inl x8), (9, .inl x9)] [] h else none else none := (EX_at bk_Mod_fullAt_74 _ _ _).trans rfl
theorem bk_Mod_fullAt_85 : blk 225 85 = some (((cd_Mod_fullAt.lookup 85).getD ([], 0, []))) := rfl
theorem Mod_fullAt_85 (d : Nat) (a0 : Nat) (x2 : Int) (x3 : Int) (y4 : Int) (x6 : Int) (x7 : Int) (x8 : Int) (x9 : Int) (x10 : Int) (h : Hp) : EX d 225 85 [(0, .inr (.inr a0)), (2, .inl x2), (3, .inl x3), (4, .inr (.inl y4)), (6, .inl x6), (7, .inl x7), (8, .inl x8), (9, .inl x9), (10, .inl x10)] [] h = if (wr x8) = (wr x6) then EX d 225 92 [(0, .inr (.inr a0)), (2, .inl x2), (3, .inl x3), (4, .inr (.inl y4)), (6, .inl x6), (7, .inl x7), (8, .inl x8), (9, .inl x9), (10, .inl x10)] [] h else EX d 225 198 [(0, .inr (.inr a0)), (2, .inl x2), (3, .inl x3), (4, .inr (.inl y4)), (8, .inl x8), (9, .inl x9)] [] h := (EX_at bk_Mod_fullAt_85 _ _ _).trans rfl
theorem bk_Mod_fullAt_92 : blk 225 92 = some (((cd_Mod_fullAt.lookup 92).getD ([], 0, []))) := rfl
theorem Mod_fullAt_92 (d : Nat) (a0 : Nat) (x2 : Int) (x3 : Int) (y4 : Int) (x6 : Int) (x7 : Int) (x8 : Int) (x9 : Int) (x10 : Int) (h : Hp) : EX d 225 92 [(0, .inr (.inr a0)), (2, .inl x2), (3, .inl x3), (4, .inr (.inl y4)), (6, .inl x6), (7, .inl x7), (8, .inl x8), (9, .inl x9), (10, .inl x10)] [] h = EX d 225 98 [(0, .inr (.inr a0)), (2, .inl x2), (3, .inl x3), (4, .inr (.inl y4)), (6, .inl x6), (7, .inl x7), (8, .inl x8), (9, .inl x9), (10, .inl x10), (11, .inl (x7 + 1))] [] h := (EX_at bk_Mod_fullAt_92 _ _ _).trans rfl
theorem bk_Mod_fullAt_98 : blk 225 98 = some (((cd_Mod_fullAt.lookup 98).getD ([], 0, []))) := rfl
theorem Mod_fullAt_98 (d : Nat) (a0 : Nat) (x2 : Int) (x3 : Int) (y4 : Int) (x6 : Int) (x7 : Int) (x8 : Int) (x9 : Int) (x10 : Int) (x11 : Int) (h : Hp) : EX d 225 98 [(0, .inr (.inr a0)), (2, .inl x2), (3, .inl x3), (4, .inr (.inl y4)), (6, .inl x6), (7, .inl x7), (8, .inl x8), (9, .inl x9), (10, .inl x10), (11, .inl x11)] [] h = if sK h a0 = 11 then if okx h (hR h a0 1) 20 2 then if (wr x11) < (wr (hI h (hR h a0 1) 2)) then EX d 225 109 [(0, .inr (.inr a0)), (2, .inl x2), (3, .inl x3), (4, .inr (.inl y4)), (6, .inl x6), (7, .inl x7), (8, .inl x8), (9, .inl x9), (10, .inl x10), (11, .inl x11)] [] h else EX d 225 192 [(0, .inr (.inr a0)), (2, .inl x2), (3, .inl x3), (4, .inr (.inl y4)), (6, .inl x6), (7, .inl x7), (8, .inl x8), (9, .inl x9), (10, .inl x10)] [] h else none else none := (EX_at bk_Mod_fullAt_98 _ _ _).trans rfl
theorem bk_Mod_fullAt_109 : blk 225 109 = some (((cd_Mod_fullAt.lookup 109).getD ([], 0, []))) := rfl
theorem Mod_fullAt_109 (d : Nat) (a0 : Nat) (x2 : Int) (x3 : Int) (y4 : Int) (x6 : Int) (x7 : Int) (x8 : Int) (x9 : Int) (x10 : Int) (x11 : Int) (h : Hp) : EX d 225 109 [(0, .inr (.inr a0)), (2, .inl x2), (3, .inl x3), (4, .inr (.inl y4)), (6, .inl x6), (7, .inl x7), (8, .inl x8), (9, .inl x9), (10, .inl x10), (11, .inl x11)] [] h = if (wr x8) = (wr x6) then EX d 225 116 [(0, .inr (.inr a0)), (2, .inl x2), (3, .inl x3), (4, .inr (.inl y4)), (6, .inl x6), (7, .inl x7), (8, .inl x8), (9, .inl x9), (10, .inl x10), (11, .inl x11)] [] h else EX d 225 192 [(0, .inr (.inr a0)), (2, .inl x2), (3, .inl x3), (4, .inr (.inl y4)), (6, .inl x6), (7, .inl x7), (8, .inl x8), (9, .inl x9), (10, .inl x10)] [] h := (EX_at bk_Mod_fullAt_109 _ _ _).trans rfl
theorem bk_Mod_fullAt_116 : blk 225 116 = some (((cd_Mod_fullAt.lookup 116).getD ([], 0, []))) := rfl
theorem Mod_fullAt_116 (d : Nat) (a0 : Nat) (x2 : Int) (x3 : Int) (y4 : Int) (x6 : Int) (x7 : Int) (x8 : Int) (x9 : Int) (x10 : Int) (x11 : Int) (h : Hp) : EX d 225 116 [(0, .inr (.inr a0)), (2, .inl x2), (3, .inl x3), (4, .inr (.inl y4)), (6, .inl x6), (7, .inl x7), (8, .inl x8), (9, .inl x9), (10, .inl x10), (11, .inl x11)] [] h = if sK h a0 = 11 then bak (EX d 225) 128 [(0, .inr (.inr a0)), (2, .inl x2), (3, .inl x3), (4, .inr (.inl y4)), (6, .inl x6), (7, .inl x7), (8, .inl x8), (9, .inl x9), (10, .inl x10), (11, .inl x11)] [] false (cal d 187 [.inr (.inr a0), .inl x6, .inl x7, .inl x10, .inl x11] h) else none := (EX_at bk_Mod_fullAt_116 _ _ _).trans rfl
theorem bk_Mod_fullAt_128 : blk 225 128 = some (((cd_Mod_fullAt.lookup 128).getD ([], 0, []))) := rfl
theorem Mod_fullAt_128 (d : Nat) (a0 : Nat) (x2 : Int) (x3 : Int) (y4 : Int) (x6 : Int) (x7 : Int) (x8 : Int) (x9 : Int) (x10 : Int) (x11 : Int) (s0 : Int) (h : Hp) : EX d 225 128 [(0, .inr (.inr a0)), (2, .inl x2), (3, .inl x3), (4, .inr (.inl y4)), (6, .inl x6), (7, .inl x7), (8, .inl x8), (9, .inl x9), (10, .inl x10), (11, .inl x11)] [.inl s0] h = if (wr s0) = 0 then EX d 225 131 [(0, .inr (.inr a0)), (2, .inl x2), (3, .inl x3), (4, .inr (.inl y4)), (6, .inl x6), (7, .inl x7), (8, .inl x8), (9, .inl x9), (10, .inl x10), (11, .inl x11)] [] h else EX d 225 134 [(0, .inr (.inr a0)), (2, .inl x2), (3, .inl x3), (4, .inr (.inl y4)), (6, .inl x6), (7, .inl x7), (8, .inl x8), (9, .inl x9), (10, .inl x10), (11, .inl x11)] [] h := (EX_at bk_Mod_fullAt_128 _ _ _).trans rfl
theorem bk_Mod_fullAt_131 : blk 225 131 = some (((cd_Mod_fullAt.lookup 131).getD ([], 0, []))) := rfl
theorem Mod_fullAt_131 (d : Nat) (a0 : Nat) (x2 : Int) (x3 : Int) (y4 : Int) (x6 : Int) (x7 : Int) (x8 : Int) (x9 : Int) (x10 : Int) (x11 : Int) (h : Hp) : EX d 225 131 [(0, .inr (.inr a0)), (2, .inl x2), (3, .inl x3), (4, .inr (.inl y4)), (6, .inl x6), (7, .inl x7), (8, .inl x8), (9, .inl x9), (10, .inl x10), (11, .inl x11)] [] h = EX d 225 186 [(0, .inr (.inr a0)), (2, .inl x2), (3, .inl x3), (4, .inr (.inl y4)), (6, .inl x6), (7, .inl x7), (8, .inl x8), (9, .inl x9), (10, .inl x10), (11, .inl x11)] [] h := (EX_at bk_Mod_fullAt_131 _ _ _).trans rfl
theorem bk_Mod_fullAt_134 : blk 225 134 = some (((cd_Mod_fullAt.lookup 134).getD ([], 0, []))) := rfl
theorem Mod_fullAt_134 (d : Nat) (a0 : Nat) (x2 : Int) (x3 : Int) (y4 : Int) (x6 : Int) (x7 : Int) (x8 : Int) (x9 : Int) (x10 : Int) (x11 : Int) (h : Hp) : EX d 225 134 [(0, .inr (.inr a0)), (2, .inl x2), (3, .inl x3), (4, .inr (.inl y4)), (6, .inl x6), (7, .inl x7), (8, .inl x8), (9, .inl x9), (10, .inl x10), (11, .inl x11)] [] h = if sK h a0 = 11 then bak (EX d 225) 150 [(0, .inr (.inr a0)), (2, .inl x2), (3, .inl x3), (4, .inr (.inl y4)), (6, .inl x6), (7, .inl x7), (8, .inl x8), (9, .inl x9), (10, .inl x10), (11, .inl x11)] [.inr (.inr (hR h a0 19)), .inr (.inl y4)] false (cal d 185 [.inl x10, .inl x11, .inl (x3 - 1)] h) else none := (EX_at bk_Mod_fullAt_134 _ _ _).trans rfl
theorem bk_Mod_fullAt_150 : blk 225 150 = some (((cd_Mod_fullAt.lookup 150).getD ([], 0, []))) := rfl
theorem Mod_fullAt_150 (d : Nat) (a0 : Nat) (x2 : Int) (x3 : Int) (y4 : Int) (x6 : Int) (x7 : Int) (x8 : Int) (x9 : Int) (x10 : Int) (x11 : Int) (t0 : Int) (r1 : Nat) (s2 : Int) (h : Hp) : EX d 225 150 [(0, .inr (.inr a0)), (2, .inl x2), (3, .inl x3), (4, .inr (.inl y4)), (6, .inl x6), (7, .inl x7), (8, .inl x8), (9, .inl x9), (10, .inl x10), (11, .inl x11)] [.inl s2, .inr (.inr r1), .inr (.inl t0)] h = if okx h r1 21 s2 then if (wr (lCmp t0 (hL h r1 (ix s2)))) < 0 then EX d 225 178 [(0, .inr (.inr a0)), (2, .inl x2), (3, .inl x3), (4, .inr (.inl y4)), (6, .inl x6), (7, .inl x7), (10, .inl x10), (11, .inl x11)] [] h else EX d 225 155 [(0, .inr (.inr a0)), (2, .inl x2), (3, .inl x3), (4, .inr (.inl y4)), (6, .inl x6), (7, .inl x7), (8, .inl x8), (9, .inl x9), (10, .inl x10), (11, .inl x11)] [] h else none := (EX_at bk_Mod_fullAt_150 _ _ _).trans rfl
theorem bk_Mod_fullAt_155 : blk 225 155 = some (((cd_Mod_fullAt.lookup 155).getD ([], 0, []))) := rfl
theorem Mod_fullAt_155 (d : Nat) (a0 : Nat) (x2 : Int) (x3 : Int) (y4 : Int) (x6 : Int) (x7 : Int) (x8 : Int) (x9 : Int) (x10 : Int) (x11 : Int) (h : Hp) : EX d 225 155 [(0, .inr (.inr a0)), (2, .inl x2), (3, .inl x3), (4, .inr (.inl y4)), (6, .inl x6), (7, .inl x7), (8, .inl x8), (9, .inl x9), (10, .inl x10), (11, .inl x11)] [] h = if sK h a0 = 11 then bak (EX d 225) 171 [(0, .inr (.inr a0)), (2, .inl x2), (3, .inl x3), (6, .inl x6), (7, .inl x7), (8, .inl x8), (9, .inl x9), (10, .inl x10), (11, .inl x11)] [.inr (.inr (hR h a0 19)), .inr (.inl y4)] false (cal d 185 [.inl x10, .inl x11, .inl (x3 - 1)] h) else none := (EX_at bk_Mod_fullAt_155 _ _ _).trans rfl
theorem bk_Mod_fullAt_171 : blk 225 171 = some (((cd_Mod_fullAt.lookup 171).getD ([], 0, []))) := rfl
theorem Mod_fullAt_171 (d : Nat) (a0 : Nat) (x2 : Int) (x3 : Int) (x6 : Int) (x7 : Int) (x8 : Int) (x9 : Int) (x10 : Int) (x11 : Int) (t0 : Int) (r1 : Nat) (s2 : Int) (h : Hp) : EX d 225 171 [(0, .inr (.inr a0)), (2, .inl x2), (3, .inl x3), (6, .inl x6), (7, .inl x7), (8, .inl x8), (9, .inl x9), (10, .inl x10), (11, .inl x11)] [.inl s2, .inr (.inr r1), .inr (.inl t0)] h = if okx h r1 21 s2 then EX d 225 186 [(0, .inr (.inr a0)), (2, .inl x2), (3, .inl x3), (4, .inr (.inl (t0 - (hL h r1 (ix s2))))), (6, .inl x6), (7, .inl x7), (8, .inl x8), (9, .inl x9), (10, .inl x10), (11, .inl x11)] [] h else none := (EX_at bk_Mod_fullAt_171 _ _ _).trans rfl
theorem bk_Mod_fullAt_178 : blk 225 178 = some (((cd_Mod_fullAt.lookup 178).getD ([], 0, []))) := rfl
theorem Mod_fullAt_178 (d : Nat) (a0 : Nat) (x2 : Int) (x3 : Int) (y4 : Int) (x6 : Int) (x7 : Int) (x10 : Int) (x11 : Int) (h : Hp) : EX d 225 178 [(0, .inr (.inr a0)), (2, .inl x2), (3, .inl x3), (4, .inr (.inl y4)), (6, .inl x6), (7, .inl x7), (10, .inl x10), (11, .inl x11)] [] h = EX d 225 186 [(0, .inr (.inr a0)), (2, .inl x2), (3, .inl x3), (4, .inr (.inl y4)), (6, .inl x6), (7, .inl x7), (8, .inl x10), (9, .inl x11), (10, .inl x10), (11, .inl x11)] [] h := (EX_at bk_Mod_fullAt_178 _ _ _).trans rfl
theorem bk_Mod_fullAt_186 : blk 225 186 = some (((cd_Mod_fullAt.lookup 186).getD ([], 0, []))) := rfl
theorem Mod_fullAt_186 (d : Nat) (a0 : Nat) (x2 : Int) (x3 : Int) (y4 : Int) (x6 : Int) (x7 : Int) (x8 : Int) (x9 : Int) (x10 : Int) (x11 : Int) (h : Hp) : EX d 225 186 [(0, .inr (.inr a0)), (2, .inl x2), (3, .inl x3), (4, .inr (.inl y4)), (6, .inl x6), (7, .inl x7), (8, .inl x8), (9, .inl x9), (10, .inl x10), (11, .inl x11)] [] h = EX d 225 98 [(0, .inr (.inr a0)), (2, .inl x2), (3, .inl x3), (4, .inr (.inl y4)), (6, .inl x6), (7, .inl x7), (8, .inl x8), (9, .inl x9), (10, .inl x10), (11, .inl (x11 + 1))] [] h := (EX_at bk_Mod_fullAt_186 _ _ _).trans rfl
theorem bk_Mod_fullAt_192 : blk 225 192 = some (((cd_Mod_fullAt.lookup 192).getD ([], 0, []))) := rfl
theorem Mod_fullAt_192 (d : Nat) (a0 : Nat) (x2 : Int) (x3 : Int) (y4 : Int) (x6 : Int) (x7 : Int) (x8 : Int) (x9 : Int) (x10 : Int) (h : Hp) : EX d 225 192 [(0, .inr (.inr a0)), (2, .inl x2), (3, .inl x3), (4, .inr (.inl y4)), (6, .inl x6), (7, .inl x7), (8, .inl x8), (9, .inl x9), (10, .inl x10)] [] h = EX d 225 74 [(0, .inr (.inr a0)), (2, .inl x2), (3, .inl x3), (4, .inr (.inl y4)), (6, .inl x6), (7, .inl x7), (8, .inl x8), (9, .inl x9), (10, .inl (x10 + 1))] [] h := (EX_at bk_Mod_fullAt_192 _ _ _).trans rfl
theorem bk_Mod_fullAt_198 : blk 225 198 = some (((cd_Mod_fullAt.lookup 198).getD ([], 0, []))) := rfl
theorem Mod_fullAt_198 (d : Nat) (a0 : Nat) (x2 : Int) (x3 : Int) (y4 : Int) (x8 : Int) (x9 : Int) (h : Hp) : EX d 225 198 [(0, .inr (.inr a0)), (2, .inl x2), (3, .inl x3), (4, .inr (.inl y4)), (8, .inl x8), (9, .inl x9)] [] h = if sK h a0 = 11 then if okx h (hR h a0 23) 20 x8 then EX d 225 215 [(0, .inr (.inr a0)), (2, .inl x2), (3, .inl x3), (4, .inr (.inl y4)), (6, .inl x8), (7, .inl x9)] [] (pI h (hR h a0 23) (ix x8) x9) else none else none := (EX_at bk_Mod_fullAt_198 _ _ _).trans rfl
theorem bk_Mod_fullAt_215 : blk 225 215 = some (((cd_Mod_fullAt.lookup 215).getD ([], 0, []))) := rfl
theorem Mod_fullAt_215 (d : Nat) (a0 : Nat) (x2 : Int) (x3 : Int) (y4 : Int) (x6 : Int) (x7 : Int) (h : Hp) : EX d 225 215 [(0, .inr (.inr a0)), (2, .inl x2), (3, .inl x3), (4, .inr (.inl y4)), (6, .inl x6), (7, .inl x7)] [] h = EX d 225 56 [(0, .inr (.inr a0)), (2, .inl x2), (3, .inl (x3 + (-1))), (4, .inr (.inl y4)), (6, .inl x6), (7, .inl x7)] [] h := (EX_at bk_Mod_fullAt_215 _ _ _).trans rfl
theorem bk_Mod_fullAt_221 : blk 225 221 = some (((cd_Mod_fullAt.lookup 221).getD ([], 0, []))) := rfl
theorem Mod_fullAt_221 (d : Nat) (a0 : Nat) (x2 : Int) (h : Hp) : EX d 225 221 [(0, .inr (.inr a0)), (2, .inl x2)] [] h = if sK h a0 = 11 then if okx h (hR h a0 23) 20 x2 then some (.inl (hI h (hR h a0 23) (ix x2)), h) else none else none := (EX_at bk_Mod_fullAt_221 _ _ _).trans rfl
/-! lookAt(IIIIZ)I of HookOverModel: method 232 -/
theorem bk_Mod_lookAt_0 : blk 232 0 = some (((cd_Mod_lookAt.lookup 0).getD ([], 0, []))) := rfl
theorem Mod_lookAt_0 (d : Nat) (a0 : Nat) (x1 : Int) (x2 : Int) (x3 : Int) (x4 : Int) (x5 : Int) (h : Hp) : EX d 232 0 [(0, .inr (.inr a0)), (1, .inl x1), (2, .inl x2), (3, .inl x3), (4, .inl x4), (5, .inl x5)] [] h = if (wr x5) = 0 then EX d 232 9 [(0, .inr (.inr a0)), (1, .inl x1), (2, .inl x2), (3, .inl x3), (4, .inl x4)] [] h else EX d 232 5 [(0, .inr (.inr a0)), (2, .inl x2), (3, .inl x3), (4, .inl x4)] [] h := (EX_at bk_Mod_lookAt_0 _ _ _).trans rfl
theorem bk_Mod_lookAt_5 : blk 232 5 = some (((cd_Mod_lookAt.lookup 5).getD ([], 0, []))) := rfl
theorem Mod_lookAt_5 (d : Nat) (a0 : Nat) (x2 : Int) (x3 : Int) (x4 : Int) (h : Hp) : EX d 232 5 [(0, .inr (.inr a0)), (2, .inl x2), (3, .inl x3), (4, .inl x4)] [] h = EX d 232 21 [(0, .inr (.inr a0)), (2, .inl x2), (3, .inl x3), (4, .inl x4)] [.inl 1] h := (EX_at bk_Mod_lookAt_5 _ _ _).trans rfl
theorem bk_Mod_lookAt_9 : blk 232 9 = some (((cd_Mod_lookAt.lookup 9).getD ([], 0, []))) := rfl
theorem Mod_lookAt_9 (d : Nat) (a0 : Nat) (x1 : Int) (x2 : Int) (x3 : Int) (x4 : Int) (h : Hp) : EX d 232 9 [(0, .inr (.inr a0)), (1, .inl x1), (2, .inl x2), (3, .inl x3), (4, .inl x4)] [] h = if sK h a0 = 11 then if okx h (hR h a0 35) 21 ((40 * x1) + x3) then EX d 232 21 [(0, .inr (.inr a0)), (2, .inl x2), (3, .inl x3), (4, .inl x4)] [.inl (hL h (hR h a0 35) (ix ((40 * x1) + x3)))] h else none else none := (EX_at bk_Mod_lookAt_9 _ _ _).trans rfl
theorem bk_Mod_lookAt_21 : blk 232 21 = some (((cd_Mod_lookAt.lookup 21).getD ([], 0, []))) := rfl
theorem Mod_lookAt_21 (d : Nat) (a0 : Nat) (x2 : Int) (x3 : Int) (x4 : Int) (s0 : Int) (h : Hp) : EX d 232 21 [(0, .inr (.inr a0)), (2, .inl x2), (3, .inl x3), (4, .inl x4)] [.inl s0] h = if sK h a0 = 11 then if okx h (hR h a0 29) 20 ((21 * x2) + x3) then if sK h a0 = 11 then if okx h (hR h a0 29) 20 ((21 * (x3 + 1)) + x4) then bak (EX d 232) 49 [] [.inl s0] false (cal d 215 [.inl (hI h (hR h a0 29) (ix ((21 * x2) + x3))), .inl (hI h (hR h a0 29) (ix ((21 * (x3 + 1)) + x4)))] h) else none else none else none else none := (EX_at bk_Mod_lookAt_21 _ _ _).trans rfl
theorem bk_Mod_lookAt_49 : blk 232 49 = some (((cd_Mod_lookAt.lookup 49).getD ([], 0, []))) := rfl
theorem Mod_lookAt_49 (d : Nat) (s0 : Int) (s1 : Int) (h : Hp) : EX d 232 49 [] [.inl s1, .inl s0] h = some (.inl (s0 + s1), h) := (EX_at bk_Mod_lookAt_49 _ _ _).trans rfl
/-! laysLooks(IZ)V of HookOverModel: method 233 -/
theorem bk_Mod_laysLooks_0 : blk 233 0 = some (((cd_Mod_laysLooks.lookup 0).getD ([], 0, []))) := rfl
theorem Mod_laysLooks_0 (d : Nat) (a0 : Nat) (x1 : Int) (x2 : Int) (h : Hp) : EX d 233 0 [(0, .inr (.inr a0)), (1, .inl x1), (2, .inl x2)] [] h = if sK h a0 = 11 then if okx h (hR h a0 34) 20 x1 then EX d 233 10 [(0, .inr (.inr a0)), (1, .inl x1), (2, .inl x2), (3, .inl (hI h (hR h a0 34) (ix x1))), (4, .inl 0)] [] h else none else none := (EX_at bk_Mod_laysLooks_0 _ _ _).trans rfl
theorem bk_Mod_laysLooks_10 : blk 233 10 = some (((cd_Mod_laysLooks.lookup 10).getD ([], 0, []))) := rfl
theorem Mod_laysLooks_10 (d : Nat) (a0 : Nat) (x1 : Int) (x2 : Int) (x3 : Int) (x4 : Int) (h : Hp) : EX d 233 10 [(0, .inr (.inr a0)), (1, .inl x1), (2, .inl x2), (3, .inl x3), (4, .inl x4)] [] h = if (wr x3) < (wr x4) then EX d 233 129 [] [] h else EX d 233 16 [(0, .inr (.inr a0)), (1, .inl x1), (2, .inl x2), (3, .inl x3), (4, .inl x4)] [] h := (EX_at bk_Mod_laysLooks_10 _ _ _).trans rfl
theorem bk_Mod_laysLooks_16 : blk 233 16 = some (((cd_Mod_laysLooks.lookup 16).getD ([], 0, []))) := rfl
theorem Mod_laysLooks_16 (d : Nat) (a0 : Nat) (x1 : Int) (x2 : Int) (x3 : Int) (x4 : Int) (h : Hp) : EX d 233 16 [(0, .inr (.inr a0)), (1, .inl x1), (2, .inl x2), (3, .inl x3), (4, .inl x4)] [] h = EX d 233 19 [(0, .inr (.inr a0)), (1, .inl x1), (2, .inl x2), (3, .inl x3), (4, .inl x4), (5, .inl 0)] [] h := (EX_at bk_Mod_laysLooks_16 _ _ _).trans rfl
theorem bk_Mod_laysLooks_19 : blk 233 19 = some (((cd_Mod_laysLooks.lookup 19).getD ([], 0, []))) := rfl
theorem Mod_laysLooks_19 (d : Nat) (a0 : Nat) (x1 : Int) (x2 : Int) (x3 : Int) (x4 : Int) (x5 : Int) (h : Hp) : EX d 233 19 [(0, .inr (.inr a0)), (1, .inl x1), (2, .inl x2), (3, .inl x3), (4, .inl x4), (5, .inl x5)] [] h = if (wr x3) < (wr (x5 + x4)) then EX d 233 123 [(0, .inr (.inr a0)), (1, .inl x1), (2, .inl x2), (3, .inl x3), (4, .inl x4)] [] h else EX d 233 28 [(0, .inr (.inr a0)), (1, .inl x1), (2, .inl x2), (3, .inl x3), (4, .inl x4), (5, .inl x5)] [] h := (EX_at bk_Mod_laysLooks_19 _ _ _).trans rfl
theorem bk_Mod_laysLooks_28 : blk 233 28 = some (((cd_Mod_laysLooks.lookup 28).getD ([], 0, []))) := rfl
theorem Mod_laysLooks_28 (d : Nat) (a0 : Nat) (x1 : Int) (x2 : Int) (x3 : Int) (x4 : Int) (x5 : Int) (h : Hp) : EX d 233 28 [(0, .inr (.inr a0)), (1, .inl x1), (2, .inl x2), (3, .inl x3), (4, .inl x4), (5, .inl x5)] [] h = if (wr x4) = 0 then EX d 233 33 [(0, .inr (.inr a0)), (1, .inl x1), (2, .inl x2), (3, .inl x3), (4, .inl x4), (5, .inl x5)] [] h else EX d 233 37 [(0, .inr (.inr a0)), (1, .inl x1), (2, .inl x2), (3, .inl x3), (4, .inl x4), (5, .inl x5)] [] h := (EX_at bk_Mod_laysLooks_28 _ _ _).trans rfl
theorem bk_Mod_laysLooks_33 : blk 233 33 = some (((cd_Mod_laysLooks.lookup 33).getD ([], 0, []))) := rfl
theorem Mod_laysLooks_33 (d : Nat) (a0 : Nat) (x1 : Int) (x2 : Int) (x3 : Int) (x4 : Int) (x5 : Int) (h : Hp) : EX d 233 33 [(0, .inr (.inr a0)), (1, .inl x1), (2, .inl x2), (3, .inl x3), (4, .inl x4), (5, .inl x5)] [] h = EX d 233 38 [(0, .inr (.inr a0)), (1, .inl x1), (2, .inl x2), (3, .inl x3), (4, .inl x4), (5, .inl x5)] [.inl 0] h := (EX_at bk_Mod_laysLooks_33 _ _ _).trans rfl
theorem bk_Mod_laysLooks_37 : blk 233 37 = some (((cd_Mod_laysLooks.lookup 37).getD ([], 0, []))) := rfl
theorem Mod_laysLooks_37 (d : Nat) (a0 : Nat) (x1 : Int) (x2 : Int) (x3 : Int) (x4 : Int) (x5 : Int) (h : Hp) : EX d 233 37 [(0, .inr (.inr a0)), (1, .inl x1), (2, .inl x2), (3, .inl x3), (4, .inl x4), (5, .inl x5)] [] h = EX d 233 38 [(0, .inr (.inr a0)), (1, .inl x1), (2, .inl x2), (3, .inl x3), (4, .inl x4), (5, .inl x5)] [.inl (-1)] h := (EX_at bk_Mod_laysLooks_37 _ _ _).trans rfl
theorem bk_Mod_laysLooks_38 : blk 233 38 = some (((cd_Mod_laysLooks.lookup 38).getD ([], 0, []))) := rfl
theorem Mod_laysLooks_38 (d : Nat) (a0 : Nat) (x1 : Int) (x2 : Int) (x3 : Int) (x4 : Int) (x5 : Int) (s0 : Int) (h : Hp) : EX d 233 38 [(0, .inr (.inr a0)), (1, .inl x1), (2, .inl x2), (3, .inl x3), (4, .inl x4), (5, .inl x5)] [.inl s0] h = EX d 233 44 [(0, .inr (.inr a0)), (1, .inl x1), (2, .inl x2), (3, .inl x3), (4, .inl x4), (5, .inl x5), (6, .inl s0), (7, .inl x5)] [] h := (EX_at bk_Mod_laysLooks_38 _ _ _).trans rfl
theorem bk_Mod_laysLooks_44 : blk 233 44 = some (((cd_Mod_laysLooks.lookup 44).getD ([], 0, []))) := rfl
theorem Mod_laysLooks_44 (d : Nat) (a0 : Nat) (x1 : Int) (x2 : Int) (x3 : Int) (x4 : Int) (x5 : Int) (x6 : Int) (x7 : Int) (h : Hp) : EX d 233 44 [(0, .inr (.inr a0)), (1, .inl x1), (2, .inl x2), (3, .inl x3), (4, .inl x4), (5, .inl x5), (6, .inl x6), (7, .inl x7)] [] h = if (wr x7) < (wr (x5 + x4)) then EX d 233 54 [(0, .inr (.inr a0)), (1, .inl x1), (2, .inl x2), (3, .inl x3), (4, .inl x4), (5, .inl x5), (6, .inl x6), (7, .inl x7)] [] h else EX d 233 99 [(0, .inr (.inr a0)), (1, .inl x1), (2, .inl x2), (3, .inl x3), (4, .inl x4), (5, .inl x5), (6, .inl x6)] [] h := (EX_at bk_Mod_laysLooks_44 _ _ _).trans rfl
theorem bk_Mod_laysLooks_54 : blk 233 54 = some (((cd_Mod_laysLooks.lookup 54).getD ([], 0, []))) := rfl
theorem Mod_laysLooks_54 (d : Nat) (a0 : Nat) (x1 : Int) (x2 : Int) (x3 : Int) (x4 : Int) (x5 : Int) (x6 : Int) (x7 : Int) (h : Hp) : EX d 233 54 [(0, .inr (.inr a0)), (1, .inl x1), (2, .inl x2), (3, .inl x3), (4, .inl x4), (5, .inl x5), (6, .inl x6), (7, .inl x7)] [] h = if sK h a0 = 11 then bak (EX d 233) 69 [(0, .inr (.inr a0)), (1, .inl x1), (2, .inl x2), (3, .inl x3), (4, .inl x4), (5, .inl x5), (6, .inl x6), (7, .inl x7)] [] false (cal d 232 [.inr (.inr a0), .inl x1, .inl x5, .inl x7, .inl (x5 + x4), .inl x2] h) else none := (EX_at bk_Mod_laysLooks_54 _ _ _).trans rfl
theorem bk_Mod_laysLooks_69 : blk 233 69 = some (((cd_Mod_laysLooks.lookup 69).getD ([], 0, []))) := rfl
theorem Mod_laysLooks_69 (d : Nat) (a0 : Nat) (x1 : Int) (x2 : Int) (x3 : Int) (x4 : Int) (x5 : Int) (x6 : Int) (x7 : Int) (s0 : Int) (h : Hp) : EX d 233 69 [(0, .inr (.inr a0)), (1, .inl x1), (2, .inl x2), (3, .inl x3), (4, .inl x4), (5, .inl x5), (6, .inl x6), (7, .inl x7)] [.inl s0] h = if (wr x6) = (-1) then EX d 233 84 [(0, .inr (.inr a0)), (1, .inl x1), (2, .inl x2), (3, .inl x3), (4, .inl x4), (5, .inl x5), (7, .inl x7), (8, .inl s0)] [] h else EX d 233 77 [(0, .inr (.inr a0)), (1, .inl x1), (2, .inl x2), (3, .inl x3), (4, .inl x4), (5, .inl x5), (6, .inl x6), (7, .inl x7), (8, .inl s0)] [] h := (EX_at bk_Mod_laysLooks_69 _ _ _).trans rfl
theorem bk_Mod_laysLooks_77 : blk 233 77 = some (((cd_Mod_laysLooks.lookup 77).getD ([], 0, []))) := rfl
theorem Mod_laysLooks_77 (d : Nat) (a0 : Nat) (x1 : Int) (x2 : Int) (x3 : Int) (x4 : Int) (x5 : Int) (x6 : Int) (x7 : Int) (x8 : Int) (h : Hp) : EX d 233 77 [(0, .inr (.inr a0)), (1, .inl x1), (2, .inl x2), (3, .inl x3), (4, .inl x4), (5, .inl x5), (6, .inl x6), (7, .inl x7), (8, .inl x8)] [] h = if (wr x8) < (wr x6) then EX d 233 84 [(0, .inr (.inr a0)), (1, .inl x1), (2, .inl x2), (3, .inl x3), (4, .inl x4), (5, .inl x5), (7, .inl x7), (8, .inl x8)] [] h else EX d 233 89 [(0, .inr (.inr a0)), (1, .inl x1), (2, .inl x2), (3, .inl x3), (4, .inl x4), (5, .inl x5), (6, .inl x6), (7, .inl x7)] [] h := (EX_at bk_Mod_laysLooks_77 _ _ _).trans rfl
theorem bk_Mod_laysLooks_84 : blk 233 84 = some (((cd_Mod_laysLooks.lookup 84).getD ([], 0, []))) := rfl
theorem Mod_laysLooks_84 (d : Nat) (a0 : Nat) (x1 : Int) (x2 : Int) (x3 : Int) (x4 : Int) (x5 : Int) (x7 : Int) (x8 : Int) (h : Hp) : EX d 233 84 [(0, .inr (.inr a0)), (1, .inl x1), (2, .inl x2), (3, .inl x3), (4, .inl x4), (5, .inl x5), (7, .inl x7), (8, .inl x8)] [] h = EX d 233 91 [(0, .inr (.inr a0)), (1, .inl x1), (2, .inl x2), (3, .inl x3), (4, .inl x4), (5, .inl x5), (7, .inl x7)] [.inl x8] h := (EX_at bk_Mod_laysLooks_84 _ _ _).trans rfl
theorem bk_Mod_laysLooks_89 : blk 233 89 = some (((cd_Mod_laysLooks.lookup 89).getD ([], 0, []))) := rfl
theorem Mod_laysLooks_89 (d : Nat) (a0 : Nat) (x1 : Int) (x2 : Int) (x3 : Int) (x4 : Int) (x5 : Int) (x6 : Int) (x7 : Int) (h : Hp) : EX d 233 89 [(0, .inr (.inr a0)), (1, .inl x1), (2, .inl x2), (3, .inl x3), (4, .inl x4), (5, .inl x5), (6, .inl x6), (7, .inl x7)] [] h = EX d 233 91 [(0, .inr (.inr a0)), (1, .inl x1), (2, .inl x2), (3, .inl x3), (4, .inl x4), (5, .inl x5), (7, .inl x7)] [.inl x6] h := (EX_at bk_Mod_laysLooks_89 _ _ _).trans rfl
theorem bk_Mod_laysLooks_91 : blk 233 91 = some (((cd_Mod_laysLooks.lookup 91).getD ([], 0, []))) := rfl
theorem Mod_laysLooks_91 (d : Nat) (a0 : Nat) (x1 : Int) (x2 : Int) (x3 : Int) (x4 : Int) (x5 : Int) (x7 : Int) (s0 : Int) (h : Hp) : EX d 233 91 [(0, .inr (.inr a0)), (1, .inl x1), (2, .inl x2), (3, .inl x3), (4, .inl x4), (5, .inl x5), (7, .inl x7)] [.inl s0] h = EX d 233 44 [(0, .inr (.inr a0)), (1, .inl x1), (2, .inl x2), (3, .inl x3), (4, .inl x4), (5, .inl x5), (6, .inl s0), (7, .inl (x7 + 1))] [] h := (EX_at bk_Mod_laysLooks_91 _ _ _).trans rfl
theorem bk_Mod_laysLooks_99 : blk 233 99 = some (((cd_Mod_laysLooks.lookup 99).getD ([], 0, []))) := rfl
theorem Mod_laysLooks_99 (d : Nat) (a0 : Nat) (x1 : Int) (x2 : Int) (x3 : Int) (x4 : Int) (x5 : Int) (x6 : Int) (h : Hp) : EX d 233 99 [(0, .inr (.inr a0)), (1, .inl x1), (2, .inl x2), (3, .inl x3), (4, .inl x4), (5, .inl x5), (6, .inl x6)] [] h = if sK h a0 = 11 then if okx h (hR h a0 29) 20 (((21 * x5) + x5) + x4) then EX d 233 117 [(0, .inr (.inr a0)), (1, .inl x1), (2, .inl x2), (3, .inl x3), (4, .inl x4), (5, .inl x5)] [] (pI h (hR h a0 29) (ix (((21 * x5) + x5) + x4)) x6) else none else none := (EX_at bk_Mod_laysLooks_99 _ _ _).trans rfl
theorem bk_Mod_laysLooks_117 : blk 233 117 = some (((cd_Mod_laysLooks.lookup 117).getD ([], 0, []))) := rfl
theorem Mod_laysLooks_117 (d : Nat) (a0 : Nat) (x1 : Int) (x2 : Int) (x3 : Int) (x4 : Int) (x5 : Int) (h : Hp) : EX d 233 117 [(0, .inr (.inr a0)), (1, .inl x1), (2, .inl x2), (3, .inl x3), (4, .inl x4), (5, .inl x5)] [] h = EX d 233 19 [(0, .inr (.inr a0)), (1, .inl x1), (2, .inl x2), (3, .inl x3), (4, .inl x4), (5, .inl (x5 + 1))] [] h := (EX_at bk_Mod_laysLooks_117 _ _ _).trans rfl
theorem bk_Mod_laysLooks_123 : blk 233 123 = some (((cd_Mod_laysLooks.lookup 123).getD ([], 0, []))) := rfl
theorem Mod_laysLooks_123 (d : Nat) (a0 : Nat) (x1 : Int) (x2 : Int) (x3 : Int) (x4 : Int) (h : Hp) : EX d 233 123 [(0, .inr (.inr a0)), (1, .inl x1), (2, .inl x2), (3, .inl x3), (4, .inl x4)] [] h = EX d 233 10 [(0, .inr (.inr a0)), (1, .inl x1), (2, .inl x2), (3, .inl x3), (4, .inl (x4 + 1))] [] h := (EX_at bk_Mod_laysLooks_123 _ _ _).trans rfl
theorem bk_Mod_laysLooks_129 : blk 233 129 = some (((cd_Mod_laysLooks.lookup 129).getD ([], 0, []))) := rfl
theorem Mod_laysLooks_129 (d : Nat) (h : Hp) : EX d 233 129 [] [] h = some (.inl 0, h) := (EX_at bk_Mod_laysLooks_129 _ _ _).trans rfl
/-! looks(II)I of HookOverModel: method 234 -/
theorem bk_Mod_looks_0 : blk 234 0 = some (((cd_Mod_looks.lookup 0).getD ([], 0, []))) := rfl
theorem Mod_looks_0 (d : Nat) (a0 : Nat) (x1 : Int) (x2 : Int) (h : Hp) : EX d 234 0 [(0, .inr (.inr a0)), (1, .inl x1), (2, .inl x2)] [] h = if sK h a0 = 11 then EX d 234 5 [(0, .inr (.inr a0)), (1, .inl x1), (2, .inl x2)] [] (pI h a0 0 0) else none := (EX_at bk_Mod_looks_0 _ _ _).trans rfl
theorem bk_Mod_looks_5 : blk 234 5 = some (((cd_Mod_looks.lookup 5).getD ([], 0, []))) := rfl
theorem Mod_looks_5 (d : Nat) (a0 : Nat) (x1 : Int) (x2 : Int) (h : Hp) : EX d 234 5 [(0, .inr (.inr a0)), (1, .inl x1), (2, .inl x2)] [] h = bak (EX d 234) 14 [(0, .inr (.inr a0)), (1, .inl x1), (2, .inl x2)] [] false (cal d 73 [.inr (.inl (wr x2)), .inr (.inl 0), .inr (.inl 2)] h) := (EX_at bk_Mod_looks_5 _ _ _).trans rfl
theorem bk_Mod_looks_14 : blk 234 14 = some (((cd_Mod_looks.lookup 14).getD ([], 0, []))) := rfl
theorem Mod_looks_14 (d : Nat) (a0 : Nat) (x1 : Int) (x2 : Int) (s0 : Int) (h : Hp) : EX d 234 14 [(0, .inr (.inr a0)), (1, .inl x1), (2, .inl x2)] [.inl s0] h = if (wr s0) = 0 then EX d 234 17 [] [] h else EX d 234 20 [(0, .inr (.inr a0)), (1, .inl x1), (2, .inl x2)] [] h := (EX_at bk_Mod_looks_14 _ _ _).trans rfl
theorem bk_Mod_looks_17 : blk 234 17 = some (((cd_Mod_looks.lookup 17).getD ([], 0, []))) := rfl
theorem Mod_looks_17 (d : Nat) (h : Hp) : EX d 234 17 [] [] h = some (.inl (-2), h) := (EX_at bk_Mod_looks_17 _ _ _).trans rfl
theorem bk_Mod_looks_20 : blk 234 20 = some (((cd_Mod_looks.lookup 20).getD ([], 0, []))) := rfl
theorem Mod_looks_20 (d : Nat) (a0 : Nat) (x1 : Int) (x2 : Int) (h : Hp) : EX d 234 20 [(0, .inr (.inr a0)), (1, .inl x1), (2, .inl x2)] [] h = if sK h a0 = 11 then bak (EX d 234) 25 [(0, .inr (.inr a0)), (1, .inl x1), (2, .inl x2)] [] false (cal d 164 [.inr (.inr a0), .inl x1] h) else none := (EX_at bk_Mod_looks_20 _ _ _).trans rfl
theorem bk_Mod_looks_25 : blk 234 25 = some (((cd_Mod_looks.lookup 25).getD ([], 0, []))) := rfl
theorem Mod_looks_25 (d : Nat) (a0 : Nat) (x1 : Int) (x2 : Int) (s0 : Int) (h : Hp) : EX d 234 25 [(0, .inr (.inr a0)), (1, .inl x1), (2, .inl x2)] [.inl s0] h = if (wr s0) = 0 then EX d 234 32 [(0, .inr (.inr a0)), (1, .inl x1), (2, .inl x2)] [] h else EX d 234 30 [(3, .inl s0)] [] h := (EX_at bk_Mod_looks_25 _ _ _).trans rfl
theorem bk_Mod_looks_30 : blk 234 30 = some (((cd_Mod_looks.lookup 30).getD ([], 0, []))) := rfl
theorem Mod_looks_30 (d : Nat) (x3 : Int) (h : Hp) : EX d 234 30 [(3, .inl x3)] [] h = some (.inl x3, h) := (EX_at bk_Mod_looks_30 _ _ _).trans rfl
theorem bk_Mod_looks_32 : blk 234 32 = some (((cd_Mod_looks.lookup 32).getD ([], 0, []))) := rfl
theorem Mod_looks_32 (d : Nat) (a0 : Nat) (x1 : Int) (x2 : Int) (h : Hp) : EX d 234 32 [(0, .inr (.inr a0)), (1, .inl x1), (2, .inl x2)] [] h = if sK h a0 = 11 then if okx h (hR h a0 34) 20 x1 then bak (EX d 234) 50 [(0, .inr (.inr a0)), (1, .inl x1), (2, .inl x2), (4, .inl (hI h (hR h a0 34) (ix x1)))] [] false (cal d 73 [.inr (.inl (wr (hI h (hR h a0 34) (ix x1)))), .inr (.inl 1), .inr (.inl 20)] h) else none else none := (EX_at bk_Mod_looks_32 _ _ _).trans rfl
theorem bk_Mod_looks_50 : blk 234 50 = some (((cd_Mod_looks.lookup 50).getD ([], 0, []))) := rfl
theorem Mod_looks_50 (d : Nat) (a0 : Nat) (x1 : Int) (x2 : Int) (x4 : Int) (s0 : Int) (h : Hp) : EX d 234 50 [(0, .inr (.inr a0)), (1, .inl x1), (2, .inl x2), (4, .inl x4)] [.inl s0] h = if (wr s0) = 0 then EX d 234 53 [] [] h else EX d 234 56 [(0, .inr (.inr a0)), (1, .inl x1), (2, .inl x2), (4, .inl x4)] [] h := (EX_at bk_Mod_looks_50 _ _ _).trans rfl
theorem bk_Mod_looks_53 : blk 234 53 = some (((cd_Mod_looks.lookup 53).getD ([], 0, []))) := rfl
theorem Mod_looks_53 (d : Nat) (h : Hp) : EX d 234 53 [] [] h = some (.inl (-4), h) := (EX_at bk_Mod_looks_53 _ _ _).trans rfl
theorem bk_Mod_looks_56 : blk 234 56 = some (((cd_Mod_looks.lookup 56).getD ([], 0, []))) := rfl
theorem Mod_looks_56 (d : Nat) (a0 : Nat) (x1 : Int) (x2 : Int) (x4 : Int) (h : Hp) : EX d 234 56 [(0, .inr (.inr a0)), (1, .inl x1), (2, .inl x2), (4, .inl x4)] [] h = EX d 234 59 [(0, .inr (.inr a0)), (1, .inl x1), (2, .inl x2), (4, .inl x4), (5, .inl 0)] [] h := (EX_at bk_Mod_looks_56 _ _ _).trans rfl
theorem bk_Mod_looks_59 : blk 234 59 = some (((cd_Mod_looks.lookup 59).getD ([], 0, []))) := rfl
theorem Mod_looks_59 (d : Nat) (a0 : Nat) (x1 : Int) (x2 : Int) (x4 : Int) (x5 : Int) (h : Hp) : EX d 234 59 [(0, .inr (.inr a0)), (1, .inl x1), (2, .inl x2), (4, .inl x4), (5, .inl x5)] [] h = if (wr x5) < (wr x4) then EX d 234 66 [(0, .inr (.inr a0)), (1, .inl x1), (2, .inl x2), (4, .inl x4), (5, .inl x5)] [] h else EX d 234 97 [(0, .inr (.inr a0)), (1, .inl x1), (2, .inl x2), (4, .inl x4)] [] h := (EX_at bk_Mod_looks_59 _ _ _).trans rfl
theorem bk_Mod_looks_66 : blk 234 66 = some (((cd_Mod_looks.lookup 66).getD ([], 0, []))) := rfl
theorem Mod_looks_66 (d : Nat) (a0 : Nat) (x1 : Int) (x2 : Int) (x4 : Int) (x5 : Int) (h : Hp) : EX d 234 66 [(0, .inr (.inr a0)), (1, .inl x1), (2, .inl x2), (4, .inl x4), (5, .inl x5)] [] h = if sK h a0 = 11 then if okx h (hR h a0 35) 21 ((40 * x1) + x5) then bak (EX d 234) 85 [(0, .inr (.inr a0)), (1, .inl x1), (2, .inl x2), (4, .inl x4), (5, .inl x5)] [] false (cal d 73 [.inr (.inl (hL h (hR h a0 35) (ix ((40 * x1) + x5)))), .inr (.inl 0), .inr (.inl 999)] h) else none else none := (EX_at bk_Mod_looks_66 _ _ _).trans rfl
theorem bk_Mod_looks_85 : blk 234 85 = some (((cd_Mod_looks.lookup 85).getD ([], 0, []))) := rfl
theorem Mod_looks_85 (d : Nat) (a0 : Nat) (x1 : Int) (x2 : Int) (x4 : Int) (x5 : Int) (s0 : Int) (h : Hp) : EX d 234 85 [(0, .inr (.inr a0)), (1, .inl x1), (2, .inl x2), (4, .inl x4), (5, .inl x5)] [.inl s0] h = if (wr s0) = 0 then EX d 234 88 [] [] h else EX d 234 91 [(0, .inr (.inr a0)), (1, .inl x1), (2, .inl x2), (4, .inl x4), (5, .inl x5)] [] h := (EX_at bk_Mod_looks_85 _ _ _).trans rfl
theorem bk_Mod_looks_88 : blk 234 88 = some (((cd_Mod_looks.lookup 88).getD ([], 0, []))) := rfl
theorem Mod_looks_88 (d : Nat) (h : Hp) : EX d 234 88 [] [] h = some (.inl (-3), h) := (EX_at bk_Mod_looks_88 _ _ _).trans rfl
theorem bk_Mod_looks_91 : blk 234 91 = some (((cd_Mod_looks.lookup 91).getD ([], 0, []))) := rfl
theorem Mod_looks_91 (d : Nat) (a0 : Nat) (x1 : Int) (x2 : Int) (x4 : Int) (x5 : Int) (h : Hp) : EX d 234 91 [(0, .inr (.inr a0)), (1, .inl x1), (2, .inl x2), (4, .inl x4), (5, .inl x5)] [] h = EX d 234 59 [(0, .inr (.inr a0)), (1, .inl x1), (2, .inl x2), (4, .inl x4), (5, .inl (x5 + 1))] [] h := (EX_at bk_Mod_looks_91 _ _ _).trans rfl
theorem bk_Mod_looks_97 : blk 234 97 = some (((cd_Mod_looks.lookup 97).getD ([], 0, []))) := rfl
theorem Mod_looks_97 (d : Nat) (a0 : Nat) (x1 : Int) (x2 : Int) (x4 : Int) (h : Hp) : EX d 234 97 [(0, .inr (.inr a0)), (1, .inl x1), (2, .inl x2), (4, .inl x4)] [] h = if (wr x2) = 2 then EX d 234 104 [(0, .inr (.inr a0)), (1, .inl x1), (2, .inl x2), (4, .inl x4)] [.inl x1, .inr (.inr a0)] h else EX d 234 108 [(0, .inr (.inr a0)), (1, .inl x1), (2, .inl x2), (4, .inl x4)] [.inl x1, .inr (.inr a0)] h := (EX_at bk_Mod_looks_97 _ _ _).trans rfl
theorem bk_Mod_looks_104 : blk 234 104 = some (((cd_Mod_looks.lookup 104).getD ([], 0, []))) := rfl
theorem Mod_looks_104 (d : Nat) (a0 : Nat) (x1 : Int) (x2 : Int) (x4 : Int) (r0 : Nat) (s1 : Int) (h : Hp) : EX d 234 104 [(0, .inr (.inr a0)), (1, .inl x1), (2, .inl x2), (4, .inl x4)] [.inl s1, .inr (.inr r0)] h = EX d 234 109 [(0, .inr (.inr a0)), (1, .inl x1), (2, .inl x2), (4, .inl x4)] [.inl 1, .inl s1, .inr (.inr r0)] h := (EX_at bk_Mod_looks_104 _ _ _).trans rfl
theorem bk_Mod_looks_108 : blk 234 108 = some (((cd_Mod_looks.lookup 108).getD ([], 0, []))) := rfl
theorem Mod_looks_108 (d : Nat) (a0 : Nat) (x1 : Int) (x2 : Int) (x4 : Int) (r0 : Nat) (s1 : Int) (h : Hp) : EX d 234 108 [(0, .inr (.inr a0)), (1, .inl x1), (2, .inl x2), (4, .inl x4)] [.inl s1, .inr (.inr r0)] h = EX d 234 109 [(0, .inr (.inr a0)), (1, .inl x1), (2, .inl x2), (4, .inl x4)] [.inl 0, .inl s1, .inr (.inr r0)] h := (EX_at bk_Mod_looks_108 _ _ _).trans rfl
theorem bk_Mod_looks_109 : blk 234 109 = some (((cd_Mod_looks.lookup 109).getD ([], 0, []))) := rfl
theorem Mod_looks_109 (d : Nat) (a0 : Nat) (x1 : Int) (x2 : Int) (x4 : Int) (r0 : Nat) (s1 : Int) (s2 : Int) (h : Hp) : EX d 234 109 [(0, .inr (.inr a0)), (1, .inl x1), (2, .inl x2), (4, .inl x4)] [.inl s2, .inl s1, .inr (.inr r0)] h = if sK h r0 = 11 then bak (EX d 234) 112 [(0, .inr (.inr a0)), (1, .inl x1), (2, .inl x2), (4, .inl x4)] [] true (cal d 233 [.inr (.inr r0), .inl s1, .inl s2] h) else none := (EX_at bk_Mod_looks_109 _ _ _).trans rfl
theorem bk_Mod_looks_112 : blk 234 112 = some (((cd_Mod_looks.lookup 112).getD ([], 0, []))) := rfl
theorem Mod_looks_112 (d : Nat) (a0 : Nat) (x1 : Int) (x2 : Int) (x4 : Int) (h : Hp) : EX d 234 112 [(0, .inr (.inr a0)), (1, .inl x1), (2, .inl x2), (4, .inl x4)] [] h = if sK h a0 = 11 then if okx h (hR h a0 29) 20 x4 then if (wr x2) = 1 then EX d 234 129 [(0, .inr (.inr a0)), (1, .inl x1), (4, .inl x4), (5, .inl (hI h (hR h a0 29) (ix x4)))] [] h else EX d 234 126 [(5, .inl (hI h (hR h a0 29) (ix x4)))] [] h else none else none := (EX_at bk_Mod_looks_112 _ _ _).trans rfl
theorem bk_Mod_looks_126 : blk 234 126 = some (((cd_Mod_looks.lookup 126).getD ([], 0, []))) := rfl
theorem Mod_looks_126 (d : Nat) (x5 : Int) (h : Hp) : EX d 234 126 [(5, .inl x5)] [] h = some (.inl x5, h) := (EX_at bk_Mod_looks_126 _ _ _).trans rfl
theorem bk_Mod_looks_129 : blk 234 129 = some (((cd_Mod_looks.lookup 129).getD ([], 0, []))) := rfl
theorem Mod_looks_129 (d : Nat) (a0 : Nat) (x1 : Int) (x4 : Int) (x5 : Int) (h : Hp) : EX d 234 129 [(0, .inr (.inr a0)), (1, .inl x1), (4, .inl x4), (5, .inl x5)] [] h = EX d 234 132 [(0, .inr (.inr a0)), (1, .inl x1), (4, .inl x4), (5, .inl x5), (6, .inl 0)] [] h := (EX_at bk_Mod_looks_129 _ _ _).trans rfl
theorem bk_Mod_looks_132 : blk 234 132 = some (((cd_Mod_looks.lookup 132).getD ([], 0, []))) := rfl
theorem Mod_looks_132 (d : Nat) (a0 : Nat) (x1 : Int) (x4 : Int) (x5 : Int) (x6 : Int) (h : Hp) : EX d 234 132 [(0, .inr (.inr a0)), (1, .inl x1), (4, .inl x4), (5, .inl x5), (6, .inl x6)] [] h = if sK h a0 = 11 then bak (EX d 234) 143 [(0, .inr (.inr a0)), (1, .inl x1), (4, .inl x4), (5, .inl x5), (6, .inl x6)] [] false (cal d 232 [.inr (.inr a0), .inl x1, .inl 0, .inl x6, .inl x4, .inl 0] h) else none := (EX_at bk_Mod_looks_132 _ _ _).trans rfl
theorem bk_Mod_looks_143 : blk 234 143 = some (((cd_Mod_looks.lookup 143).getD ([], 0, []))) := rfl
theorem Mod_looks_143 (d : Nat) (a0 : Nat) (x1 : Int) (x4 : Int) (x5 : Int) (x6 : Int) (s0 : Int) (h : Hp) : EX d 234 143 [(0, .inr (.inr a0)), (1, .inl x1), (4, .inl x4), (5, .inl x5), (6, .inl x6)] [.inl s0] h = if (wr s0) = (wr x5) then EX d 234 154 [(6, .inl x6)] [] h else EX d 234 148 [(0, .inr (.inr a0)), (1, .inl x1), (4, .inl x4), (5, .inl x5), (6, .inl x6)] [] h := (EX_at bk_Mod_looks_143 _ _ _).trans rfl
theorem bk_Mod_looks_148 : blk 234 148 = some (((cd_Mod_looks.lookup 148).getD ([], 0, []))) := rfl
theorem Mod_looks_148 (d : Nat) (a0 : Nat) (x1 : Int) (x4 : Int) (x5 : Int) (x6 : Int) (h : Hp) : EX d 234 148 [(0, .inr (.inr a0)), (1, .inl x1), (4, .inl x4), (5, .inl x5), (6, .inl x6)] [] h = EX d 234 132 [(0, .inr (.inr a0)), (1, .inl x1), (4, .inl x4), (5, .inl x5), (6, .inl (x6 + 1))] [] h := (EX_at bk_Mod_looks_148 _ _ _).trans rfl
theorem bk_Mod_looks_154 : blk 234 154 = some (((cd_Mod_looks.lookup 154).getD ([], 0, []))) := rfl
theorem Mod_looks_154 (d : Nat) (x6 : Int) (h : Hp) : EX d 234 154 [(6, .inl x6)] [] h = some (.inl x6, h) := (EX_at bk_Mod_looks_154 _ _ _).trans rfl
/-! goesRound(IIIII)V of HookOverModel: method 241 -/
theorem bk_Mod_goesRound_0 : blk 241 0 = some (((cd_Mod_goesRound.lookup 0).getD ([], 0, []))) := rfl
theorem Mod_goesRound_0 (d : Nat) (a0 : Nat) (x1 : Int) (x2 : Int) (x3 : Int) (x4 : Int) (x5 : Int) (h : Hp) : EX d 241 0 [(0, .inr (.inr a0)), (1, .inl x1), (2, .inl x2), (3, .inl x3), (4, .inl x4), (5, .inl x5)] [] h = if sK h a0 = 11 then if okx h (hR h a0 34) 20 x1 then if (wr x2) = (wr (hI h (hR h a0 34) (ix x1))) then EX d 241 10 [(0, .inr (.inr a0)), (2, .inl x2), (5, .inl x5)] [] h else EX d 241 64 [(0, .inr (.inr a0)), (1, .inl x1), (2, .inl x2), (3, .inl x3), (4, .inl x4), (5, .inl x5)] [] h else none else none := (EX_at bk_Mod_goesRound_0 _ _ _).trans rfl
theorem bk_Mod_goesRound_10 : blk 241 10 = some (((cd_Mod_goesRound.lookup 10).getD ([], 0, []))) := rfl
theorem Mod_goesRound_10 (d : Nat) (a0 : Nat) (x2 : Int) (x5 : Int) (h : Hp) : EX d 241 10 [(0, .inr (.inr a0)), (2, .inl x2), (5, .inl x5)] [] h = if sK h a0 = 11 then if (wr (hI h a0 32)) = (-1) then EX d 241 28 [(0, .inr (.inr a0)), (2, .inl x2), (5, .inl x5)] [] h else EX d 241 18 [(0, .inr (.inr a0)), (2, .inl x2), (5, .inl x5)] [] h else none := (EX_at bk_Mod_goesRound_10 _ _ _).trans rfl
theorem bk_Mod_goesRound_18 : blk 241 18 = some (((cd_Mod_goesRound.lookup 18).getD ([], 0, []))) := rfl
theorem Mod_goesRound_18 (d : Nat) (a0 : Nat) (x2 : Int) (x5 : Int) (h : Hp) : EX d 241 18 [(0, .inr (.inr a0)), (2, .inl x2), (5, .inl x5)] [] h = if sK h a0 = 11 then if (wr x5) < (wr (hI h a0 32)) then EX d 241 28 [(0, .inr (.inr a0)), (2, .inl x2), (5, .inl x5)] [] h else EX d 241 27 [] [] h else none := (EX_at bk_Mod_goesRound_18 _ _ _).trans rfl
theorem bk_Mod_goesRound_27 : blk 241 27 = some (((cd_Mod_goesRound.lookup 27).getD ([], 0, []))) := rfl
theorem Mod_goesRound_27 (d : Nat) (h : Hp) : EX d 241 27 [] [] h = some (.inl 0, h) := (EX_at bk_Mod_goesRound_27 _ _ _).trans rfl
theorem bk_Mod_goesRound_28 : blk 241 28 = some (((cd_Mod_goesRound.lookup 28).getD ([], 0, []))) := rfl
theorem Mod_goesRound_28 (d : Nat) (a0 : Nat) (x2 : Int) (x5 : Int) (h : Hp) : EX d 241 28 [(0, .inr (.inr a0)), (2, .inl x2), (5, .inl x5)] [] h = if sK h a0 = 11 then EX d 241 34 [(0, .inr (.inr a0)), (2, .inl x2)] [] (pI h a0 32 x5) else none := (EX_at bk_Mod_goesRound_28 _ _ _).trans rfl
theorem bk_Mod_goesRound_34 : blk 241 34 = some (((cd_Mod_goesRound.lookup 34).getD ([], 0, []))) := rfl
theorem Mod_goesRound_34 (d : Nat) (a0 : Nat) (x2 : Int) (h : Hp) : EX d 241 34 [(0, .inr (.inr a0)), (2, .inl x2)] [] h = EX d 241 37 [(0, .inr (.inr a0)), (2, .inl x2), (6, .inl 0)] [] h := (EX_at bk_Mod_goesRound_34 _ _ _).trans rfl
theorem bk_Mod_goesRound_37 : blk 241 37 = some (((cd_Mod_goesRound.lookup 37).getD ([], 0, []))) := rfl
theorem Mod_goesRound_37 (d : Nat) (a0 : Nat) (x2 : Int) (x6 : Int) (h : Hp) : EX d 241 37 [(0, .inr (.inr a0)), (2, .inl x2), (6, .inl x6)] [] h = if (wr x6) < (wr x2) then EX d 241 43 [(0, .inr (.inr a0)), (2, .inl x2), (6, .inl x6)] [] h else EX d 241 63 [] [] h := (EX_at bk_Mod_goesRound_37 _ _ _).trans rfl
theorem bk_Mod_goesRound_43 : blk 241 43 = some (((cd_Mod_goesRound.lookup 43).getD ([], 0, []))) := rfl
theorem Mod_goesRound_43 (d : Nat) (a0 : Nat) (x2 : Int) (x6 : Int) (h : Hp) : EX d 241 43 [(0, .inr (.inr a0)), (2, .inl x2), (6, .inl x6)] [] h = if sK h a0 = 11 then if sK h a0 = 11 then if okx h (hR h a0 30) 20 x6 then if okx h (hR h a0 31) 20 x6 then EX d 241 57 [(0, .inr (.inr a0)), (2, .inl x2), (6, .inl x6)] [] (pI h (hR h a0 31) (ix x6) (hI h (hR h a0 30) (ix x6))) else none else none else none else none := (EX_at bk_Mod_goesRound_43 _ _ _).trans rfl
theorem bk_Mod_goesRound_57 : blk 241 57 = some (((cd_Mod_goesRound.lookup 57).getD ([], 0, []))) := rfl
theorem Mod_goesRound_57 (d : Nat) (a0 : Nat) (x2 : Int) (x6 : Int) (h : Hp) : EX d 241 57 [(0, .inr (.inr a0)), (2, .inl x2), (6, .inl x6)] [] h = EX d 241 37 [(0, .inr (.inr a0)), (2, .inl x2), (6, .inl (x6 + 1))] [] h := (EX_at bk_Mod_goesRound_57 _ _ _).trans rfl
theorem bk_Mod_goesRound_63 : blk 241 63 = some (((cd_Mod_goesRound.lookup 63).getD ([], 0, []))) := rfl
theorem Mod_goesRound_63 (d : Nat) (h : Hp) : EX d 241 63 [] [] h = some (.inl 0, h) := (EX_at bk_Mod_goesRound_63 _ _ _).trans rfl
theorem bk_Mod_goesRound_64 : blk 241 64 = some (((cd_Mod_goesRound.lookup 64).getD ([], 0, []))) := rfl
theorem Mod_goesRound_64 (d : Nat) (a0 : Nat) (x1 : Int) (x2 : Int) (x3 : Int) (x4 : Int) (x5 : Int) (h : Hp) : EX d 241 64 [(0, .inr (.inr a0)), (1, .inl x1), (2, .inl x2), (3, .inl x3), (4, .inl x4), (5, .inl x5)] [] h = EX d 241 67 [(0, .inr (.inr a0)), (1, .inl x1), (2, .inl x2), (3, .inl x3), (4, .inl x4), (5, .inl x5), (6, .inl 0)] [] h := (EX_at bk_Mod_goesRound_64 _ _ _).trans rfl
theorem bk_Mod_goesRound_67 : blk 241 67 = some (((cd_Mod_goesRound.lookup 67).getD ([], 0, []))) := rfl
theorem Mod_goesRound_67 (d : Nat) (a0 : Nat) (x1 : Int) (x2 : Int) (x3 : Int) (x4 : Int) (x5 : Int) (x6 : Int) (h : Hp) : EX d 241 67 [(0, .inr (.inr a0)), (1, .inl x1), (2, .inl x2), (3, .inl x3), (4, .inl x4), (5, .inl x5), (6, .inl x6)] [] h = if sK h a0 = 11 then if okx h (hR h a0 34) 20 x1 then if (wr x6) < (wr (hI h (hR h a0 34) (ix x1))) then EX d 241 78 [(0, .inr (.inr a0)), (1, .inl x1), (2, .inl x2), (3, .inl x3), (4, .inl x4), (5, .inl x5), (6, .inl x6)] [] h else EX d 241 153 [] [] h else none else none := (EX_at bk_Mod_goesRound_67 _ _ _).trans rfl
theorem bk_Mod_goesRound_78 : blk 241 78 = some (((cd_Mod_goesRound.lookup 78).getD ([], 0, []))) := rfl
theorem Mod_goesRound_78 (d : Nat) (a0 : Nat) (x1 : Int) (x2 : Int) (x3 : Int) (x4 : Int) (x5 : Int) (x6 : Int) (h : Hp) : EX d 241 78 [(0, .inr (.inr a0)), (1, .inl x1), (2, .inl x2), (3, .inl x3), (4, .inl x4), (5, .inl x5), (6, .inl x6)] [] h = bak (EX d 241) 85 [(0, .inr (.inr a0)), (1, .inl x1), (2, .inl x2), (3, .inl x3), (4, .inl x4), (5, .inl x5), (6, .inl x6)] [] false (cal d 98 [.inr (.inl (wr x3)), .inl x6] h) := (EX_at bk_Mod_goesRound_78 _ _ _).trans rfl
theorem bk_Mod_goesRound_85 : blk 241 85 = some (((cd_Mod_goesRound.lookup 85).getD ([], 0, []))) := rfl
theorem Mod_goesRound_85 (d : Nat) (a0 : Nat) (x1 : Int) (x2 : Int) (x3 : Int) (x4 : Int) (x5 : Int) (x6 : Int) (s0 : Int) (h : Hp) : EX d 241 85 [(0, .inr (.inr a0)), (1, .inl x1), (2, .inl x2), (3, .inl x3), (4, .inl x4), (5, .inl x5), (6, .inl x6)] [.inl s0] h = if (wr s0) = 0 then EX d 241 91 [(0, .inr (.inr a0)), (1, .inl x1), (2, .inl x2), (3, .inl x3), (4, .inl x4), (5, .inl x5), (6, .inl x6)] [] h else EX d 241 88 [(0, .inr (.inr a0)), (1, .inl x1), (2, .inl x2), (3, .inl x3), (4, .inl x4), (5, .inl x5), (6, .inl x6)] [] h := (EX_at bk_Mod_goesRound_85 _ _ _).trans rfl
theorem bk_Mod_goesRound_88 : blk 241 88 = some (((cd_Mod_goesRound.lookup 88).getD ([], 0, []))) := rfl
theorem Mod_goesRound_88 (d : Nat) (a0 : Nat) (x1 : Int) (x2 : Int) (x3 : Int) (x4 : Int) (x5 : Int) (x6 : Int) (h : Hp) : EX d 241 88 [(0, .inr (.inr a0)), (1, .inl x1), (2, .inl x2), (3, .inl x3), (4, .inl x4), (5, .inl x5), (6, .inl x6)] [] h = EX d 241 147 [(0, .inr (.inr a0)), (1, .inl x1), (2, .inl x2), (3, .inl x3), (4, .inl x4), (5, .inl x5), (6, .inl x6)] [] h := (EX_at bk_Mod_goesRound_88 _ _ _).trans rfl
theorem bk_Mod_goesRound_91 : blk 241 91 = some (((cd_Mod_goesRound.lookup 91).getD ([], 0, []))) := rfl
theorem Mod_goesRound_91 (d : Nat) (a0 : Nat) (x1 : Int) (x2 : Int) (x3 : Int) (x4 : Int) (x5 : Int) (x6 : Int) (h : Hp) : EX d 241 91 [(0, .inr (.inr a0)), (1, .inl x1), (2, .inl x2), (3, .inl x3), (4, .inl x4), (5, .inl x5), (6, .inl x6)] [] h = if sK h a0 = 11 then if okx h (hR h a0 35) 21 ((40 * x1) + x6) then if sK h a0 = 11 then if okx h (hR h a0 30) 20 x2 then EX d 241 114 [(0, .inr (.inr a0)), (1, .inl x1), (2, .inl x2), (3, .inl x3), (4, .inl x4), (5, .inl x5), (6, .inl x6), (7, .inl (hL h (hR h a0 35) (ix ((40 * x1) + x6))))] [] (pI h (hR h a0 30) (ix x2) (hL h (hR h a0 35) (ix ((40 * x1) + x6)))) else none else none else none else none := (EX_at bk_Mod_goesRound_91 _ _ _).trans rfl
theorem bk_Mod_goesRound_114 : blk 241 114 = some (((cd_Mod_goesRound.lookup 114).getD ([], 0, []))) := rfl
theorem Mod_goesRound_114 (d : Nat) (a0 : Nat) (x1 : Int) (x2 : Int) (x3 : Int) (x4 : Int) (x5 : Int) (x6 : Int) (x7 : Int) (h : Hp) : EX d 241 114 [(0, .inr (.inr a0)), (1, .inl x1), (2, .inl x2), (3, .inl x3), (4, .inl x4), (5, .inl x5), (6, .inl x6), (7, .inl x7)] [] h = if sK h a0 = 11 then bak (EX d 241) 133 [(0, .inr (.inr a0)), (1, .inl x1), (2, .inl x2), (3, .inl x3), (4, .inl x4), (5, .inl x5), (6, .inl x6), (7, .inl x7)] [.inl (bOr x3 (bShl 1 x6)), .inl (x2 + 1), .inl x1, .inr (.inr a0)] false (cal d 140 [.inr (.inr a0), .inl x4, .inl x7] h) else none := (EX_at bk_Mod_goesRound_114 _ _ _).trans rfl
theorem bk_Mod_goesRound_133 : blk 241 133 = some (((cd_Mod_goesRound.lookup 133).getD ([], 0, []))) := rfl
theorem Mod_goesRound_133 (d : Nat) (a0 : Nat) (x1 : Int) (x2 : Int) (x3 : Int) (x4 : Int) (x5 : Int) (x6 : Int) (x7 : Int) (r0 : Nat) (s1 : Int) (s2 : Int) (s3 : Int) (s4 : Int) (h : Hp) : EX d 241 133 [(0, .inr (.inr a0)), (1, .inl x1), (2, .inl x2), (3, .inl x3), (4, .inl x4), (5, .inl x5), (6, .inl x6), (7, .inl x7)] [.inl s4, .inl s3, .inl s2, .inl s1, .inr (.inr r0)] h = if sK h a0 = 11 then bak (EX d 241) 143 [(0, .inr (.inr a0)), (1, .inl x1), (2, .inl x2), (3, .inl x3), (4, .inl x4), (5, .inl x5), (6, .inl x6)] [.inl x5, .inl s4, .inl s3, .inl s2, .inl s1, .inr (.inr r0)] false (cal d 141 [.inr (.inr a0), .inl x4, .inl x7] h) else none := (EX_at bk_Mod_goesRound_133 _ _ _).trans rfl
theorem bk_Mod_goesRound_143 : blk 241 143 = some (((cd_Mod_goesRound.lookup 143).getD ([], 0, []))) := rfl
theorem Mod_goesRound_143 (d : Nat) (a0 : Nat) (x1 : Int) (x2 : Int) (x3 : Int) (x4 : Int) (x5 : Int) (x6 : Int) (r0 : Nat) (s1 : Int) (s2 : Int) (s3 : Int) (s4 : Int) (s5 : Int) (s6 : Int) (h : Hp) : EX d 241 143 [(0, .inr (.inr a0)), (1, .inl x1), (2, .inl x2), (3, .inl x3), (4, .inl x4), (5, .inl x5), (6, .inl x6)] [.inl s6, .inl s5, .inl s4, .inl s3, .inl s2, .inl s1, .inr (.inr r0)] h = if sK h r0 = 11 then bak (EX d 241) 147 [(0, .inr (.inr a0)), (1, .inl x1), (2, .inl x2), (3, .inl x3), (4, .inl x4), (5, .inl x5), (6, .inl x6)] [] true (cal d 241 [.inr (.inr r0), .inl s1, .inl s2, .inl s3, .inl s4, .inl (s5 + s6)] h) else none := (EX_at bk_Mod_goesRound_143 _ _ _).trans rfl
theorem bk_Mod_goesRound_147 : blk 241 147 = some (((cd_Mod_goesRound.lookup 147).getD ([], 0, []))) := rfl
theorem Mod_goesRound_147 (d : Nat) (a0 : Nat) (x1 : Int) (x2 : Int) (x3 : Int) (x4 : Int) (x5 : Int) (x6 : Int) (h : Hp) : EX d 241 147 [(0, .inr (.inr a0)), (1, .inl x1), (2, .inl x2), (3, .inl x3), (4, .inl x4), (5, .inl x5), (6, .inl x6)] [] h = EX d 241 67 [(0, .inr (.inr a0)), (1, .inl x1), (2, .inl x2), (3, .inl x3), (4, .inl x4), (5, .inl x5), (6, .inl (x6 + 1))] [] h := (EX_at bk_Mod_goesRound_147 _ _ _).trans rfl
theorem bk_Mod_goesRound_153 : blk 241 153 = some (((cd_Mod_goesRound.lookup 153).getD ([], 0, []))) := rfl
theorem Mod_goesRound_153 (d : Nat) (h : Hp) : EX d 241 153 [] [] h = some (.inl 0, h) := (EX_at bk_Mod_goesRound_153 _ _ _).trans rfl
/-! rounds(II)I of HookOverModel: method 242 -/
theorem bk_Mod_rounds_0 : blk 242 0 = some (((cd_Mod_rounds.lookup 0).getD ([], 0, []))) := rfl
theorem Mod_rounds_0 (d : Nat) (a0 : Nat) (x1 : Int) (x2 : Int) (h : Hp) : EX d 242 0 [(0, .inr (.inr a0)), (1, .inl x1), (2, .inl x2)] [] h = if sK h a0 = 11 then EX d 242 5 [(0, .inr (.inr a0)), (1, .inl x1), (2, .inl x2)] [] (pI h a0 0 0) else none := (EX_at bk_Mod_rounds_0 _ _ _).trans rfl
theorem bk_Mod_rounds_5 : blk 242 5 = some (((cd_Mod_rounds.lookup 5).getD ([], 0, []))) := rfl
theorem Mod_rounds_5 (d : Nat) (a0 : Nat) (x1 : Int) (x2 : Int) (h : Hp) : EX d 242 5 [(0, .inr (.inr a0)), (1, .inl x1), (2, .inl x2)] [] h = if (wr x2) = 0 then EX d 242 26 [(0, .inr (.inr a0)), (1, .inl x1), (2, .inl x2)] [] h else EX d 242 9 [(0, .inr (.inr a0)), (1, .inl x1), (2, .inl x2)] [] h := (EX_at bk_Mod_rounds_5 _ _ _).trans rfl
theorem bk_Mod_rounds_9 : blk 242 9 = some (((cd_Mod_rounds.lookup 9).getD ([], 0, []))) := rfl
theorem Mod_rounds_9 (d : Nat) (a0 : Nat) (x1 : Int) (x2 : Int) (h : Hp) : EX d 242 9 [(0, .inr (.inr a0)), (1, .inl x1), (2, .inl x2)] [] h = bak (EX d 242) 20 [(0, .inr (.inr a0)), (1, .inl x1), (2, .inl x2)] [] false (cal d 73 [.inr (.inl (wr x2)), .inr (.inl 10), .inr (.inl 17)] h) := (EX_at bk_Mod_rounds_9 _ _ _).trans rfl
theorem bk_Mod_rounds_20 : blk 242 20 = some (((cd_Mod_rounds.lookup 20).getD ([], 0, []))) := rfl
theorem Mod_rounds_20 (d : Nat) (a0 : Nat) (x1 : Int) (x2 : Int) (s0 : Int) (h : Hp) : EX d 242 20 [(0, .inr (.inr a0)), (1, .inl x1), (2, .inl x2)] [.inl s0] h = if (wr s0) = 0 then EX d 242 23 [] [] h else EX d 242 26 [(0, .inr (.inr a0)), (1, .inl x1), (2, .inl x2)] [] h := (EX_at bk_Mod_rounds_20 _ _ _).trans rfl
theorem bk_Mod_rounds_23 : blk 242 23 = some (((cd_Mod_rounds.lookup 23).getD ([], 0, []))) := rfl
theorem Mod_rounds_23 (d : Nat) (h : Hp) : EX d 242 23 [] [] h = some (.inl (-2), h) := (EX_at bk_Mod_rounds_23 _ _ _).trans rfl
theorem bk_Mod_rounds_26 : blk 242 26 = some (((cd_Mod_rounds.lookup 26).getD ([], 0, []))) := rfl
theorem Mod_rounds_26 (d : Nat) (a0 : Nat) (x1 : Int) (x2 : Int) (h : Hp) : EX d 242 26 [(0, .inr (.inr a0)), (1, .inl x1), (2, .inl x2)] [] h = if sK h a0 = 11 then bak (EX d 242) 31 [(0, .inr (.inr a0)), (1, .inl x1), (2, .inl x2)] [] false (cal d 164 [.inr (.inr a0), .inl x1] h) else none := (EX_at bk_Mod_rounds_26 _ _ _).trans rfl
theorem bk_Mod_rounds_31 : blk 242 31 = some (((cd_Mod_rounds.lookup 31).getD ([], 0, []))) := rfl
theorem Mod_rounds_31 (d : Nat) (a0 : Nat) (x1 : Int) (x2 : Int) (s0 : Int) (h : Hp) : EX d 242 31 [(0, .inr (.inr a0)), (1, .inl x1), (2, .inl x2)] [.inl s0] h = if (wr s0) = 0 then EX d 242 38 [(0, .inr (.inr a0)), (1, .inl x1), (2, .inl x2)] [] h else EX d 242 36 [(3, .inl s0)] [] h := (EX_at bk_Mod_rounds_31 _ _ _).trans rfl
theorem bk_Mod_rounds_36 : blk 242 36 = some (((cd_Mod_rounds.lookup 36).getD ([], 0, []))) := rfl
theorem Mod_rounds_36 (d : Nat) (x3 : Int) (h : Hp) : EX d 242 36 [(3, .inl x3)] [] h = some (.inl x3, h) := (EX_at bk_Mod_rounds_36 _ _ _).trans rfl
theorem bk_Mod_rounds_38 : blk 242 38 = some (((cd_Mod_rounds.lookup 38).getD ([], 0, []))) := rfl
theorem Mod_rounds_38 (d : Nat) (a0 : Nat) (x1 : Int) (x2 : Int) (h : Hp) : EX d 242 38 [(0, .inr (.inr a0)), (1, .inl x1), (2, .inl x2)] [] h = if sK h a0 = 11 then if okx h (hR h a0 34) 20 x1 then bak (EX d 242) 52 [(0, .inr (.inr a0)), (1, .inl x1), (2, .inl x2)] [] false (cal d 73 [.inr (.inl (wr (hI h (hR h a0 34) (ix x1)))), .inr (.inl 1), .inr (.inl 8)] h) else none else none := (EX_at bk_Mod_rounds_38 _ _ _).trans rfl
theorem bk_Mod_rounds_52 : blk 242 52 = some (((cd_Mod_rounds.lookup 52).getD ([], 0, []))) := rfl
theorem Mod_rounds_52 (d : Nat) (a0 : Nat) (x1 : Int) (x2 : Int) (s0 : Int) (h : Hp) : EX d 242 52 [(0, .inr (.inr a0)), (1, .inl x1), (2, .inl x2)] [.inl s0] h = if (wr s0) = 0 then EX d 242 55 [] [] h else EX d 242 58 [(0, .inr (.inr a0)), (1, .inl x1), (2, .inl x2)] [] h := (EX_at bk_Mod_rounds_52 _ _ _).trans rfl
theorem bk_Mod_rounds_55 : blk 242 55 = some (((cd_Mod_rounds.lookup 55).getD ([], 0, []))) := rfl
theorem Mod_rounds_55 (d : Nat) (h : Hp) : EX d 242 55 [] [] h = some (.inl (-4), h) := (EX_at bk_Mod_rounds_55 _ _ _).trans rfl
theorem bk_Mod_rounds_58 : blk 242 58 = some (((cd_Mod_rounds.lookup 58).getD ([], 0, []))) := rfl
theorem Mod_rounds_58 (d : Nat) (a0 : Nat) (x1 : Int) (x2 : Int) (h : Hp) : EX d 242 58 [(0, .inr (.inr a0)), (1, .inl x1), (2, .inl x2)] [] h = EX d 242 61 [(0, .inr (.inr a0)), (1, .inl x1), (2, .inl x2), (4, .inl 0)] [] h := (EX_at bk_Mod_rounds_58 _ _ _).trans rfl
theorem bk_Mod_rounds_61 : blk 242 61 = some (((cd_Mod_rounds.lookup 61).getD ([], 0, []))) := rfl
theorem Mod_rounds_61 (d : Nat) (a0 : Nat) (x1 : Int) (x2 : Int) (x4 : Int) (h : Hp) : EX d 242 61 [(0, .inr (.inr a0)), (1, .inl x1), (2, .inl x2), (4, .inl x4)] [] h = if sK h a0 = 11 then if okx h (hR h a0 34) 20 x1 then if (wr x4) < (wr (hI h (hR h a0 34) (ix x1))) then EX d 242 72 [(0, .inr (.inr a0)), (1, .inl x1), (2, .inl x2), (4, .inl x4)] [] h else EX d 242 147 [(0, .inr (.inr a0)), (1, .inl x1), (2, .inl x2)] [] h else none else none := (EX_at bk_Mod_rounds_61 _ _ _).trans rfl
theorem bk_Mod_rounds_72 : blk 242 72 = some (((cd_Mod_rounds.lookup 72).getD ([], 0, []))) := rfl
theorem Mod_rounds_72 (d : Nat) (a0 : Nat) (x1 : Int) (x2 : Int) (x4 : Int) (h : Hp) : EX d 242 72 [(0, .inr (.inr a0)), (1, .inl x1), (2, .inl x2), (4, .inl x4)] [] h = if sK h a0 = 11 then if okx h (hR h a0 35) 21 ((40 * x1) + x4) then if sK h a0 = 11 then bak (EX d 242) 88 [(0, .inr (.inr a0)), (1, .inl x1), (2, .inl x2), (4, .inl x4)] [] false (cal d 119 [.inr (.inr a0), .inr (.inl (hL h (hR h a0 35) (ix ((40 * x1) + x4))))] h) else none else none else none := (EX_at bk_Mod_rounds_72 _ _ _).trans rfl
theorem bk_Mod_rounds_88 : blk 242 88 = some (((cd_Mod_rounds.lookup 88).getD ([], 0, []))) := rfl
theorem Mod_rounds_88 (d : Nat) (a0 : Nat) (x1 : Int) (x2 : Int) (x4 : Int) (s0 : Int) (h : Hp) : EX d 242 88 [(0, .inr (.inr a0)), (1, .inl x1), (2, .inl x2), (4, .inl x4)] [.inl s0] h = if (wr s0) = 0 then EX d 242 91 [] [] h else EX d 242 94 [(0, .inr (.inr a0)), (1, .inl x1), (2, .inl x2), (4, .inl x4)] [] h := (EX_at bk_Mod_rounds_88 _ _ _).trans rfl
theorem bk_Mod_rounds_91 : blk 242 91 = some (((cd_Mod_rounds.lookup 91).getD ([], 0, []))) := rfl
theorem Mod_rounds_91 (d : Nat) (h : Hp) : EX d 242 91 [] [] h = some (.inl (-3), h) := (EX_at bk_Mod_rounds_91 _ _ _).trans rfl
theorem bk_Mod_rounds_94 : blk 242 94 = some (((cd_Mod_rounds.lookup 94).getD ([], 0, []))) := rfl
theorem Mod_rounds_94 (d : Nat) (a0 : Nat) (x1 : Int) (x2 : Int) (x4 : Int) (h : Hp) : EX d 242 94 [(0, .inr (.inr a0)), (1, .inl x1), (2, .inl x2), (4, .inl x4)] [] h = EX d 242 97 [(0, .inr (.inr a0)), (1, .inl x1), (2, .inl x2), (4, .inl x4), (5, .inl 0)] [] h := (EX_at bk_Mod_rounds_94 _ _ _).trans rfl
theorem bk_Mod_rounds_97 : blk 242 97 = some (((cd_Mod_rounds.lookup 97).getD ([], 0, []))) := rfl
theorem Mod_rounds_97 (d : Nat) (a0 : Nat) (x1 : Int) (x2 : Int) (x4 : Int) (x5 : Int) (h : Hp) : EX d 242 97 [(0, .inr (.inr a0)), (1, .inl x1), (2, .inl x2), (4, .inl x4), (5, .inl x5)] [] h = if (wr x5) < (wr x4) then EX d 242 104 [(0, .inr (.inr a0)), (1, .inl x1), (2, .inl x2), (4, .inl x4), (5, .inl x5)] [] h else EX d 242 141 [(0, .inr (.inr a0)), (1, .inl x1), (2, .inl x2), (4, .inl x4)] [] h := (EX_at bk_Mod_rounds_97 _ _ _).trans rfl
theorem bk_Mod_rounds_104 : blk 242 104 = some (((cd_Mod_rounds.lookup 104).getD ([], 0, []))) := rfl
theorem Mod_rounds_104 (d : Nat) (a0 : Nat) (x1 : Int) (x2 : Int) (x4 : Int) (x5 : Int) (h : Hp) : EX d 242 104 [(0, .inr (.inr a0)), (1, .inl x1), (2, .inl x2), (4, .inl x4), (5, .inl x5)] [] h = if sK h a0 = 11 then if okx h (hR h a0 35) 21 ((40 * x1) + x5) then if sK h a0 = 11 then if okx h (hR h a0 35) 21 ((40 * x1) + x4) then if (wr (lCmp (hL h (hR h a0 35) (ix ((40 * x1) + x5))) (hL h (hR h a0 35) (ix ((40 * x1) + x4))))) = 0 then EX d 242 132 [] [] h else EX d 242 135 [(0, .inr (.inr a0)), (1, .inl x1), (2, .inl x2), (4, .inl x4), (5, .inl x5)] [] h else none else none else none else none := (EX_at bk_Mod_rounds_104 _ _ _).trans rfl
theorem bk_Mod_rounds_132 : blk 242 132 = some (((cd_Mod_rounds.lookup 132).getD ([], 0, []))) := rfl
theorem Mod_rounds_132 (d : Nat) (h : Hp) : EX d 242 132 [] [] h = some (.inl (-3), h) := (EX_at bk_Mod_rounds_132 _ _ _).trans rfl
theorem bk_Mod_rounds_135 : blk 242 135 = some (((cd_Mod_rounds.lookup 135).getD ([], 0, []))) := rfl
theorem Mod_rounds_135 (d : Nat) (a0 : Nat) (x1 : Int) (x2 : Int) (x4 : Int) (x5 : Int) (h : Hp) : EX d 242 135 [(0, .inr (.inr a0)), (1, .inl x1), (2, .inl x2), (4, .inl x4), (5, .inl x5)] [] h = EX d 242 97 [(0, .inr (.inr a0)), (1, .inl x1), (2, .inl x2), (4, .inl x4), (5, .inl (x5 + 1))] [] h := (EX_at bk_Mod_rounds_135 _ _ _).trans rfl
theorem bk_Mod_rounds_141 : blk 242 141 = some (((cd_Mod_rounds.lookup 141).getD ([], 0, []))) := rfl
theorem Mod_rounds_141 (d : Nat) (a0 : Nat) (x1 : Int) (x2 : Int) (x4 : Int) (h : Hp) : EX d 242 141 [(0, .inr (.inr a0)), (1, .inl x1), (2, .inl x2), (4, .inl x4)] [] h = EX d 242 61 [(0, .inr (.inr a0)), (1, .inl x1), (2, .inl x2), (4, .inl (x4 + 1))] [] h := (EX_at bk_Mod_rounds_141 _ _ _).trans rfl
theorem bk_Mod_rounds_147 : blk 242 147 = some (((cd_Mod_rounds.lookup 147).getD ([], 0, []))) := rfl
theorem Mod_rounds_147 (d : Nat) (a0 : Nat) (x1 : Int) (x2 : Int) (h : Hp) : EX d 242 147 [(0, .inr (.inr a0)), (1, .inl x1), (2, .inl x2)] [] h = if sK h a0 = 11 then EX d 242 152 [(0, .inr (.inr a0)), (1, .inl x1), (2, .inl x2)] [] (pI h a0 32 (-1)) else none := (EX_at bk_Mod_rounds_147 _ _ _).trans rfl
theorem bk_Mod_rounds_152 : blk 242 152 = some (((cd_Mod_rounds.lookup 152).getD ([], 0, []))) := rfl
theorem Mod_rounds_152 (d : Nat) (a0 : Nat) (x1 : Int) (x2 : Int) (h : Hp) : EX d 242 152 [(0, .inr (.inr a0)), (1, .inl x1), (2, .inl x2)] [] h = if sK h a0 = 11 then if okx h (hR h a0 1) 20 59 then if sK h a0 = 11 then bak (EX d 242) 167 [(0, .inr (.inr a0)), (1, .inl x1), (2, .inl x2)] [] true (cal d 241 [.inr (.inr a0), .inl x1, .inl 0, .inl 0, .inl (hI h (hR h a0 1) 59), .inl 0] h) else none else none else none := (EX_at bk_Mod_rounds_152 _ _ _).trans rfl
theorem bk_Mod_rounds_167 : blk 242 167 = some (((cd_Mod_rounds.lookup 167).getD ([], 0, []))) := rfl
theorem Mod_rounds_167 (d : Nat) (a0 : Nat) (x1 : Int) (x2 : Int) (h : Hp) : EX d 242 167 [(0, .inr (.inr a0)), (1, .inl x1), (2, .inl x2)] [] h = if (wr x2) = 0 then EX d 242 171 [(0, .inr (.inr a0))] [] h else EX d 242 178 [(0, .inr (.inr a0)), (1, .inl x1), (2, .inl x2)] [] h := (EX_at bk_Mod_rounds_167 _ _ _).trans rfl
theorem bk_Mod_rounds_171 : blk 242 171 = some (((cd_Mod_rounds.lookup 171).getD ([], 0, []))) := rfl
theorem Mod_rounds_171 (d : Nat) (a0 : Nat) (h : Hp) : EX d 242 171 [(0, .inr (.inr a0))] [] h = if sK h a0 = 11 then EX d 242 204 [] [.inl (hI h a0 32)] h else none := (EX_at bk_Mod_rounds_171 _ _ _).trans rfl
theorem bk_Mod_rounds_178 : blk 242 178 = some (((cd_Mod_rounds.lookup 178).getD ([], 0, []))) := rfl
theorem Mod_rounds_178 (d : Nat) (a0 : Nat) (x1 : Int) (x2 : Int) (h : Hp) : EX d 242 178 [(0, .inr (.inr a0)), (1, .inl x1), (2, .inl x2)] [] h = if sK h a0 = 11 then if okx h (hR h a0 34) 20 x1 then if (wr (x2 - 10)) < (wr (hI h (hR h a0 34) (ix x1))) then EX d 242 191 [(0, .inr (.inr a0)), (2, .inl x2)] [] h else EX d 242 203 [] [] h else none else none := (EX_at bk_Mod_rounds_178 _ _ _).trans rfl
theorem bk_Mod_rounds_191 : blk 242 191 = some (((cd_Mod_rounds.lookup 191).getD ([], 0, []))) := rfl
theorem Mod_rounds_191 (d : Nat) (a0 : Nat) (x2 : Int) (h : Hp) : EX d 242 191 [(0, .inr (.inr a0)), (2, .inl x2)] [] h = if sK h a0 = 11 then if okx h (hR h a0 31) 20 (x2 - 10) then EX d 242 204 [] [.inl (hI h (hR h a0 31) (ix (x2 - 10)))] h else none else none := (EX_at bk_Mod_rounds_191 _ _ _).trans rfl
theorem bk_Mod_rounds_203 : blk 242 203 = some (((cd_Mod_rounds.lookup 203).getD ([], 0, []))) := rfl
theorem Mod_rounds_203 (d : Nat) (h : Hp) : EX d 242 203 [] [] h = EX d 242 204 [] [.inl (-1)] h := (EX_at bk_Mod_rounds_203 _ _ _).trans rfl
theorem bk_Mod_rounds_204 : blk 242 204 = some (((cd_Mod_rounds.lookup 204).getD ([], 0, []))) := rfl
theorem Mod_rounds_204 (d : Nat) (s0 : Int) (h : Hp) : EX d 242 204 [] [.inl s0] h = some (.inl s0, h) := (EX_at bk_Mod_rounds_204 _ _ _).trans rfl
/-! pleats(I)I of HookOverModel: method 245 -/
theorem bk_Mod_pleats_0 : blk 245 0 = some (((cd_Mod_pleats.lookup 0).getD ([], 0, []))) := rfl
theorem Mod_pleats_0 (d : Nat) (a0 : Nat) (x1 : Int) (h : Hp) : EX d 245 0 [(0, .inr (.inr a0)), (1, .inl x1)] [] h = if sK h a0 = 11 then EX d 245 5 [(0, .inr (.inr a0)), (1, .inl x1)] [] (pI h a0 0 0) else none := (EX_at bk_Mod_pleats_0 _ _ _).trans rfl
theorem bk_Mod_pleats_5 : blk 245 5 = some (((cd_Mod_pleats.lookup 5).getD ([], 0, []))) := rfl
theorem Mod_pleats_5 (d : Nat) (a0 : Nat) (x1 : Int) (h : Hp) : EX d 245 5 [(0, .inr (.inr a0)), (1, .inl x1)] [] h = bak (EX d 245) 12 [(0, .inr (.inr a0)), (1, .inl x1)] [] false (cal d 73 [.inr (.inl (wr x1)), .inr (.inl 0), .inr (.inl 1)] h) := (EX_at bk_Mod_pleats_5 _ _ _).trans rfl
theorem bk_Mod_pleats_12 : blk 245 12 = some (((cd_Mod_pleats.lookup 12).getD ([], 0, []))) := rfl
theorem Mod_pleats_12 (d : Nat) (a0 : Nat) (x1 : Int) (s0 : Int) (h : Hp) : EX d 245 12 [(0, .inr (.inr a0)), (1, .inl x1)] [.inl s0] h = if (wr s0) = 0 then EX d 245 15 [] [] h else EX d 245 18 [(0, .inr (.inr a0)), (1, .inl x1)] [] h := (EX_at bk_Mod_pleats_12 _ _ _).trans rfl
theorem bk_Mod_pleats_15 : blk 245 15 = some (((cd_Mod_pleats.lookup 15).getD ([], 0, []))) := rfl
theorem Mod_pleats_15 (d : Nat) (h : Hp) : EX d 245 15 [] [] h = some (.inl (-2), h) := (EX_at bk_Mod_pleats_15 _ _ _).trans rfl
theorem bk_Mod_pleats_18 : blk 245 18 = some (((cd_Mod_pleats.lookup 18).getD ([], 0, []))) := rfl
theorem Mod_pleats_18 (d : Nat) (a0 : Nat) (x1 : Int) (h : Hp) : EX d 245 18 [(0, .inr (.inr a0)), (1, .inl x1)] [] h = if sK h a0 = 11 then if okx h (hR h a0 1) 20 6 then if (wr (hI h (hR h a0 1) 6)) = 0 then EX d 245 28 [] [] h else EX d 245 31 [(0, .inr (.inr a0)), (1, .inl x1)] [] h else none else none := (EX_at bk_Mod_pleats_18 _ _ _).trans rfl
theorem bk_Mod_pleats_28 : blk 245 28 = some (((cd_Mod_pleats.lookup 28).getD ([], 0, []))) := rfl
theorem Mod_pleats_28 (d : Nat) (h : Hp) : EX d 245 28 [] [] h = some (.inl (-5), h) := (EX_at bk_Mod_pleats_28 _ _ _).trans rfl
theorem bk_Mod_pleats_31 : blk 245 31 = some (((cd_Mod_pleats.lookup 31).getD ([], 0, []))) := rfl
theorem Mod_pleats_31 (d : Nat) (a0 : Nat) (x1 : Int) (h : Hp) : EX d 245 31 [(0, .inr (.inr a0)), (1, .inl x1)] [] h = EX d 245 38 [(0, .inr (.inr a0)), (1, .inl x1), (2, .inl 0), (3, .inl (-1)), (4, .inl 0)] [] h := (EX_at bk_Mod_pleats_31 _ _ _).trans rfl
theorem bk_Mod_pleats_38 : blk 245 38 = some (((cd_Mod_pleats.lookup 38).getD ([], 0, []))) := rfl
theorem Mod_pleats_38 (d : Nat) (a0 : Nat) (x1 : Int) (x2 : Int) (x3 : Int) (x4 : Int) (h : Hp) : EX d 245 38 [(0, .inr (.inr a0)), (1, .inl x1), (2, .inl x2), (3, .inl x3), (4, .inl x4)] [] h = if sK h a0 = 11 then if okx h (hR h a0 1) 20 6 then if (wr x4) < (wr (hI h (hR h a0 1) 6)) then EX d 245 50 [(0, .inr (.inr a0)), (1, .inl x1), (2, .inl x2), (3, .inl x3), (4, .inl x4)] [] h else EX d 245 147 [(1, .inl x1), (2, .inl x2), (3, .inl x3)] [] h else none else none := (EX_at bk_Mod_pleats_38 _ _ _).trans rfl
theorem bk_Mod_pleats_50 : blk 245 50 = some (((cd_Mod_pleats.lookup 50).getD ([], 0, []))) := rfl
theorem Mod_pleats_50 (d : Nat) (a0 : Nat) (x1 : Int) (x2 : Int) (x3 : Int) (x4 : Int) (h : Hp) : EX d 245 50 [(0, .inr (.inr a0)), (1, .inl x1), (2, .inl x2), (3, .inl x3), (4, .inl x4)] [] h = EX d 245 56 [(0, .inr (.inr a0)), (1, .inl x1), (2, .inl x2), (3, .inl x3), (4, .inl x4), (5, .inl 0), (6, .inl 0)] [] h := (EX_at bk_Mod_pleats_50 _ _ _).trans rfl
theorem bk_Mod_pleats_56 : blk 245 56 = some (((cd_Mod_pleats.lookup 56).getD ([], 0, []))) := rfl
theorem Mod_pleats_56 (d : Nat) (a0 : Nat) (x1 : Int) (x2 : Int) (x3 : Int) (x4 : Int) (x5 : Int) (x6 : Int) (h : Hp) : EX d 245 56 [(0, .inr (.inr a0)), (1, .inl x1), (2, .inl x2), (3, .inl x3), (4, .inl x4), (5, .inl x5), (6, .inl x6)] [] h = if sK h a0 = 11 then if okx h (hR h a0 1) 20 1 then if (wr x6) < (wr (hI h (hR h a0 1) 1)) then EX d 245 67 [(0, .inr (.inr a0)), (1, .inl x1), (2, .inl x2), (3, .inl x3), (4, .inl x4), (5, .inl x5), (6, .inl x6)] [] h else EX d 245 126 [(0, .inr (.inr a0)), (1, .inl x1), (2, .inl x2), (3, .inl x3), (4, .inl x4), (5, .inl x5)] [] h else none else none := (EX_at bk_Mod_pleats_56 _ _ _).trans rfl
theorem bk_Mod_pleats_67 : blk 245 67 = some (((cd_Mod_pleats.lookup 67).getD ([], 0, []))) := rfl
theorem Mod_pleats_67 (d : Nat) (a0 : Nat) (x1 : Int) (x2 : Int) (x3 : Int) (x4 : Int) (x5 : Int) (x6 : Int) (h : Hp) : EX d 245 67 [(0, .inr (.inr a0)), (1, .inl x1), (2, .inl x2), (3, .inl x3), (4, .inl x4), (5, .inl x5), (6, .inl x6)] [] h = if sK h a0 = 11 then if okx h (hR h a0 1) 20 (61 + x6) then if (wr (hI h (hR h a0 1) (ix (61 + x6)))) = (-1) then EX d 245 116 [(0, .inr (.inr a0)), (1, .inl x1), (2, .inl x2), (3, .inl x3), (4, .inl x4), (6, .inl x6)] [.inl x5] h else EX d 245 83 [(0, .inr (.inr a0)), (1, .inl x1), (2, .inl x2), (3, .inl x3), (4, .inl x4), (6, .inl x6)] [.inl x5] h else none else none := (EX_at bk_Mod_pleats_67 _ _ _).trans rfl
theorem bk_Mod_pleats_83 : blk 245 83 = some (((cd_Mod_pleats.lookup 83).getD ([], 0, []))) := rfl
theorem Mod_pleats_83 (d : Nat) (a0 : Nat) (x1 : Int) (x2 : Int) (x3 : Int) (x4 : Int) (x6 : Int) (s0 : Int) (h : Hp) : EX d 245 83 [(0, .inr (.inr a0)), (1, .inl x1), (2, .inl x2), (3, .inl x3), (4, .inl x4), (6, .inl x6)] [.inl s0] h = if sK h a0 = 11 then if okx h (hR h a0 1) 20 (61 + x6) then if sK h a0 = 11 then if okx h (hR h a0 1) 20 6 then if (wr (hI h (hR h a0 1) 6)) = 0 then none else if (wr (bRem (((hI h (hR h a0 1) (ix (61 + x6))) - x6) + 60) (hI h (hR h a0 1) 6))) = (wr x4) then EX d 245 112 [(0, .inr (.inr a0)), (1, .inl x1), (2, .inl x2), (3, .inl x3), (4, .inl x4), (6, .inl x6)] [.inl s0] h else EX d 245 116 [(0, .inr (.inr a0)), (1, .inl x1), (2, .inl x2), (3, .inl x3), (4, .inl x4), (6, .inl x6)] [.inl s0] h else none else none else none else none := (EX_at bk_Mod_pleats_83 _ _ _).trans rfl
theorem bk_Mod_pleats_112 : blk 245 112 = some (((cd_Mod_pleats.lookup 112).getD ([], 0, []))) := rfl
theorem Mod_pleats_112 (d : Nat) (a0 : Nat) (x1 : Int) (x2 : Int) (x3 : Int) (x4 : Int) (x6 : Int) (s0 : Int) (h : Hp) : EX d 245 112 [(0, .inr (.inr a0)), (1, .inl x1), (2, .inl x2), (3, .inl x3), (4, .inl x4), (6, .inl x6)] [.inl s0] h = EX d 245 117 [(0, .inr (.inr a0)), (1, .inl x1), (2, .inl x2), (3, .inl x3), (4, .inl x4), (6, .inl x6)] [.inl 1, .inl s0] h := (EX_at bk_Mod_pleats_112 _ _ _).trans rfl
theorem bk_Mod_pleats_116 : blk 245 116 = some (((cd_Mod_pleats.lookup 116).getD ([], 0, []))) := rfl
theorem Mod_pleats_116 (d : Nat) (a0 : Nat) (x1 : Int) (x2 : Int) (x3 : Int) (x4 : Int) (x6 : Int) (s0 : Int) (h : Hp) : EX d 245 116 [(0, .inr (.inr a0)), (1, .inl x1), (2, .inl x2), (3, .inl x3), (4, .inl x4), (6, .inl x6)] [.inl s0] h = EX d 245 117 [(0, .inr (.inr a0)), (1, .inl x1), (2, .inl x2), (3, .inl x3), (4, .inl x4), (6, .inl x6)] [.inl 0, .inl s0] h := (EX_at bk_Mod_pleats_116 _ _ _).trans rfl
theorem bk_Mod_pleats_117 : blk 245 117 = some (((cd_Mod_pleats.lookup 117).getD ([], 0, []))) := rfl
theorem Mod_pleats_117 (d : Nat) (a0 : Nat) (x1 : Int) (x2 : Int) (x3 : Int) (x4 : Int) (x6 : Int) (s0 : Int) (s1 : Int) (h : Hp) : EX d 245 117 [(0, .inr (.inr a0)), (1, .inl x1), (2, .inl x2), (3, .inl x3), (4, .inl x4), (6, .inl x6)] [.inl s1, .inl s0] h = EX d 245 56 [(0, .inr (.inr a0)), (1, .inl x1), (2, .inl x2), (3, .inl x3), (4, .inl x4), (5, .inl (s0 + s1)), (6, .inl (x6 + 1))] [] h := (EX_at bk_Mod_pleats_117 _ _ _).trans rfl
theorem bk_Mod_pleats_126 : blk 245 126 = some (((cd_Mod_pleats.lookup 126).getD ([], 0, []))) := rfl
theorem Mod_pleats_126 (d : Nat) (a0 : Nat) (x1 : Int) (x2 : Int) (x3 : Int) (x4 : Int) (x5 : Int) (h : Hp) : EX d 245 126 [(0, .inr (.inr a0)), (1, .inl x1), (2, .inl x2), (3, .inl x3), (4, .inl x4), (5, .inl x5)] [] h = if (wr x2) < (wr x5) then EX d 245 135 [(0, .inr (.inr a0)), (1, .inl x1), (4, .inl x4), (5, .inl x5)] [] h else EX d 245 132 [(0, .inr (.inr a0)), (1, .inl x1), (2, .inl x2), (3, .inl x3), (4, .inl x4)] [] h := (EX_at bk_Mod_pleats_126 _ _ _).trans rfl
theorem bk_Mod_pleats_132 : blk 245 132 = some (((cd_Mod_pleats.lookup 132).getD ([], 0, []))) := rfl
theorem Mod_pleats_132 (d : Nat) (a0 : Nat) (x1 : Int) (x2 : Int) (x3 : Int) (x4 : Int) (h : Hp) : EX d 245 132 [(0, .inr (.inr a0)), (1, .inl x1), (2, .inl x2), (3, .inl x3), (4, .inl x4)] [] h = EX d 245 141 [(0, .inr (.inr a0)), (1, .inl x1), (2, .inl x2), (3, .inl x3), (4, .inl x4)] [] h := (EX_at bk_Mod_pleats_132 _ _ _).trans rfl
theorem bk_Mod_pleats_135 : blk 245 135 = some (((cd_Mod_pleats.lookup 135).getD ([], 0, []))) := rfl
theorem Mod_pleats_135 (d : Nat) (a0 : Nat) (x1 : Int) (x4 : Int) (x5 : Int) (h : Hp) : EX d 245 135 [(0, .inr (.inr a0)), (1, .inl x1), (4, .inl x4), (5, .inl x5)] [] h = EX d 245 141 [(0, .inr (.inr a0)), (1, .inl x1), (2, .inl x5), (3, .inl x4), (4, .inl x4)] [] h := (EX_at bk_Mod_pleats_135 _ _ _).trans rfl
theorem bk_Mod_pleats_141 : blk 245 141 = some (((cd_Mod_pleats.lookup 141).getD ([], 0, []))) := rfl
theorem Mod_pleats_141 (d : Nat) (a0 : Nat) (x1 : Int) (x2 : Int) (x3 : Int) (x4 : Int) (h : Hp) : EX d 245 141 [(0, .inr (.inr a0)), (1, .inl x1), (2, .inl x2), (3, .inl x3), (4, .inl x4)] [] h = EX d 245 38 [(0, .inr (.inr a0)), (1, .inl x1), (2, .inl x2), (3, .inl x3), (4, .inl (x4 + 1))] [] h := (EX_at bk_Mod_pleats_141 _ _ _).trans rfl
theorem bk_Mod_pleats_147 : blk 245 147 = some (((cd_Mod_pleats.lookup 147).getD ([], 0, []))) := rfl
theorem Mod_pleats_147 (d : Nat) (x1 : Int) (x2 : Int) (x3 : Int) (h : Hp) : EX d 245 147 [(1, .inl x1), (2, .inl x2), (3, .inl x3)] [] h = if (wr x1) = 0 then EX d 245 151 [(2, .inl x2)] [] h else EX d 245 155 [(3, .inl x3)] [] h := (EX_at bk_Mod_pleats_147 _ _ _).trans rfl
theorem bk_Mod_pleats_151 : blk 245 151 = some (((cd_Mod_pleats.lookup 151).getD ([], 0, []))) := rfl
theorem Mod_pleats_151 (d : Nat) (x2 : Int) (h : Hp) : EX d 245 151 [(2, .inl x2)] [] h = EX d 245 156 [] [.inl x2] h := (EX_at bk_Mod_pleats_151 _ _ _).trans rfl
theorem bk_Mod_pleats_155 : blk 245 155 = some (((cd_Mod_pleats.lookup 155).getD ([], 0, []))) := rfl
theorem Mod_pleats_155 (d : Nat) (x3 : Int) (h : Hp) : EX d 245 155 [(3, .inl x3)] [] h = EX d 245 156 [] [.inl x3] h := (EX_at bk_Mod_pleats_155 _ _ _).trans rfl
theorem bk_Mod_pleats_156 : blk 245 156 = some (((cd_Mod_pleats.lookup 156).getD ([], 0, []))) := rfl
theorem Mod_pleats_156 (d : Nat) (s0 : Int) (h : Hp) : EX d 245 156 [] [.inl s0] h = some (.inl s0, h) := (EX_at bk_Mod_pleats_156 _ _ _).trans rfl
/-! power(JI)J of HookOverModel: method 252 -/
theorem bk_Mod_power_0 : blk 252 0 = some (((cd_Mod_power.lookup 0).getD ([], 0, []))) := rfl
theorem Mod_power_0 (d : Nat) (y0 : Int) (x2 : Int) (h : Hp) : EX d 252 0 [(0, .inr (.inl y0)), (2, .inl x2)] [] h = EX d 252 5 [(0, .inr (.inl y0)), (2, .inl x2), (3, .inr (.inl 1)), (5, .inl 0)] [] h := (EX_at bk_Mod_power_0 _ _ _).trans rfl
theorem bk_Mod_power_5 : blk 252 5 = some (((cd_Mod_power.lookup 5).getD ([], 0, []))) := rfl
theorem Mod_power_5 (d : Nat) (y0 : Int) (x2 : Int) (y3 : Int) (x5 : Int) (h : Hp) : EX d 252 5 [(0, .inr (.inl y0)), (2, .inl x2), (3, .inr (.inl y3)), (5, .inl x5)] [] h = if (wr x5) < (wr x2) then EX d 252 11 [(0, .inr (.inl y0)), (2, .inl x2), (3, .inr (.inl y3)), (5, .inl x5)] [] h else EX d 252 21 [(3, .inr (.inl y3))] [] h := (EX_at bk_Mod_power_5 _ _ _).trans rfl
theorem bk_Mod_power_11 : blk 252 11 = some (((cd_Mod_power.lookup 11).getD ([], 0, []))) := rfl
theorem Mod_power_11 (d : Nat) (y0 : Int) (x2 : Int) (y3 : Int) (x5 : Int) (h : Hp) : EX d 252 11 [(0, .inr (.inl y0)), (2, .inl x2), (3, .inr (.inl y3)), (5, .inl x5)] [] h = EX d 252 5 [(0, .inr (.inl y0)), (2, .inl x2), (3, .inr (.inl (y3 * y0))), (5, .inl (x5 + 1))] [] h := (EX_at bk_Mod_power_11 _ _ _).trans rfl
theorem bk_Mod_power_21 : blk 252 21 = some (((cd_Mod_power.lookup 21).getD ([], 0, []))) := rfl
theorem Mod_power_21 (d : Nat) (y3 : Int) (h : Hp) : EX d 252 21 [(3, .inr (.inl y3))] [] h = some (.inr (.inl y3), h) := (EX_at bk_Mod_power_21 _ _ _).trans rfl
/-! hungAtOnce(II)J of HookOverModel: method 253 -/
theorem bk_Mod_hungAtOnce_0 : blk 253 0 = some (((cd_Mod_hungAtOnce.lookup 0).getD ([], 0, []))) := rfl
theorem Mod_hungAtOnce_0 (d : Nat) (a0 : Nat) (x1 : Int) (x2 : Int) (h : Hp) : EX d 253 0 [(0, .inr (.inr a0)), (1, .inl x1), (2, .inl x2)] [] h = if (wr x1) = 0 then EX d 253 4 [] [] h else EX d 253 8 [(0, .inr (.inr a0)), (1, .inl x1), (2, .inl x2)] [] h := (EX_at bk_Mod_hungAtOnce_0 _ _ _).trans rfl
theorem bk_Mod_hungAtOnce_4 : blk 253 4 = some (((cd_Mod_hungAtOnce.lookup 4).getD ([], 0, []))) := rfl
theorem Mod_hungAtOnce_4 (d : Nat) (h : Hp) : EX d 253 4 [] [] h = EX d 253 52 [] [.inr (.inl 0)] h := (EX_at bk_Mod_hungAtOnce_4 _ _ _).trans rfl
theorem bk_Mod_hungAtOnce_8 : blk 253 8 = some (((cd_Mod_hungAtOnce.lookup 8).getD ([], 0, []))) := rfl
theorem Mod_hungAtOnce_8 (d : Nat) (a0 : Nat) (x1 : Int) (x2 : Int) (h : Hp) : EX d 253 8 [(0, .inr (.inr a0)), (1, .inl x1), (2, .inl x2)] [] h = if sK h a0 = 11 then if okx h (hR h a0 1) 20 5 then if sK h a0 = 11 then if okx h (hR h a0 1) 20 8 then bak (EX d 253) 32 [(0, .inr (.inr a0)), (1, .inl x1), (2, .inl x2)] [.inr (.inl (wr ((x1 * (hI h (hR h a0 1) 5)) + (hI h (hR h a0 1) 8))))] false (cal d 252 [.inr (.inl 10), .inl x1] h) else none else none else none else none := (EX_at bk_Mod_hungAtOnce_8 _ _ _).trans rfl
theorem bk_Mod_hungAtOnce_32 : blk 253 32 = some (((cd_Mod_hungAtOnce.lookup 32).getD ([], 0, []))) := rfl
theorem Mod_hungAtOnce_32 (d : Nat) (a0 : Nat) (x1 : Int) (x2 : Int) (t0 : Int) (t1 : Int) (h : Hp) : EX d 253 32 [(0, .inr (.inr a0)), (1, .inl x1), (2, .inl x2)] [.inr (.inl t1), .inr (.inl t0)] h = if sK h a0 = 11 then if okx h (hR h a0 1) 20 7 then bak (EX d 253) 51 [] [.inr (.inl (t0 * t1))] false (cal d 252 [.inr (.inl (10 - (wr (hI h (hR h a0 1) 7)))), .inl (x2 - x1)] h) else none else none := (EX_at bk_Mod_hungAtOnce_32 _ _ _).trans rfl
theorem bk_Mod_hungAtOnce_51 : blk 253 51 = some (((cd_Mod_hungAtOnce.lookup 51).getD ([], 0, []))) := rfl
theorem Mod_hungAtOnce_51 (d : Nat) (t0 : Int) (t1 : Int) (h : Hp) : EX d 253 51 [] [.inr (.inl t1), .inr (.inl t0)] h = EX d 253 52 [] [.inr (.inl (t0 * t1))] h := (EX_at bk_Mod_hungAtOnce_51 _ _ _).trans rfl
theorem bk_Mod_hungAtOnce_52 : blk 253 52 = some (((cd_Mod_hungAtOnce.lookup 52).getD ([], 0, []))) := rfl
theorem Mod_hungAtOnce_52 (d : Nat) (t0 : Int) (h : Hp) : EX d 253 52 [] [.inr (.inl t0)] h = some (.inr (.inl t0), h) := (EX_at bk_Mod_hungAtOnce_52 _ _ _).trans rfl
/-! averageBy(II)J of HookOverModel: method 254 -/
theorem bk_Mod_averageBy_0 : blk 254 0 = some (((cd_Mod_averageBy.lookup 0).getD ([], 0, []))) := rfl
theorem Mod_averageBy_0 (d : Nat) (a0 : Nat) (x1 : Int) (x2 : Int) (h : Hp) : EX d 254 0 [(0, .inr (.inr a0)), (1, .inl x1), (2, .inl x2)] [] h = if sK h a0 = 11 then if okx h (hR h a0 1) 20 1 then if (wr x1) = 0 then none else if sK h a0 = 11 then bak (EX d 254) 15 [(0, .inr (.inr a0)), (1, .inl x1), (2, .inl x2)] [.inr (.inl (wr (bDiv (hI h (hR h a0 1) 1) x1)))] false (cal d 253 [.inr (.inr a0), .inl x1, .inl x2] h) else none else none else none := (EX_at bk_Mod_averageBy_0 _ _ _).trans rfl
theorem bk_Mod_averageBy_15 : blk 254 15 = some (((cd_Mod_averageBy.lookup 15).getD ([], 0, []))) := rfl
theorem Mod_averageBy_15 (d : Nat) (a0 : Nat) (x1 : Int) (x2 : Int) (t0 : Int) (t1 : Int) (h : Hp) : EX d 254 15 [(0, .inr (.inr a0)), (1, .inl x1), (2, .inl x2)] [.inr (.inl t1), .inr (.inl t0)] h = if sK h a0 = 11 then if okx h (hR h a0 1) 20 1 then if (wr x1) = 0 then none else if sK h a0 = 11 then bak (EX d 254) 29 [] [.inr (.inl (t0 * t1))] false (cal d 253 [.inr (.inr a0), .inl (bRem (hI h (hR h a0 1) 1) x1), .inl x2] h) else none else none else none := (EX_at bk_Mod_averageBy_15 _ _ _).trans rfl
theorem bk_Mod_averageBy_29 : blk 254 29 = some (((cd_Mod_averageBy.lookup 29).getD ([], 0, []))) := rfl
theorem Mod_averageBy_29 (d : Nat) (t0 : Int) (t1 : Int) (h : Hp) : EX d 254 29 [] [.inr (.inl t1), .inr (.inl t0)] h = some (.inr (.inl (t0 + t1)), h) := (EX_at bk_Mod_averageBy_29 _ _ _).trans rfl
/-! common(JJ)J of HookOverModel: method 255 -/
theorem bk_Mod_common_0 : blk 255 0 = some (((cd_Mod_common.lookup 0).getD ([], 0, []))) := rfl
theorem Mod_common_0 (d : Nat) (y0 : Int) (y2 : Int) (h : Hp) : EX d 255 0 [(0, .inr (.inl y0)), (2, .inr (.inl y2))] [] h = if (wr (lCmp y2 0)) = 0 then EX d 255 6 [(0, .inr (.inl y0))] [] h else EX d 255 10 [(0, .inr (.inl y0)), (2, .inr (.inl y2))] [] h := (EX_at bk_Mod_common_0 _ _ _).trans rfl
theorem bk_Mod_common_6 : blk 255 6 = some (((cd_Mod_common.lookup 6).getD ([], 0, []))) := rfl
theorem Mod_common_6 (d : Nat) (y0 : Int) (h : Hp) : EX d 255 6 [(0, .inr (.inl y0))] [] h = EX d 255 17 [] [.inr (.inl y0)] h := (EX_at bk_Mod_common_6 _ _ _).trans rfl
theorem bk_Mod_common_10 : blk 255 10 = some (((cd_Mod_common.lookup 10).getD ([], 0, []))) := rfl
theorem Mod_common_10 (d : Nat) (y0 : Int) (y2 : Int) (h : Hp) : EX d 255 10 [(0, .inr (.inl y0)), (2, .inr (.inl y2))] [] h = if (wl y2) = 0 then none else bak (EX d 255) 17 [] [] false (cal d 255 [.inr (.inl y2), .inr (.inl (lRem y0 y2))] h) := (EX_at bk_Mod_common_10 _ _ _).trans rfl
theorem bk_Mod_common_17 : blk 255 17 = some (((cd_Mod_common.lookup 17).getD ([], 0, []))) := rfl
theorem Mod_common_17 (d : Nat) (t0 : Int) (h : Hp) : EX d 255 17 [] [.inr (.inl t0)] h = some (.inr (.inl t0), h) := (EX_at bk_Mod_common_17 _ _ _).trans rfl
/-! average(II)J of HookOverModel: method 256 -/
theorem bk_Mod_average_0 : blk 256 0 = some (((cd_Mod_average.lookup 0).getD ([], 0, []))) := rfl
theorem Mod_average_0 (d : Nat) (a0 : Nat) (x1 : Int) (x2 : Int) (h : Hp) : EX d 256 0 [(0, .inr (.inr a0)), (1, .inl x1), (2, .inl x2)] [] h = if sK h a0 = 11 then EX d 256 5 [(0, .inr (.inr a0)), (1, .inl x1), (2, .inl x2)] [] (pI h a0 0 0) else none := (EX_at bk_Mod_average_0 _ _ _).trans rfl
theorem bk_Mod_average_5 : blk 256 5 = some (((cd_Mod_average.lookup 5).getD ([], 0, []))) := rfl
theorem Mod_average_5 (d : Nat) (a0 : Nat) (x1 : Int) (x2 : Int) (h : Hp) : EX d 256 5 [(0, .inr (.inr a0)), (1, .inl x1), (2, .inl x2)] [] h = bak (EX d 256) 12 [(0, .inr (.inr a0)), (1, .inl x1), (2, .inl x2)] [] false (cal d 73 [.inr (.inl (wr x2)), .inr (.inl 0), .inr (.inl 1)] h) := (EX_at bk_Mod_average_5 _ _ _).trans rfl
theorem bk_Mod_average_12 : blk 256 12 = some (((cd_Mod_average.lookup 12).getD ([], 0, []))) := rfl
theorem Mod_average_12 (d : Nat) (a0 : Nat) (x1 : Int) (x2 : Int) (s0 : Int) (h : Hp) : EX d 256 12 [(0, .inr (.inr a0)), (1, .inl x1), (2, .inl x2)] [.inl s0] h = if (wr s0) = 0 then EX d 256 15 [] [] h else EX d 256 19 [(0, .inr (.inr a0)), (1, .inl x1), (2, .inl x2)] [] h := (EX_at bk_Mod_average_12 _ _ _).trans rfl
theorem bk_Mod_average_15 : blk 256 15 = some (((cd_Mod_average.lookup 15).getD ([], 0, []))) := rfl
theorem Mod_average_15 (d : Nat) (h : Hp) : EX d 256 15 [] [] h = some (.inr (.inl (-2)), h) := (EX_at bk_Mod_average_15 _ _ _).trans rfl
theorem bk_Mod_average_19 : blk 256 19 = some (((cd_Mod_average.lookup 19).getD ([], 0, []))) := rfl
theorem Mod_average_19 (d : Nat) (a0 : Nat) (x1 : Int) (x2 : Int) (h : Hp) : EX d 256 19 [(0, .inr (.inr a0)), (1, .inl x1), (2, .inl x2)] [] h = bak (EX d 256) 28 [(0, .inr (.inr a0)), (1, .inl x1), (2, .inl x2)] [] false (cal d 73 [.inr (.inl (wr x1)), .inr (.inl 1), .inr (.inl 12)] h) := (EX_at bk_Mod_average_19 _ _ _).trans rfl
theorem bk_Mod_average_28 : blk 256 28 = some (((cd_Mod_average.lookup 28).getD ([], 0, []))) := rfl
theorem Mod_average_28 (d : Nat) (a0 : Nat) (x1 : Int) (x2 : Int) (s0 : Int) (h : Hp) : EX d 256 28 [(0, .inr (.inr a0)), (1, .inl x1), (2, .inl x2)] [.inl s0] h = if (wr s0) = 0 then EX d 256 31 [] [] h else EX d 256 35 [(0, .inr (.inr a0)), (1, .inl x1), (2, .inl x2)] [] h := (EX_at bk_Mod_average_28 _ _ _).trans rfl
theorem bk_Mod_average_31 : blk 256 31 = some (((cd_Mod_average.lookup 31).getD ([], 0, []))) := rfl
theorem Mod_average_31 (d : Nat) (h : Hp) : EX d 256 31 [] [] h = some (.inr (.inl (-3)), h) := (EX_at bk_Mod_average_31 _ _ _).trans rfl
theorem bk_Mod_average_35 : blk 256 35 = some (((cd_Mod_average.lookup 35).getD ([], 0, []))) := rfl
theorem Mod_average_35 (d : Nat) (a0 : Nat) (x1 : Int) (x2 : Int) (h : Hp) : EX d 256 35 [(0, .inr (.inr a0)), (1, .inl x1), (2, .inl x2)] [] h = if sK h a0 = 11 then if okx h (hR h a0 1) 20 1 then if (wr (hI h (hR h a0 1) 1)) = 0 then EX d 256 44 [] [] h else EX d 256 48 [(0, .inr (.inr a0)), (1, .inl x1), (2, .inl x2)] [] h else none else none := (EX_at bk_Mod_average_35 _ _ _).trans rfl
theorem bk_Mod_average_44 : blk 256 44 = some (((cd_Mod_average.lookup 44).getD ([], 0, []))) := rfl
theorem Mod_average_44 (d : Nat) (h : Hp) : EX d 256 44 [] [] h = some (.inr (.inl (-5)), h) := (EX_at bk_Mod_average_44 _ _ _).trans rfl
theorem bk_Mod_average_48 : blk 256 48 = some (((cd_Mod_average.lookup 48).getD ([], 0, []))) := rfl
theorem Mod_average_48 (d : Nat) (a0 : Nat) (x1 : Int) (x2 : Int) (h : Hp) : EX d 256 48 [(0, .inr (.inr a0)), (1, .inl x1), (2, .inl x2)] [] h = if sK h a0 = 11 then if okx h (hR h a0 1) 20 1 then if (wr x1) < (wr (hI h (hR h a0 1) 1)) then EX d 256 58 [(0, .inr (.inr a0)), (1, .inl x1), (2, .inl x2)] [] h else EX d 256 62 [(0, .inr (.inr a0)), (2, .inl x2)] [] h else none else none := (EX_at bk_Mod_average_48 _ _ _).trans rfl
theorem bk_Mod_average_58 : blk 256 58 = some (((cd_Mod_average.lookup 58).getD ([], 0, []))) := rfl
theorem Mod_average_58 (d : Nat) (a0 : Nat) (x1 : Int) (x2 : Int) (h : Hp) : EX d 256 58 [(0, .inr (.inr a0)), (1, .inl x1), (2, .inl x2)] [] h = EX d 256 68 [(0, .inr (.inr a0)), (2, .inl x2)] [.inl x1] h := (EX_at bk_Mod_average_58 _ _ _).trans rfl
theorem bk_Mod_average_62 : blk 256 62 = some (((cd_Mod_average.lookup 62).getD ([], 0, []))) := rfl
theorem Mod_average_62 (d : Nat) (a0 : Nat) (x2 : Int) (h : Hp) : EX d 256 62 [(0, .inr (.inr a0)), (2, .inl x2)] [] h = if sK h a0 = 11 then if okx h (hR h a0 1) 20 1 then EX d 256 68 [(0, .inr (.inr a0)), (2, .inl x2)] [.inl (hI h (hR h a0 1) 1)] h else none else none := (EX_at bk_Mod_average_62 _ _ _).trans rfl
theorem bk_Mod_average_68 : blk 256 68 = some (((cd_Mod_average.lookup 68).getD ([], 0, []))) := rfl
theorem Mod_average_68 (d : Nat) (a0 : Nat) (x2 : Int) (s0 : Int) (h : Hp) : EX d 256 68 [(0, .inr (.inr a0)), (2, .inl x2)] [.inl s0] h = if sK h a0 = 11 then bak (EX d 256) 75 [(0, .inr (.inr a0)), (2, .inl x2), (3, .inl s0)] [] false (cal d 254 [.inr (.inr a0), .inl s0, .inl s0] h) else none := (EX_at bk_Mod_average_68 _ _ _).trans rfl
theorem bk_Mod_average_75 : blk 256 75 = some (((cd_Mod_average.lookup 75).getD ([], 0, []))) := rfl
theorem Mod_average_75 (d : Nat) (a0 : Nat) (x2 : Int) (x3 : Int) (t0 : Int) (h : Hp) : EX d 256 75 [(0, .inr (.inr a0)), (2, .inl x2), (3, .inl x3)] [.inr (.inl t0)] h = if sK h a0 = 11 then if okx h (hR h a0 1) 20 7 then bak (EX d 256) 93 [(2, .inl x2), (4, .inr (.inl t0))] [] false (cal d 252 [.inr (.inl (10 - (wr (hI h (hR h a0 1) 7)))), .inl x3] h) else none else none := (EX_at bk_Mod_average_75 _ _ _).trans rfl
theorem bk_Mod_average_93 : blk 256 93 = some (((cd_Mod_average.lookup 93).getD ([], 0, []))) := rfl
theorem Mod_average_93 (d : Nat) (x2 : Int) (y4 : Int) (t0 : Int) (h : Hp) : EX d 256 93 [(2, .inl x2), (4, .inr (.inl y4))] [.inr (.inl t0)] h = bak (EX d 256) 102 [(2, .inl x2), (4, .inr (.inl y4)), (6, .inr (.inl t0))] [] false (cal d 255 [.inr (.inl y4), .inr (.inl t0)] h) := (EX_at bk_Mod_average_93 _ _ _).trans rfl
theorem bk_Mod_average_102 : blk 256 102 = some (((cd_Mod_average.lookup 102).getD ([], 0, []))) := rfl
theorem Mod_average_102 (d : Nat) (x2 : Int) (y4 : Int) (y6 : Int) (t0 : Int) (h : Hp) : EX d 256 102 [(2, .inl x2), (4, .inr (.inl y4)), (6, .inr (.inl y6))] [.inr (.inl t0)] h = if (wr x2) = 0 then EX d 256 108 [(4, .inr (.inl y4)), (8, .inr (.inl t0))] [] h else EX d 256 116 [(6, .inr (.inl y6)), (8, .inr (.inl t0))] [] h := (EX_at bk_Mod_average_102 _ _ _).trans rfl
theorem bk_Mod_average_108 : blk 256 108 = some (((cd_Mod_average.lookup 108).getD ([], 0, []))) := rfl
theorem Mod_average_108 (d : Nat) (y4 : Int) (y8 : Int) (h : Hp) : EX d 256 108 [(4, .inr (.inl y4)), (8, .inr (.inl y8))] [] h = if (wl y8) = 0 then none else EX d 256 121 [] [.inr (.inl (lDiv y4 y8))] h := (EX_at bk_Mod_average_108 _ _ _).trans rfl
theorem bk_Mod_average_116 : blk 256 116 = some (((cd_Mod_average.lookup 116).getD ([], 0, []))) := rfl
theorem Mod_average_116 (d : Nat) (y6 : Int) (y8 : Int) (h : Hp) : EX d 256 116 [(6, .inr (.inl y6)), (8, .inr (.inl y8))] [] h = if (wl y8) = 0 then none else EX d 256 121 [] [.inr (.inl (lDiv y6 y8))] h := (EX_at bk_Mod_average_116 _ _ _).trans rfl
theorem bk_Mod_average_121 : blk 256 121 = some (((cd_Mod_average.lookup 121).getD ([], 0, []))) := rfl
theorem Mod_average_121 (d : Nat) (t0 : Int) (h : Hp) : EX d 256 121 [] [.inr (.inl t0)] h = some (.inr (.inl t0), h) := (EX_at bk_Mod_average_121 _ _ _).trans rfl
/-! bestLook()I of HookOverModel: method 258 -/
theorem bk_Mod_bestLook_0 : blk 258 0 = some (((cd_Mod_bestLook.lookup 0).getD ([], 0, []))) := rfl
theorem Mod_bestLook_0 (d : Nat) (a0 : Nat) (h : Hp) : EX d 258 0 [(0, .inr (.inr a0))] [] h = if sK h a0 = 11 then EX d 258 5 [(0, .inr (.inr a0))] [] (pI h a0 0 0) else none := (EX_at bk_Mod_bestLook_0 _ _ _).trans rfl
theorem bk_Mod_bestLook_5 : blk 258 5 = some (((cd_Mod_bestLook.lookup 5).getD ([], 0, []))) := rfl
theorem Mod_bestLook_5 (d : Nat) (a0 : Nat) (h : Hp) : EX d 258 5 [(0, .inr (.inr a0))] [] h = if sK h a0 = 11 then if okx h (hR h a0 1) 20 1 then if (wr (hI h (hR h a0 1) 1)) = 0 then EX d 258 14 [] [] h else EX d 258 17 [(0, .inr (.inr a0))] [] h else none else none := (EX_at bk_Mod_bestLook_5 _ _ _).trans rfl
theorem bk_Mod_bestLook_14 : blk 258 14 = some (((cd_Mod_bestLook.lookup 14).getD ([], 0, []))) := rfl
theorem Mod_bestLook_14 (d : Nat) (h : Hp) : EX d 258 14 [] [] h = some (.inl (-5), h) := (EX_at bk_Mod_bestLook_14 _ _ _).trans rfl
theorem bk_Mod_bestLook_17 : blk 258 17 = some (((cd_Mod_bestLook.lookup 17).getD ([], 0, []))) := rfl
theorem Mod_bestLook_17 (d : Nat) (a0 : Nat) (h : Hp) : EX d 258 17 [(0, .inr (.inr a0))] [] h = EX d 258 21 [(0, .inr (.inr a0)), (1, .inl 1), (2, .inl 2)] [] h := (EX_at bk_Mod_bestLook_17 _ _ _).trans rfl
theorem bk_Mod_bestLook_21 : blk 258 21 = some (((cd_Mod_bestLook.lookup 21).getD ([], 0, []))) := rfl
theorem Mod_bestLook_21 (d : Nat) (a0 : Nat) (x1 : Int) (x2 : Int) (h : Hp) : EX d 258 21 [(0, .inr (.inr a0)), (1, .inl x1), (2, .inl x2)] [] h = if sK h a0 = 11 then if okx h (hR h a0 1) 20 1 then if (wr (hI h (hR h a0 1) 1)) < (wr x2) then EX d 258 65 [(1, .inl x1)] [] h else EX d 258 31 [(0, .inr (.inr a0)), (1, .inl x1), (2, .inl x2)] [] h else none else none := (EX_at bk_Mod_bestLook_21 _ _ _).trans rfl
theorem bk_Mod_bestLook_31 : blk 258 31 = some (((cd_Mod_bestLook.lookup 31).getD ([], 0, []))) := rfl
theorem Mod_bestLook_31 (d : Nat) (a0 : Nat) (x1 : Int) (x2 : Int) (h : Hp) : EX d 258 31 [(0, .inr (.inr a0)), (1, .inl x1), (2, .inl x2)] [] h = if sK h a0 = 11 then if okx h (hR h a0 1) 20 1 then if sK h a0 = 11 then bak (EX d 258) 42 [(0, .inr (.inr a0)), (1, .inl x1), (2, .inl x2)] [] false (cal d 254 [.inr (.inr a0), .inl x2, .inl (hI h (hR h a0 1) 1)] h) else none else none else none := (EX_at bk_Mod_bestLook_31 _ _ _).trans rfl
theorem bk_Mod_bestLook_42 : blk 258 42 = some (((cd_Mod_bestLook.lookup 42).getD ([], 0, []))) := rfl
theorem Mod_bestLook_42 (d : Nat) (a0 : Nat) (x1 : Int) (x2 : Int) (t0 : Int) (h : Hp) : EX d 258 42 [(0, .inr (.inr a0)), (1, .inl x1), (2, .inl x2)] [.inr (.inl t0)] h = if sK h a0 = 11 then if okx h (hR h a0 1) 20 1 then if sK h a0 = 11 then bak (EX d 258) 53 [(0, .inr (.inr a0)), (1, .inl x1), (2, .inl x2)] [.inr (.inl t0)] false (cal d 254 [.inr (.inr a0), .inl x1, .inl (hI h (hR h a0 1) 1)] h) else none else none else none := (EX_at bk_Mod_bestLook_42 _ _ _).trans rfl
theorem bk_Mod_bestLook_53 : blk 258 53 = some (((cd_Mod_bestLook.lookup 53).getD ([], 0, []))) := rfl
theorem Mod_bestLook_53 (d : Nat) (a0 : Nat) (x1 : Int) (x2 : Int) (t0 : Int) (t1 : Int) (h : Hp) : EX d 258 53 [(0, .inr (.inr a0)), (1, .inl x1), (2, .inl x2)] [.inr (.inl t1), .inr (.inl t0)] h = if (wr (lCmp t0 t1)) < 0 then EX d 258 57 [(0, .inr (.inr a0)), (2, .inl x2)] [] h else EX d 258 59 [(0, .inr (.inr a0)), (1, .inl x1), (2, .inl x2)] [] h := (EX_at bk_Mod_bestLook_53 _ _ _).trans rfl
theorem bk_Mod_bestLook_57 : blk 258 57 = some (((cd_Mod_bestLook.lookup 57).getD ([], 0, []))) := rfl
theorem Mod_bestLook_57 (d : Nat) (a0 : Nat) (x2 : Int) (h : Hp) : EX d 258 57 [(0, .inr (.inr a0)), (2, .inl x2)] [] h = EX d 258 59 [(0, .inr (.inr a0)), (1, .inl x2), (2, .inl x2)] [] h := (EX_at bk_Mod_bestLook_57 _ _ _).trans rfl
theorem bk_Mod_bestLook_59 : blk 258 59 = some (((cd_Mod_bestLook.lookup 59).getD ([], 0, []))) := rfl
theorem Mod_bestLook_59 (d : Nat) (a0 : Nat) (x1 : Int) (x2 : Int) (h : Hp) : EX d 258 59 [(0, .inr (.inr a0)), (1, .inl x1), (2, .inl x2)] [] h = EX d 258 21 [(0, .inr (.inr a0)), (1, .inl x1), (2, .inl (x2 + 1))] [] h := (EX_at bk_Mod_bestLook_59 _ _ _).trans rfl
theorem bk_Mod_bestLook_65 : blk 258 65 = some (((cd_Mod_bestLook.lookup 65).getD ([], 0, []))) := rfl
theorem Mod_bestLook_65 (d : Nat) (x1 : Int) (h : Hp) : EX d 258 65 [(1, .inl x1)] [] h = some (.inl x1, h) := (EX_at bk_Mod_bestLook_65 _ _ _).trans rfl
/-! rightOut(II)I of HookOverModel: method 261 -/
theorem bk_Mod_rightOut_0 : blk 261 0 = some (((cd_Mod_rightOut.lookup 0).getD ([], 0, []))) := rfl
theorem Mod_rightOut_0 (d : Nat) (a0 : Nat) (x1 : Int) (x2 : Int) (h : Hp) : EX d 261 0 [(0, .inr (.inr a0)), (1, .inl x1), (2, .inl x2)] [] h = EX d 261 5 [(0, .inr (.inr a0)), (1, .inl x1), (2, .inl x2), (3, .inl 0), (4, .inl 0)] [] h := (EX_at bk_Mod_rightOut_0 _ _ _).trans rfl
theorem bk_Mod_rightOut_5 : blk 261 5 = some (((cd_Mod_rightOut.lookup 5).getD ([], 0, []))) := rfl
theorem Mod_rightOut_5 (d : Nat) (a0 : Nat) (x1 : Int) (x2 : Int) (x3 : Int) (x4 : Int) (h : Hp) : EX d 261 5 [(0, .inr (.inr a0)), (1, .inl x1), (2, .inl x2), (3, .inl x3), (4, .inl x4)] [] h = if sK h a0 = 11 then if okx h (hR h a0 1) 20 1 then if (wr x4) < (wr (hI h (hR h a0 1) 1)) then EX d 261 16 [(0, .inr (.inr a0)), (1, .inl x1), (2, .inl x2), (3, .inl x3), (4, .inl x4)] [] h else EX d 261 68 [(3, .inl x3)] [] h else none else none := (EX_at bk_Mod_rightOut_5 _ _ _).trans rfl
theorem bk_Mod_rightOut_16 : blk 261 16 = some (((cd_Mod_rightOut.lookup 16).getD ([], 0, []))) := rfl
theorem Mod_rightOut_16 (d : Nat) (a0 : Nat) (x1 : Int) (x2 : Int) (x3 : Int) (x4 : Int) (h : Hp) : EX d 261 16 [(0, .inr (.inr a0)), (1, .inl x1), (2, .inl x2), (3, .inl x3), (4, .inl x4)] [] h = if (wr x4) < (wr x1) then EX d 261 22 [(0, .inr (.inr a0)), (1, .inl x1), (2, .inl x2), (3, .inl x3), (4, .inl x4)] [] h else EX d 261 27 [(0, .inr (.inr a0)), (1, .inl x1), (2, .inl x2), (3, .inl x3), (4, .inl x4)] [] h := (EX_at bk_Mod_rightOut_16 _ _ _).trans rfl
theorem bk_Mod_rightOut_22 : blk 261 22 = some (((cd_Mod_rightOut.lookup 22).getD ([], 0, []))) := rfl
theorem Mod_rightOut_22 (d : Nat) (a0 : Nat) (x1 : Int) (x2 : Int) (x3 : Int) (x4 : Int) (h : Hp) : EX d 261 22 [(0, .inr (.inr a0)), (1, .inl x1), (2, .inl x2), (3, .inl x3), (4, .inl x4)] [] h = EX d 261 31 [(0, .inr (.inr a0)), (1, .inl x1), (2, .inl x2), (3, .inl x3), (4, .inl x4)] [.inl x4] h := (EX_at bk_Mod_rightOut_22 _ _ _).trans rfl
theorem bk_Mod_rightOut_27 : blk 261 27 = some (((cd_Mod_rightOut.lookup 27).getD ([], 0, []))) := rfl
theorem Mod_rightOut_27 (d : Nat) (a0 : Nat) (x1 : Int) (x2 : Int) (x3 : Int) (x4 : Int) (h : Hp) : EX d 261 27 [(0, .inr (.inr a0)), (1, .inl x1), (2, .inl x2), (3, .inl x3), (4, .inl x4)] [] h = EX d 261 31 [(0, .inr (.inr a0)), (1, .inl x1), (2, .inl x2), (3, .inl x3), (4, .inl x4)] [.inl (x4 + x2)] h := (EX_at bk_Mod_rightOut_27 _ _ _).trans rfl
theorem bk_Mod_rightOut_31 : blk 261 31 = some (((cd_Mod_rightOut.lookup 31).getD ([], 0, []))) := rfl
theorem Mod_rightOut_31 (d : Nat) (a0 : Nat) (x1 : Int) (x2 : Int) (x3 : Int) (x4 : Int) (s0 : Int) (h : Hp) : EX d 261 31 [(0, .inr (.inr a0)), (1, .inl x1), (2, .inl x2), (3, .inl x3), (4, .inl x4)] [.inl s0] h = if sK h a0 = 11 then bak (EX d 261) 41 [(0, .inr (.inr a0)), (1, .inl x1), (2, .inl x2), (4, .inl x4), (5, .inl s0)] [.inl x3] false (cal d 119 [.inr (.inr a0), .inr (.inl (wr s0))] h) else none := (EX_at bk_Mod_rightOut_31 _ _ _).trans rfl
theorem bk_Mod_rightOut_41 : blk 261 41 = some (((cd_Mod_rightOut.lookup 41).getD ([], 0, []))) := rfl
theorem Mod_rightOut_41 (d : Nat) (a0 : Nat) (x1 : Int) (x2 : Int) (x4 : Int) (x5 : Int) (s0 : Int) (s1 : Int) (h : Hp) : EX d 261 41 [(0, .inr (.inr a0)), (1, .inl x1), (2, .inl x2), (4, .inl x4), (5, .inl x5)] [.inl s1, .inl s0] h = if (wr s1) = 0 then EX d 261 59 [(0, .inr (.inr a0)), (1, .inl x1), (2, .inl x2), (4, .inl x4)] [.inl s0] h else EX d 261 44 [(0, .inr (.inr a0)), (1, .inl x1), (2, .inl x2), (4, .inl x4), (5, .inl x5)] [.inl s0] h := (EX_at bk_Mod_rightOut_41 _ _ _).trans rfl
theorem bk_Mod_rightOut_44 : blk 261 44 = some (((cd_Mod_rightOut.lookup 44).getD ([], 0, []))) := rfl
theorem Mod_rightOut_44 (d : Nat) (a0 : Nat) (x1 : Int) (x2 : Int) (x4 : Int) (x5 : Int) (s0 : Int) (h : Hp) : EX d 261 44 [(0, .inr (.inr a0)), (1, .inl x1), (2, .inl x2), (4, .inl x4), (5, .inl x5)] [.inl s0] h = if sK h a0 = 11 then bak (EX d 261) 52 [(0, .inr (.inr a0)), (1, .inl x1), (2, .inl x2), (4, .inl x4)] [.inl s0] false (cal d 115 [.inr (.inr a0), .inl x4, .inl x5] h) else none := (EX_at bk_Mod_rightOut_44 _ _ _).trans rfl
theorem bk_Mod_rightOut_52 : blk 261 52 = some (((cd_Mod_rightOut.lookup 52).getD ([], 0, []))) := rfl
theorem Mod_rightOut_52 (d : Nat) (a0 : Nat) (x1 : Int) (x2 : Int) (x4 : Int) (s0 : Int) (s1 : Int) (h : Hp) : EX d 261 52 [(0, .inr (.inr a0)), (1, .inl x1), (2, .inl x2), (4, .inl x4)] [.inl s1, .inl s0] h = if (wr s1) = 0 then EX d 261 59 [(0, .inr (.inr a0)), (1, .inl x1), (2, .inl x2), (4, .inl x4)] [.inl s0] h else EX d 261 55 [(0, .inr (.inr a0)), (1, .inl x1), (2, .inl x2), (4, .inl x4)] [.inl s0] h := (EX_at bk_Mod_rightOut_52 _ _ _).trans rfl
theorem bk_Mod_rightOut_55 : blk 261 55 = some (((cd_Mod_rightOut.lookup 55).getD ([], 0, []))) := rfl
theorem Mod_rightOut_55 (d : Nat) (a0 : Nat) (x1 : Int) (x2 : Int) (x4 : Int) (s0 : Int) (h : Hp) : EX d 261 55 [(0, .inr (.inr a0)), (1, .inl x1), (2, .inl x2), (4, .inl x4)] [.inl s0] h = EX d 261 60 [(0, .inr (.inr a0)), (1, .inl x1), (2, .inl x2), (4, .inl x4)] [.inl 1, .inl s0] h := (EX_at bk_Mod_rightOut_55 _ _ _).trans rfl
theorem bk_Mod_rightOut_59 : blk 261 59 = some (((cd_Mod_rightOut.lookup 59).getD ([], 0, []))) := rfl
theorem Mod_rightOut_59 (d : Nat) (a0 : Nat) (x1 : Int) (x2 : Int) (x4 : Int) (s0 : Int) (h : Hp) : EX d 261 59 [(0, .inr (.inr a0)), (1, .inl x1), (2, .inl x2), (4, .inl x4)] [.inl s0] h = EX d 261 60 [(0, .inr (.inr a0)), (1, .inl x1), (2, .inl x2), (4, .inl x4)] [.inl 0, .inl s0] h := (EX_at bk_Mod_rightOut_59 _ _ _).trans rfl
theorem bk_Mod_rightOut_60 : blk 261 60 = some (((cd_Mod_rightOut.lookup 60).getD ([], 0, []))) := rfl
theorem Mod_rightOut_60 (d : Nat) (a0 : Nat) (x1 : Int) (x2 : Int) (x4 : Int) (s0 : Int) (s1 : Int) (h : Hp) : EX d 261 60 [(0, .inr (.inr a0)), (1, .inl x1), (2, .inl x2), (4, .inl x4)] [.inl s1, .inl s0] h = EX d 261 5 [(0, .inr (.inr a0)), (1, .inl x1), (2, .inl x2), (3, .inl (s0 + s1)), (4, .inl (x4 + 1))] [] h := (EX_at bk_Mod_rightOut_60 _ _ _).trans rfl
theorem bk_Mod_rightOut_68 : blk 261 68 = some (((cd_Mod_rightOut.lookup 68).getD ([], 0, []))) := rfl
theorem Mod_rightOut_68 (d : Nat) (x3 : Int) (h : Hp) : EX d 261 68 [(3, .inl x3)] [] h = some (.inl x3, h) := (EX_at bk_Mod_rightOut_68 _ _ _).trans rfl
/-! oneOut(II)I of HookOverModel: method 262 -/
theorem bk_Mod_oneOut_0 : blk 262 0 = some (((cd_Mod_oneOut.lookup 0).getD ([], 0, []))) := rfl
theorem Mod_oneOut_0 (d : Nat) (a0 : Nat) (x1 : Int) (x2 : Int) (h : Hp) : EX d 262 0 [(0, .inr (.inr a0)), (1, .inl x1), (2, .inl x2)] [] h = if sK h a0 = 11 then EX d 262 5 [(0, .inr (.inr a0)), (1, .inl x1), (2, .inl x2)] [] (pI h a0 0 0) else none := (EX_at bk_Mod_oneOut_0 _ _ _).trans rfl
theorem bk_Mod_oneOut_5 : blk 262 5 = some (((cd_Mod_oneOut.lookup 5).getD ([], 0, []))) := rfl
theorem Mod_oneOut_5 (d : Nat) (a0 : Nat) (x1 : Int) (x2 : Int) (h : Hp) : EX d 262 5 [(0, .inr (.inr a0)), (1, .inl x1), (2, .inl x2)] [] h = if sK h a0 = 11 then if okx h (hR h a0 1) 20 1 then bak (EX d 262) 18 [(0, .inr (.inr a0)), (1, .inl x1), (2, .inl x2)] [] false (cal d 73 [.inr (.inl (wr x1)), .inr (.inl 0), .inr (.inl (wr (hI h (hR h a0 1) 1)))] h) else none else none := (EX_at bk_Mod_oneOut_5 _ _ _).trans rfl
theorem bk_Mod_oneOut_18 : blk 262 18 = some (((cd_Mod_oneOut.lookup 18).getD ([], 0, []))) := rfl
theorem Mod_oneOut_18 (d : Nat) (a0 : Nat) (x1 : Int) (x2 : Int) (s0 : Int) (h : Hp) : EX d 262 18 [(0, .inr (.inr a0)), (1, .inl x1), (2, .inl x2)] [.inl s0] h = if (wr s0) = 0 then EX d 262 40 [] [] h else EX d 262 21 [(0, .inr (.inr a0)), (1, .inl x1), (2, .inl x2)] [] h := (EX_at bk_Mod_oneOut_18 _ _ _).trans rfl
theorem bk_Mod_oneOut_21 : blk 262 21 = some (((cd_Mod_oneOut.lookup 21).getD ([], 0, []))) := rfl
theorem Mod_oneOut_21 (d : Nat) (a0 : Nat) (x1 : Int) (x2 : Int) (h : Hp) : EX d 262 21 [(0, .inr (.inr a0)), (1, .inl x1), (2, .inl x2)] [] h = if (wr x2) = 1 then EX d 262 31 [(0, .inr (.inr a0)), (1, .inl x1), (2, .inl x2)] [] h else EX d 262 26 [(0, .inr (.inr a0)), (1, .inl x1), (2, .inl x2)] [] h := (EX_at bk_Mod_oneOut_21 _ _ _).trans rfl
theorem bk_Mod_oneOut_26 : blk 262 26 = some (((cd_Mod_oneOut.lookup 26).getD ([], 0, []))) := rfl
theorem Mod_oneOut_26 (d : Nat) (a0 : Nat) (x1 : Int) (x2 : Int) (h : Hp) : EX d 262 26 [(0, .inr (.inr a0)), (1, .inl x1), (2, .inl x2)] [] h = if (wr x2) = (-1) then EX d 262 31 [(0, .inr (.inr a0)), (1, .inl x1), (2, .inl x2)] [] h else EX d 262 40 [] [] h := (EX_at bk_Mod_oneOut_26 _ _ _).trans rfl
theorem bk_Mod_oneOut_31 : blk 262 31 = some (((cd_Mod_oneOut.lookup 31).getD ([], 0, []))) := rfl
theorem Mod_oneOut_31 (d : Nat) (a0 : Nat) (x1 : Int) (x2 : Int) (h : Hp) : EX d 262 31 [(0, .inr (.inr a0)), (1, .inl x1), (2, .inl x2)] [] h = if sK h a0 = 11 then bak (EX d 262) 37 [] [] false (cal d 261 [.inr (.inr a0), .inl x1, .inl x2] h) else none := (EX_at bk_Mod_oneOut_31 _ _ _).trans rfl
theorem bk_Mod_oneOut_37 : blk 262 37 = some (((cd_Mod_oneOut.lookup 37).getD ([], 0, []))) := rfl
theorem Mod_oneOut_37 (d : Nat) (s0 : Int) (h : Hp) : EX d 262 37 [] [.inl s0] h = EX d 262 42 [] [.inl s0] h := (EX_at bk_Mod_oneOut_37 _ _ _).trans rfl
theorem bk_Mod_oneOut_40 : blk 262 40 = some (((cd_Mod_oneOut.lookup 40).getD ([], 0, []))) := rfl
theorem Mod_oneOut_40 (d : Nat) (h : Hp) : EX d 262 40 [] [] h = EX d 262 42 [] [.inl (-3)] h := (EX_at bk_Mod_oneOut_40 _ _ _).trans rfl
theorem bk_Mod_oneOut_42 : blk 262 42 = some (((cd_Mod_oneOut.lookup 42).getD ([], 0, []))) := rfl
theorem Mod_oneOut_42 (d : Nat) (s0 : Int) (h : Hp) : EX d 262 42 [] [.inl s0] h = some (.inl s0, h) := (EX_at bk_Mod_oneOut_42 _ _ _).trans rfl
/-! out(II)I of HookOverModel: method 264 -/
theorem bk_Mod_out_0 : blk 264 0 = some (((cd_Mod_out.lookup 0).getD ([], 0, []))) := rfl
theorem Mod_out_0 (d : Nat) (a0 : Nat) (x1 : Int) (x2 : Int) (h : Hp) : EX d 264 0 [(0, .inr (.inr a0)), (1, .inl x1), (2, .inl x2)] [] h = if sK h a0 = 11 then EX d 264 5 [(0, .inr (.inr a0)), (1, .inl x1), (2, .inl x2)] [] (pI h a0 0 0) else none := (EX_at bk_Mod_out_0 _ _ _).trans rfl
theorem bk_Mod_out_5 : blk 264 5 = some (((cd_Mod_out.lookup 5).getD ([], 0, []))) := rfl
theorem Mod_out_5 (d : Nat) (a0 : Nat) (x1 : Int) (x2 : Int) (h : Hp) : EX d 264 5 [(0, .inr (.inr a0)), (1, .inl x1), (2, .inl x2)] [] h = bak (EX d 264) 12 [(0, .inr (.inr a0)), (1, .inl x1), (2, .inl x2)] [] false (cal d 73 [.inr (.inl (wr x2)), .inr (.inl 0), .inr (.inl 1)] h) := (EX_at bk_Mod_out_5 _ _ _).trans rfl
theorem bk_Mod_out_12 : blk 264 12 = some (((cd_Mod_out.lookup 12).getD ([], 0, []))) := rfl
theorem Mod_out_12 (d : Nat) (a0 : Nat) (x1 : Int) (x2 : Int) (s0 : Int) (h : Hp) : EX d 264 12 [(0, .inr (.inr a0)), (1, .inl x1), (2, .inl x2)] [.inl s0] h = if (wr s0) = 0 then EX d 264 15 [] [] h else EX d 264 18 [(0, .inr (.inr a0)), (1, .inl x1), (2, .inl x2)] [] h := (EX_at bk_Mod_out_12 _ _ _).trans rfl
theorem bk_Mod_out_15 : blk 264 15 = some (((cd_Mod_out.lookup 15).getD ([], 0, []))) := rfl
theorem Mod_out_15 (d : Nat) (h : Hp) : EX d 264 15 [] [] h = some (.inl (-2), h) := (EX_at bk_Mod_out_15 _ _ _).trans rfl
theorem bk_Mod_out_18 : blk 264 18 = some (((cd_Mod_out.lookup 18).getD ([], 0, []))) := rfl
theorem Mod_out_18 (d : Nat) (a0 : Nat) (x1 : Int) (x2 : Int) (h : Hp) : EX d 264 18 [(0, .inr (.inr a0)), (1, .inl x1), (2, .inl x2)] [] h = if (wr x1) = 1 then EX d 264 31 [(0, .inr (.inr a0)), (1, .inl x1), (2, .inl x2)] [] h else EX d 264 23 [(0, .inr (.inr a0)), (1, .inl x1), (2, .inl x2)] [] h := (EX_at bk_Mod_out_18 _ _ _).trans rfl
theorem bk_Mod_out_23 : blk 264 23 = some (((cd_Mod_out.lookup 23).getD ([], 0, []))) := rfl
theorem Mod_out_23 (d : Nat) (a0 : Nat) (x1 : Int) (x2 : Int) (h : Hp) : EX d 264 23 [(0, .inr (.inr a0)), (1, .inl x1), (2, .inl x2)] [] h = if (wr x1) = (-1) then EX d 264 31 [(0, .inr (.inr a0)), (1, .inl x1), (2, .inl x2)] [] h else EX d 264 28 [] [] h := (EX_at bk_Mod_out_23 _ _ _).trans rfl
theorem bk_Mod_out_28 : blk 264 28 = some (((cd_Mod_out.lookup 28).getD ([], 0, []))) := rfl
theorem Mod_out_28 (d : Nat) (h : Hp) : EX d 264 28 [] [] h = some (.inl (-3), h) := (EX_at bk_Mod_out_28 _ _ _).trans rfl
theorem bk_Mod_out_31 : blk 264 31 = some (((cd_Mod_out.lookup 31).getD ([], 0, []))) := rfl
theorem Mod_out_31 (d : Nat) (a0 : Nat) (x1 : Int) (x2 : Int) (h : Hp) : EX d 264 31 [(0, .inr (.inr a0)), (1, .inl x1), (2, .inl x2)] [] h = EX d 264 36 [(0, .inr (.inr a0)), (1, .inl x1), (2, .inl x2), (3, .inl 0), (4, .inl 1)] [] h := (EX_at bk_Mod_out_31 _ _ _).trans rfl
theorem bk_Mod_out_36 : blk 264 36 = some (((cd_Mod_out.lookup 36).getD ([], 0, []))) := rfl
theorem Mod_out_36 (d : Nat) (a0 : Nat) (x1 : Int) (x2 : Int) (x3 : Int) (x4 : Int) (h : Hp) : EX d 264 36 [(0, .inr (.inr a0)), (1, .inl x1), (2, .inl x2), (3, .inl x3), (4, .inl x4)] [] h = if sK h a0 = 11 then if okx h (hR h a0 1) 20 1 then if (wr (hI h (hR h a0 1) 1)) < (wr x4) then EX d 264 72 [(0, .inr (.inr a0)), (1, .inl x1), (2, .inl x2), (3, .inl x3)] [] h else EX d 264 47 [(0, .inr (.inr a0)), (1, .inl x1), (2, .inl x2), (3, .inl x3), (4, .inl x4)] [] h else none else none := (EX_at bk_Mod_out_36 _ _ _).trans rfl
theorem bk_Mod_out_47 : blk 264 47 = some (((cd_Mod_out.lookup 47).getD ([], 0, []))) := rfl
theorem Mod_out_47 (d : Nat) (a0 : Nat) (x1 : Int) (x2 : Int) (x3 : Int) (x4 : Int) (h : Hp) : EX d 264 47 [(0, .inr (.inr a0)), (1, .inl x1), (2, .inl x2), (3, .inl x3), (4, .inl x4)] [] h = if sK h a0 = 11 then bak (EX d 264) 54 [(0, .inr (.inr a0)), (1, .inl x1), (2, .inl x2), (3, .inl x3), (4, .inl x4)] [] false (cal d 261 [.inr (.inr a0), .inl x4, .inl x1] h) else none := (EX_at bk_Mod_out_47 _ _ _).trans rfl
theorem bk_Mod_out_54 : blk 264 54 = some (((cd_Mod_out.lookup 54).getD ([], 0, []))) := rfl
theorem Mod_out_54 (d : Nat) (a0 : Nat) (x1 : Int) (x2 : Int) (x3 : Int) (x4 : Int) (s0 : Int) (h : Hp) : EX d 264 54 [(0, .inr (.inr a0)), (1, .inl x1), (2, .inl x2), (3, .inl x3), (4, .inl x4)] [.inl s0] h = if sK h a0 = 11 then bak (EX d 264) 60 [(0, .inr (.inr a0)), (1, .inl x1), (2, .inl x2), (3, .inl x3), (4, .inl x4)] [.inl s0] false (cal d 261 [.inr (.inr a0), .inl x3, .inl x1] h) else none := (EX_at bk_Mod_out_54 _ _ _).trans rfl
theorem bk_Mod_out_60 : blk 264 60 = some (((cd_Mod_out.lookup 60).getD ([], 0, []))) := rfl
theorem Mod_out_60 (d : Nat) (a0 : Nat) (x1 : Int) (x2 : Int) (x3 : Int) (x4 : Int) (s0 : Int) (s1 : Int) (h : Hp) : EX d 264 60 [(0, .inr (.inr a0)), (1, .inl x1), (2, .inl x2), (3, .inl x3), (4, .inl x4)] [.inl s1, .inl s0] h = if (wr s1) < (wr s0) then EX d 264 63 [(0, .inr (.inr a0)), (1, .inl x1), (2, .inl x2), (4, .inl x4)] [] h else EX d 264 66 [(0, .inr (.inr a0)), (1, .inl x1), (2, .inl x2), (3, .inl x3), (4, .inl x4)] [] h := (EX_at bk_Mod_out_60 _ _ _).trans rfl
theorem bk_Mod_out_63 : blk 264 63 = some (((cd_Mod_out.lookup 63).getD ([], 0, []))) := rfl
theorem Mod_out_63 (d : Nat) (a0 : Nat) (x1 : Int) (x2 : Int) (x4 : Int) (h : Hp) : EX d 264 63 [(0, .inr (.inr a0)), (1, .inl x1), (2, .inl x2), (4, .inl x4)] [] h = EX d 264 66 [(0, .inr (.inr a0)), (1, .inl x1), (2, .inl x2), (3, .inl x4), (4, .inl x4)] [] h := (EX_at bk_Mod_out_63 _ _ _).trans rfl
theorem bk_Mod_out_66 : blk 264 66 = some (((cd_Mod_out.lookup 66).getD ([], 0, []))) := rfl
theorem Mod_out_66 (d : Nat) (a0 : Nat) (x1 : Int) (x2 : Int) (x3 : Int) (x4 : Int) (h : Hp) : EX d 264 66 [(0, .inr (.inr a0)), (1, .inl x1), (2, .inl x2), (3, .inl x3), (4, .inl x4)] [] h = EX d 264 36 [(0, .inr (.inr a0)), (1, .inl x1), (2, .inl x2), (3, .inl x3), (4, .inl (x4 + 1))] [] h := (EX_at bk_Mod_out_66 _ _ _).trans rfl
theorem bk_Mod_out_72 : blk 264 72 = some (((cd_Mod_out.lookup 72).getD ([], 0, []))) := rfl
theorem Mod_out_72 (d : Nat) (a0 : Nat) (x1 : Int) (x2 : Int) (x3 : Int) (h : Hp) : EX d 264 72 [(0, .inr (.inr a0)), (1, .inl x1), (2, .inl x2), (3, .inl x3)] [] h = if (wr x2) = 0 then EX d 264 76 [(3, .inl x3)] [] h else EX d 264 80 [(0, .inr (.inr a0)), (1, .inl x1), (3, .inl x3)] [] h := (EX_at bk_Mod_out_72 _ _ _).trans rfl
theorem bk_Mod_out_76 : blk 264 76 = some (((cd_Mod_out.lookup 76).getD ([], 0, []))) := rfl
theorem Mod_out_76 (d : Nat) (x3 : Int) (h : Hp) : EX d 264 76 [(3, .inl x3)] [] h = EX d 264 86 [] [.inl x3] h := (EX_at bk_Mod_out_76 _ _ _).trans rfl
theorem bk_Mod_out_80 : blk 264 80 = some (((cd_Mod_out.lookup 80).getD ([], 0, []))) := rfl
theorem Mod_out_80 (d : Nat) (a0 : Nat) (x1 : Int) (x3 : Int) (h : Hp) : EX d 264 80 [(0, .inr (.inr a0)), (1, .inl x1), (3, .inl x3)] [] h = if sK h a0 = 11 then bak (EX d 264) 86 [] [] false (cal d 261 [.inr (.inr a0), .inl x3, .inl x1] h) else none := (EX_at bk_Mod_out_80 _ _ _).trans rfl
theorem bk_Mod_out_86 : blk 264 86 = some (((cd_Mod_out.lookup 86).getD ([], 0, []))) := rfl
theorem Mod_out_86 (d : Nat) (s0 : Int) (h : Hp) : EX d 264 86 [] [.inl s0] h = some (.inl s0, h) := (EX_at bk_Mod_out_86 _ _ _).trans rfl
/-! noSeen(I)I of HookOverModel: method 277 -/
theorem bk_Mod_noSeen_0 : blk 277 0 = some (((cd_Mod_noSeen.lookup 0).getD ([], 0, []))) := rfl
theorem Mod_noSeen_0 (d : Nat) (a0 : Nat) (x1 : Int) (h : Hp) : EX d 277 0 [(0, .inr (.inr a0)), (1, .inl x1)] [] h = if sK h a0 = 11 then bak (EX d 277) 5 [(0, .inr (.inr a0)), (1, .inl x1)] [] false (cal d 164 [.inr (.inr a0), .inl x1] h) else none := (EX_at bk_Mod_noSeen_0 _ _ _).trans rfl
theorem bk_Mod_noSeen_5 : blk 277 5 = some (((cd_Mod_noSeen.lookup 5).getD ([], 0, []))) := rfl
theorem Mod_noSeen_5 (d : Nat) (a0 : Nat) (x1 : Int) (s0 : Int) (h : Hp) : EX d 277 5 [(0, .inr (.inr a0)), (1, .inl x1)] [.inl s0] h = if (wr s0) = 0 then EX d 277 12 [(0, .inr (.inr a0)), (1, .inl x1)] [] h else EX d 277 10 [(2, .inl s0)] [] h := (EX_at bk_Mod_noSeen_5 _ _ _).trans rfl
theorem bk_Mod_noSeen_10 : blk 277 10 = some (((cd_Mod_noSeen.lookup 10).getD ([], 0, []))) := rfl
theorem Mod_noSeen_10 (d : Nat) (x2 : Int) (h : Hp) : EX d 277 10 [(2, .inl x2)] [] h = some (.inl x2, h) := (EX_at bk_Mod_noSeen_10 _ _ _).trans rfl
theorem bk_Mod_noSeen_12 : blk 277 12 = some (((cd_Mod_noSeen.lookup 12).getD ([], 0, []))) := rfl
theorem Mod_noSeen_12 (d : Nat) (a0 : Nat) (x1 : Int) (h : Hp) : EX d 277 12 [(0, .inr (.inr a0)), (1, .inl x1)] [] h = if sK h a0 = 11 then if okx h (hR h a0 34) 20 x1 then if sK h a0 = 11 then if okx h (hR h a0 1) 20 2 then if (wr (hI h (hR h a0 1) 2)) = 0 then EX d 277 27 [(0, .inr (.inr a0)), (1, .inl x1)] [.inl (hI h (hR h a0 34) (ix x1))] h else EX d 277 31 [(0, .inr (.inr a0)), (1, .inl x1)] [.inl (hI h (hR h a0 34) (ix x1))] h else none else none else none else none := (EX_at bk_Mod_noSeen_12 _ _ _).trans rfl
theorem bk_Mod_noSeen_27 : blk 277 27 = some (((cd_Mod_noSeen.lookup 27).getD ([], 0, []))) := rfl
theorem Mod_noSeen_27 (d : Nat) (a0 : Nat) (x1 : Int) (s0 : Int) (h : Hp) : EX d 277 27 [(0, .inr (.inr a0)), (1, .inl x1)] [.inl s0] h = EX d 277 39 [(0, .inr (.inr a0)), (1, .inl x1)] [.inl 0, .inl s0] h := (EX_at bk_Mod_noSeen_27 _ _ _).trans rfl
theorem bk_Mod_noSeen_31 : blk 277 31 = some (((cd_Mod_noSeen.lookup 31).getD ([], 0, []))) := rfl
theorem Mod_noSeen_31 (d : Nat) (a0 : Nat) (x1 : Int) (s0 : Int) (h : Hp) : EX d 277 31 [(0, .inr (.inr a0)), (1, .inl x1)] [.inl s0] h = if sK h a0 = 11 then if okx h (hR h a0 1) 20 2 then EX d 277 39 [(0, .inr (.inr a0)), (1, .inl x1)] [.inl ((hI h (hR h a0 1) 2) - 1), .inl s0] h else none else none := (EX_at bk_Mod_noSeen_31 _ _ _).trans rfl
theorem bk_Mod_noSeen_39 : blk 277 39 = some (((cd_Mod_noSeen.lookup 39).getD ([], 0, []))) := rfl
theorem Mod_noSeen_39 (d : Nat) (a0 : Nat) (x1 : Int) (s0 : Int) (s1 : Int) (h : Hp) : EX d 277 39 [(0, .inr (.inr a0)), (1, .inl x1)] [.inl s1, .inl s0] h = if (wr s0) = (wr s1) then EX d 277 45 [(0, .inr (.inr a0)), (1, .inl x1)] [] h else EX d 277 42 [] [] h := (EX_at bk_Mod_noSeen_39 _ _ _).trans rfl
theorem bk_Mod_noSeen_42 : blk 277 42 = some (((cd_Mod_noSeen.lookup 42).getD ([], 0, []))) := rfl
theorem Mod_noSeen_42 (d : Nat) (h : Hp) : EX d 277 42 [] [] h = some (.inl (-4), h) := (EX_at bk_Mod_noSeen_42 _ _ _).trans rfl
theorem bk_Mod_noSeen_45 : blk 277 45 = some (((cd_Mod_noSeen.lookup 45).getD ([], 0, []))) := rfl
theorem Mod_noSeen_45 (d : Nat) (a0 : Nat) (x1 : Int) (h : Hp) : EX d 277 45 [(0, .inr (.inr a0)), (1, .inl x1)] [] h = EX d 277 47 [(0, .inr (.inr a0)), (1, .inl x1), (3, .inl 0)] [] h := (EX_at bk_Mod_noSeen_45 _ _ _).trans rfl
theorem bk_Mod_noSeen_47 : blk 277 47 = some (((cd_Mod_noSeen.lookup 47).getD ([], 0, []))) := rfl
theorem Mod_noSeen_47 (d : Nat) (a0 : Nat) (x1 : Int) (x3 : Int) (h : Hp) : EX d 277 47 [(0, .inr (.inr a0)), (1, .inl x1), (3, .inl x3)] [] h = if sK h a0 = 11 then if okx h (hR h a0 34) 20 x1 then if (wr x3) < (wr (hI h (hR h a0 34) (ix x1))) then EX d 277 57 [(0, .inr (.inr a0)), (1, .inl x1), (3, .inl x3)] [] h else EX d 277 84 [] [] h else none else none := (EX_at bk_Mod_noSeen_47 _ _ _).trans rfl
theorem bk_Mod_noSeen_57 : blk 277 57 = some (((cd_Mod_noSeen.lookup 57).getD ([], 0, []))) := rfl
theorem Mod_noSeen_57 (d : Nat) (a0 : Nat) (x1 : Int) (x3 : Int) (h : Hp) : EX d 277 57 [(0, .inr (.inr a0)), (1, .inl x1), (3, .inl x3)] [] h = if sK h a0 = 11 then if okx h (hR h a0 35) 21 ((40 * x1) + x3) then if (wr (lCmp (hL h (hR h a0 35) (ix ((40 * x1) + x3))) (-2))) < 0 then EX d 277 75 [] [] h else EX d 277 78 [(0, .inr (.inr a0)), (1, .inl x1), (3, .inl x3)] [] h else none else none := (EX_at bk_Mod_noSeen_57 _ _ _).trans rfl
theorem bk_Mod_noSeen_75 : blk 277 75 = some (((cd_Mod_noSeen.lookup 75).getD ([], 0, []))) := rfl
theorem Mod_noSeen_75 (d : Nat) (h : Hp) : EX d 277 75 [] [] h = some (.inl (-3), h) := (EX_at bk_Mod_noSeen_75 _ _ _).trans rfl
theorem bk_Mod_noSeen_78 : blk 277 78 = some (((cd_Mod_noSeen.lookup 78).getD ([], 0, []))) := rfl
theorem Mod_noSeen_78 (d : Nat) (a0 : Nat) (x1 : Int) (x3 : Int) (h : Hp) : EX d 277 78 [(0, .inr (.inr a0)), (1, .inl x1), (3, .inl x3)] [] h = EX d 277 47 [(0, .inr (.inr a0)), (1, .inl x1), (3, .inl (x3 + 1))] [] h := (EX_at bk_Mod_noSeen_78 _ _ _).trans rfl
theorem bk_Mod_noSeen_84 : blk 277 84 = some (((cd_Mod_noSeen.lookup 84).getD ([], 0, []))) := rfl
theorem Mod_noSeen_84 (d : Nat) (h : Hp) : EX d 277 84 [] [] h = some (.inl 0, h) := (EX_at bk_Mod_noSeen_84 _ _ _).trans rfl
/-! seen(I)J of HookOverModel: method 278 -/
theorem bk_Mod_seen_0 : blk 278 0 = some (((cd_Mod_seen.lookup 0).getD ([], 0, []))) := rfl
theorem Mod_seen_0 (d : Nat) (a0 : Nat) (x1 : Int) (h : Hp) : EX d 278 0 [(0, .inr (.inr a0)), (1, .inl x1)] [] h = if sK h a0 = 11 then EX d 278 5 [(0, .inr (.inr a0)), (1, .inl x1)] [] (pI h a0 0 0) else none := (EX_at bk_Mod_seen_0 _ _ _).trans rfl
theorem bk_Mod_seen_5 : blk 278 5 = some (((cd_Mod_seen.lookup 5).getD ([], 0, []))) := rfl
theorem Mod_seen_5 (d : Nat) (a0 : Nat) (x1 : Int) (h : Hp) : EX d 278 5 [(0, .inr (.inr a0)), (1, .inl x1)] [] h = if sK h a0 = 11 then bak (EX d 278) 10 [(0, .inr (.inr a0)), (1, .inl x1)] [] false (cal d 277 [.inr (.inr a0), .inl x1] h) else none := (EX_at bk_Mod_seen_5 _ _ _).trans rfl
theorem bk_Mod_seen_10 : blk 278 10 = some (((cd_Mod_seen.lookup 10).getD ([], 0, []))) := rfl
theorem Mod_seen_10 (d : Nat) (a0 : Nat) (x1 : Int) (s0 : Int) (h : Hp) : EX d 278 10 [(0, .inr (.inr a0)), (1, .inl x1)] [.inl s0] h = if (wr s0) = 0 then EX d 278 18 [(0, .inr (.inr a0)), (1, .inl x1)] [] h else EX d 278 15 [(2, .inl s0)] [] h := (EX_at bk_Mod_seen_10 _ _ _).trans rfl
theorem bk_Mod_seen_15 : blk 278 15 = some (((cd_Mod_seen.lookup 15).getD ([], 0, []))) := rfl
theorem Mod_seen_15 (d : Nat) (x2 : Int) (h : Hp) : EX d 278 15 [(2, .inl x2)] [] h = some (.inr (.inl (wr x2)), h) := (EX_at bk_Mod_seen_15 _ _ _).trans rfl
theorem bk_Mod_seen_18 : blk 278 18 = some (((cd_Mod_seen.lookup 18).getD ([], 0, []))) := rfl
theorem Mod_seen_18 (d : Nat) (a0 : Nat) (x1 : Int) (h : Hp) : EX d 278 18 [(0, .inr (.inr a0)), (1, .inl x1)] [] h = if sK h a0 = 11 then bak (EX d 278) 22 [(0, .inr (.inr a0)), (1, .inl x1)] [] false (cal d 193 [.inr (.inr a0)] h) else none := (EX_at bk_Mod_seen_18 _ _ _).trans rfl
theorem bk_Mod_seen_22 : blk 278 22 = some (((cd_Mod_seen.lookup 22).getD ([], 0, []))) := rfl
theorem Mod_seen_22 (d : Nat) (a0 : Nat) (x1 : Int) (s0 : Int) (h : Hp) : EX d 278 22 [(0, .inr (.inr a0)), (1, .inl x1)] [.inl s0] h = if sK h a0 = 11 then bak (EX d 278) 30 [(0, .inr (.inr a0)), (3, .inl s0)] [] true (cal d 188 [.inr (.inr a0), .inl (-1), .inl (-1), .inl x1] h) else none := (EX_at bk_Mod_seen_22 _ _ _).trans rfl
theorem bk_Mod_seen_30 : blk 278 30 = some (((cd_Mod_seen.lookup 30).getD ([], 0, []))) := rfl
theorem Mod_seen_30 (d : Nat) (a0 : Nat) (x3 : Int) (h : Hp) : EX d 278 30 [(0, .inr (.inr a0)), (3, .inl x3)] [] h = if sK h a0 = 11 then bak (EX d 278) 35 [] [] false (cal d 190 [.inr (.inr a0), .inl x3] h) else none := (EX_at bk_Mod_seen_30 _ _ _).trans rfl
theorem bk_Mod_seen_35 : blk 278 35 = some (((cd_Mod_seen.lookup 35).getD ([], 0, []))) := rfl
theorem Mod_seen_35 (d : Nat) (t0 : Int) (h : Hp) : EX d 278 35 [] [.inr (.inl t0)] h = some (.inr (.inl t0), h) := (EX_at bk_Mod_seen_35 _ _ _).trans rfl
/-! sure(II)I of HookOverModel: method 284 -/
theorem bk_Mod_sure_0 : blk 284 0 = some (((cd_Mod_sure.lookup 0).getD ([], 0, []))) := rfl
theorem Mod_sure_0 (d : Nat) (a0 : Nat) (x1 : Int) (x2 : Int) (h : Hp) : EX d 284 0 [(0, .inr (.inr a0)), (1, .inl x1), (2, .inl x2)] [] h = if sK h a0 = 11 then EX d 284 5 [(0, .inr (.inr a0)), (1, .inl x1), (2, .inl x2)] [] (pI h a0 0 0) else none := (EX_at bk_Mod_sure_0 _ _ _).trans rfl
theorem bk_Mod_sure_5 : blk 284 5 = some (((cd_Mod_sure.lookup 5).getD ([], 0, []))) := rfl
theorem Mod_sure_5 (d : Nat) (a0 : Nat) (x1 : Int) (x2 : Int) (h : Hp) : EX d 284 5 [(0, .inr (.inr a0)), (1, .inl x1), (2, .inl x2)] [] h = bak (EX d 284) 14 [(0, .inr (.inr a0)), (1, .inl x1), (2, .inl x2)] [] false (cal d 73 [.inr (.inl (wr x1)), .inr (.inl 0), .inr (.inl 3)] h) := (EX_at bk_Mod_sure_5 _ _ _).trans rfl
theorem bk_Mod_sure_14 : blk 284 14 = some (((cd_Mod_sure.lookup 14).getD ([], 0, []))) := rfl
theorem Mod_sure_14 (d : Nat) (a0 : Nat) (x1 : Int) (x2 : Int) (s0 : Int) (h : Hp) : EX d 284 14 [(0, .inr (.inr a0)), (1, .inl x1), (2, .inl x2)] [.inl s0] h = if (wr s0) = 0 then EX d 284 25 [] [] h else EX d 284 17 [(0, .inr (.inr a0)), (1, .inl x1), (2, .inl x2)] [] h := (EX_at bk_Mod_sure_14 _ _ _).trans rfl
theorem bk_Mod_sure_17 : blk 284 17 = some (((cd_Mod_sure.lookup 17).getD ([], 0, []))) := rfl
theorem Mod_sure_17 (d : Nat) (a0 : Nat) (x1 : Int) (x2 : Int) (h : Hp) : EX d 284 17 [(0, .inr (.inr a0)), (1, .inl x1), (2, .inl x2)] [] h = if sK h a0 = 11 then bak (EX d 284) 22 [(0, .inr (.inr a0)), (1, .inl x1), (2, .inl x2)] [] false (cal d 110 [.inr (.inr a0), .inl x2] h) else none := (EX_at bk_Mod_sure_17 _ _ _).trans rfl
theorem bk_Mod_sure_22 : blk 284 22 = some (((cd_Mod_sure.lookup 22).getD ([], 0, []))) := rfl
theorem Mod_sure_22 (d : Nat) (a0 : Nat) (x1 : Int) (x2 : Int) (s0 : Int) (h : Hp) : EX d 284 22 [(0, .inr (.inr a0)), (1, .inl x1), (2, .inl x2)] [.inl s0] h = if (wr s0) = 0 then EX d 284 25 [] [] h else EX d 284 28 [(0, .inr (.inr a0)), (1, .inl x1), (2, .inl x2)] [] h := (EX_at bk_Mod_sure_22 _ _ _).trans rfl
theorem bk_Mod_sure_25 : blk 284 25 = some (((cd_Mod_sure.lookup 25).getD ([], 0, []))) := rfl
theorem Mod_sure_25 (d : Nat) (h : Hp) : EX d 284 25 [] [] h = some (.inl (-2), h) := (EX_at bk_Mod_sure_25 _ _ _).trans rfl
theorem bk_Mod_sure_28 : blk 284 28 = some (((cd_Mod_sure.lookup 28).getD ([], 0, []))) := rfl
theorem Mod_sure_28 (d : Nat) (a0 : Nat) (x1 : Int) (x2 : Int) (h : Hp) : EX d 284 28 [(0, .inr (.inr a0)), (1, .inl x1), (2, .inl x2)] [] h = if sK h a0 = 11 then bak (EX d 284) 33 [(0, .inr (.inr a0)), (1, .inl x1), (2, .inl x2)] [] false (cal d 277 [.inr (.inr a0), .inl x1] h) else none := (EX_at bk_Mod_sure_28 _ _ _).trans rfl
theorem bk_Mod_sure_33 : blk 284 33 = some (((cd_Mod_sure.lookup 33).getD ([], 0, []))) := rfl
theorem Mod_sure_33 (d : Nat) (a0 : Nat) (x1 : Int) (x2 : Int) (s0 : Int) (h : Hp) : EX d 284 33 [(0, .inr (.inr a0)), (1, .inl x1), (2, .inl x2)] [.inl s0] h = if (wr s0) = 0 then EX d 284 40 [(0, .inr (.inr a0)), (1, .inl x1), (2, .inl x2)] [] h else EX d 284 38 [(3, .inl s0)] [] h := (EX_at bk_Mod_sure_33 _ _ _).trans rfl
theorem bk_Mod_sure_38 : blk 284 38 = some (((cd_Mod_sure.lookup 38).getD ([], 0, []))) := rfl
theorem Mod_sure_38 (d : Nat) (x3 : Int) (h : Hp) : EX d 284 38 [(3, .inl x3)] [] h = some (.inl x3, h) := (EX_at bk_Mod_sure_38 _ _ _).trans rfl
theorem bk_Mod_sure_40 : blk 284 40 = some (((cd_Mod_sure.lookup 40).getD ([], 0, []))) := rfl
theorem Mod_sure_40 (d : Nat) (a0 : Nat) (x1 : Int) (x2 : Int) (h : Hp) : EX d 284 40 [(0, .inr (.inr a0)), (1, .inl x1), (2, .inl x2)] [] h = if sK h a0 = 11 then bak (EX d 284) 44 [(0, .inr (.inr a0)), (1, .inl x1), (2, .inl x2)] [] false (cal d 193 [.inr (.inr a0)] h) else none := (EX_at bk_Mod_sure_40 _ _ _).trans rfl
theorem bk_Mod_sure_44 : blk 284 44 = some (((cd_Mod_sure.lookup 44).getD ([], 0, []))) := rfl
theorem Mod_sure_44 (d : Nat) (a0 : Nat) (x1 : Int) (x2 : Int) (s0 : Int) (h : Hp) : EX d 284 44 [(0, .inr (.inr a0)), (1, .inl x1), (2, .inl x2)] [.inl s0] h = if sK h a0 = 11 then bak (EX d 284) 53 [(0, .inr (.inr a0)), (1, .inl x1), (2, .inl x2), (4, .inl s0)] [] true (cal d 188 [.inr (.inr a0), .inl (-1), .inl (-1), .inl x1] h) else none := (EX_at bk_Mod_sure_44 _ _ _).trans rfl
theorem bk_Mod_sure_53 : blk 284 53 = some (((cd_Mod_sure.lookup 53).getD ([], 0, []))) := rfl
theorem Mod_sure_53 (d : Nat) (a0 : Nat) (x1 : Int) (x2 : Int) (x4 : Int) (h : Hp) : EX d 284 53 [(0, .inr (.inr a0)), (1, .inl x1), (2, .inl x2), (4, .inl x4)] [] h = if sK h a0 = 11 then bak (EX d 284) 59 [(0, .inr (.inr a0)), (1, .inl x1), (2, .inl x2), (4, .inl x4)] [] false (cal d 190 [.inr (.inr a0), .inl x4] h) else none := (EX_at bk_Mod_sure_53 _ _ _).trans rfl
theorem bk_Mod_sure_59 : blk 284 59 = some (((cd_Mod_sure.lookup 59).getD ([], 0, []))) := rfl
theorem Mod_sure_59 (d : Nat) (a0 : Nat) (x1 : Int) (x2 : Int) (x4 : Int) (t0 : Int) (h : Hp) : EX d 284 59 [(0, .inr (.inr a0)), (1, .inl x1), (2, .inl x2), (4, .inl x4)] [.inr (.inl t0)] h = if (wr (lCmp t0 0)) = 0 then EX d 284 68 [] [] h else EX d 284 71 [(0, .inr (.inr a0)), (1, .inl x1), (2, .inl x2), (4, .inl x4), (5, .inr (.inl t0))] [] h := (EX_at bk_Mod_sure_59 _ _ _).trans rfl
theorem bk_Mod_sure_68 : blk 284 68 = some (((cd_Mod_sure.lookup 68).getD ([], 0, []))) := rfl
theorem Mod_sure_68 (d : Nat) (h : Hp) : EX d 284 68 [] [] h = some (.inl (-8), h) := (EX_at bk_Mod_sure_68 _ _ _).trans rfl
theorem bk_Mod_sure_71 : blk 284 71 = some (((cd_Mod_sure.lookup 71).getD ([], 0, []))) := rfl
theorem Mod_sure_71 (d : Nat) (a0 : Nat) (x1 : Int) (x2 : Int) (x4 : Int) (y5 : Int) (h : Hp) : EX d 284 71 [(0, .inr (.inr a0)), (1, .inl x1), (2, .inl x2), (4, .inl x4), (5, .inr (.inl y5))] [] h = if sK h a0 = 11 then bak (EX d 284) 78 [(0, .inr (.inr a0)), (1, .inl x1), (2, .inl x2), (4, .inl x4), (5, .inr (.inl y5))] [] true (cal d 188 [.inr (.inr a0), .inl x2, .inl (-1), .inl x1] h) else none := (EX_at bk_Mod_sure_71 _ _ _).trans rfl
theorem bk_Mod_sure_78 : blk 284 78 = some (((cd_Mod_sure.lookup 78).getD ([], 0, []))) := rfl
theorem Mod_sure_78 (d : Nat) (a0 : Nat) (x1 : Int) (x2 : Int) (x4 : Int) (y5 : Int) (h : Hp) : EX d 284 78 [(0, .inr (.inr a0)), (1, .inl x1), (2, .inl x2), (4, .inl x4), (5, .inr (.inl y5))] [] h = if sK h a0 = 11 then bak (EX d 284) 84 [(0, .inr (.inr a0)), (1, .inl x1), (2, .inl x2), (4, .inl x4), (5, .inr (.inl y5))] [] false (cal d 190 [.inr (.inr a0), .inl x4] h) else none := (EX_at bk_Mod_sure_78 _ _ _).trans rfl
theorem bk_Mod_sure_84 : blk 284 84 = some (((cd_Mod_sure.lookup 84).getD ([], 0, []))) := rfl
theorem Mod_sure_84 (d : Nat) (a0 : Nat) (x1 : Int) (x2 : Int) (x4 : Int) (y5 : Int) (t0 : Int) (h : Hp) : EX d 284 84 [(0, .inr (.inr a0)), (1, .inl x1), (2, .inl x2), (4, .inl x4), (5, .inr (.inl y5))] [.inr (.inl t0)] h = if (wr (lCmp t0 y5)) = 0 then EX d 284 90 [] [] h else EX d 284 92 [(0, .inr (.inr a0)), (1, .inl x1), (2, .inl x2), (4, .inl x4)] [] h := (EX_at bk_Mod_sure_84 _ _ _).trans rfl
theorem bk_Mod_sure_90 : blk 284 90 = some (((cd_Mod_sure.lookup 90).getD ([], 0, []))) := rfl
theorem Mod_sure_90 (d : Nat) (h : Hp) : EX d 284 90 [] [] h = some (.inl (-1), h) := (EX_at bk_Mod_sure_90 _ _ _).trans rfl
theorem bk_Mod_sure_92 : blk 284 92 = some (((cd_Mod_sure.lookup 92).getD ([], 0, []))) := rfl
theorem Mod_sure_92 (d : Nat) (a0 : Nat) (x1 : Int) (x2 : Int) (x4 : Int) (h : Hp) : EX d 284 92 [(0, .inr (.inr a0)), (1, .inl x1), (2, .inl x2), (4, .inl x4)] [] h = EX d 284 95 [(0, .inr (.inr a0)), (1, .inl x1), (2, .inl x2), (4, .inl x4), (7, .inl 0)] [] h := (EX_at bk_Mod_sure_92 _ _ _).trans rfl
theorem bk_Mod_sure_95 : blk 284 95 = some (((cd_Mod_sure.lookup 95).getD ([], 0, []))) := rfl
theorem Mod_sure_95 (d : Nat) (a0 : Nat) (x1 : Int) (x2 : Int) (x4 : Int) (x7 : Int) (h : Hp) : EX d 284 95 [(0, .inr (.inr a0)), (1, .inl x1), (2, .inl x2), (4, .inl x4), (7, .inl x7)] [] h = if sK h a0 = 11 then if okx h (hR h a0 1) 20 2 then if (wr x7) < (wr (hI h (hR h a0 1) 2)) then EX d 284 106 [(0, .inr (.inr a0)), (1, .inl x1), (2, .inl x2), (4, .inl x4), (7, .inl x7)] [] h else EX d 284 134 [] [] h else none else none := (EX_at bk_Mod_sure_95 _ _ _).trans rfl
theorem bk_Mod_sure_106 : blk 284 106 = some (((cd_Mod_sure.lookup 106).getD ([], 0, []))) := rfl
theorem Mod_sure_106 (d : Nat) (a0 : Nat) (x1 : Int) (x2 : Int) (x4 : Int) (x7 : Int) (h : Hp) : EX d 284 106 [(0, .inr (.inr a0)), (1, .inl x1), (2, .inl x2), (4, .inl x4), (7, .inl x7)] [] h = if sK h a0 = 11 then bak (EX d 284) 114 [(0, .inr (.inr a0)), (1, .inl x1), (2, .inl x2), (4, .inl x4), (7, .inl x7)] [] true (cal d 188 [.inr (.inr a0), .inl x2, .inl x7, .inl x1] h) else none := (EX_at bk_Mod_sure_106 _ _ _).trans rfl
theorem bk_Mod_sure_114 : blk 284 114 = some (((cd_Mod_sure.lookup 114).getD ([], 0, []))) := rfl
theorem Mod_sure_114 (d : Nat) (a0 : Nat) (x1 : Int) (x2 : Int) (x4 : Int) (x7 : Int) (h : Hp) : EX d 284 114 [(0, .inr (.inr a0)), (1, .inl x1), (2, .inl x2), (4, .inl x4), (7, .inl x7)] [] h = if sK h a0 = 11 then bak (EX d 284) 120 [(0, .inr (.inr a0)), (1, .inl x1), (2, .inl x2), (4, .inl x4), (7, .inl x7)] [] false (cal d 190 [.inr (.inr a0), .inl x4] h) else none := (EX_at bk_Mod_sure_114 _ _ _).trans rfl
theorem bk_Mod_sure_120 : blk 284 120 = some (((cd_Mod_sure.lookup 120).getD ([], 0, []))) := rfl
theorem Mod_sure_120 (d : Nat) (a0 : Nat) (x1 : Int) (x2 : Int) (x4 : Int) (x7 : Int) (t0 : Int) (h : Hp) : EX d 284 120 [(0, .inr (.inr a0)), (1, .inl x1), (2, .inl x2), (4, .inl x4), (7, .inl x7)] [.inr (.inl t0)] h = if (wr (lCmp t0 0)) = 0 then EX d 284 125 [(7, .inl x7)] [] h else EX d 284 128 [(0, .inr (.inr a0)), (1, .inl x1), (2, .inl x2), (4, .inl x4), (7, .inl x7)] [] h := (EX_at bk_Mod_sure_120 _ _ _).trans rfl
theorem bk_Mod_sure_125 : blk 284 125 = some (((cd_Mod_sure.lookup 125).getD ([], 0, []))) := rfl
theorem Mod_sure_125 (d : Nat) (x7 : Int) (h : Hp) : EX d 284 125 [(7, .inl x7)] [] h = some (.inl x7, h) := (EX_at bk_Mod_sure_125 _ _ _).trans rfl
theorem bk_Mod_sure_128 : blk 284 128 = some (((cd_Mod_sure.lookup 128).getD ([], 0, []))) := rfl
theorem Mod_sure_128 (d : Nat) (a0 : Nat) (x1 : Int) (x2 : Int) (x4 : Int) (x7 : Int) (h : Hp) : EX d 284 128 [(0, .inr (.inr a0)), (1, .inl x1), (2, .inl x2), (4, .inl x4), (7, .inl x7)] [] h = EX d 284 95 [(0, .inr (.inr a0)), (1, .inl x1), (2, .inl x2), (4, .inl x4), (7, .inl (x7 + 1))] [] h := (EX_at bk_Mod_sure_128 _ _ _).trans rfl
theorem bk_Mod_sure_134 : blk 284 134 = some (((cd_Mod_sure.lookup 134).getD ([], 0, []))) := rfl
theorem Mod_sure_134 (d : Nat) (h : Hp) : EX d 284 134 [] [] h = some (.inl (-8), h) := (EX_at bk_Mod_sure_134 _ _ _).trans rfl
/-! numbers(III)I of HookOverModel: method 288 -/
theorem bk_Mod_numbers_0 : blk 288 0 = some (((cd_Mod_numbers.lookup 0).getD ([], 0, []))) := rfl
theorem Mod_numbers_0 (d : Nat) (a0 : Nat) (x1 : Int) (x2 : Int) (x3 : Int) (h : Hp) : EX d 288 0 [(0, .inr (.inr a0)), (1, .inl x1), (2, .inl x2), (3, .inl x3)] [] h = if sK h a0 = 11 then EX d 288 5 [(0, .inr (.inr a0)), (1, .inl x1), (2, .inl x2), (3, .inl x3)] [] (pI h a0 0 0) else none := (EX_at bk_Mod_numbers_0 _ _ _).trans rfl
theorem bk_Mod_numbers_5 : blk 288 5 = some (((cd_Mod_numbers.lookup 5).getD ([], 0, []))) := rfl
theorem Mod_numbers_5 (d : Nat) (a0 : Nat) (x1 : Int) (x2 : Int) (x3 : Int) (h : Hp) : EX d 288 5 [(0, .inr (.inr a0)), (1, .inl x1), (2, .inl x2), (3, .inl x3)] [] h = bak (EX d 288) 14 [(0, .inr (.inr a0)), (1, .inl x1), (2, .inl x2), (3, .inl x3)] [] false (cal d 73 [.inr (.inl (wr x1)), .inr (.inl 0), .inr (.inl 3)] h) := (EX_at bk_Mod_numbers_5 _ _ _).trans rfl
theorem bk_Mod_numbers_14 : blk 288 14 = some (((cd_Mod_numbers.lookup 14).getD ([], 0, []))) := rfl
theorem Mod_numbers_14 (d : Nat) (a0 : Nat) (x1 : Int) (x2 : Int) (x3 : Int) (s0 : Int) (h : Hp) : EX d 288 14 [(0, .inr (.inr a0)), (1, .inl x1), (2, .inl x2), (3, .inl x3)] [.inl s0] h = if (wr s0) = 0 then EX d 288 29 [] [] h else EX d 288 17 [(0, .inr (.inr a0)), (1, .inl x1), (2, .inl x2), (3, .inl x3)] [] h := (EX_at bk_Mod_numbers_14 _ _ _).trans rfl
theorem bk_Mod_numbers_17 : blk 288 17 = some (((cd_Mod_numbers.lookup 17).getD ([], 0, []))) := rfl
theorem Mod_numbers_17 (d : Nat) (a0 : Nat) (x1 : Int) (x2 : Int) (x3 : Int) (h : Hp) : EX d 288 17 [(0, .inr (.inr a0)), (1, .inl x1), (2, .inl x2), (3, .inl x3)] [] h = bak (EX d 288) 26 [(0, .inr (.inr a0)), (1, .inl x1), (2, .inl x2), (3, .inl x3)] [] false (cal d 73 [.inr (.inl (wr x2)), .inr (.inl 0), .inr (.inl 3)] h) := (EX_at bk_Mod_numbers_17 _ _ _).trans rfl
theorem bk_Mod_numbers_26 : blk 288 26 = some (((cd_Mod_numbers.lookup 26).getD ([], 0, []))) := rfl
theorem Mod_numbers_26 (d : Nat) (a0 : Nat) (x1 : Int) (x2 : Int) (x3 : Int) (s0 : Int) (h : Hp) : EX d 288 26 [(0, .inr (.inr a0)), (1, .inl x1), (2, .inl x2), (3, .inl x3)] [.inl s0] h = if (wr s0) = 0 then EX d 288 29 [] [] h else EX d 288 32 [(0, .inr (.inr a0)), (1, .inl x1), (2, .inl x2), (3, .inl x3)] [] h := (EX_at bk_Mod_numbers_26 _ _ _).trans rfl
theorem bk_Mod_numbers_29 : blk 288 29 = some (((cd_Mod_numbers.lookup 29).getD ([], 0, []))) := rfl
theorem Mod_numbers_29 (d : Nat) (h : Hp) : EX d 288 29 [] [] h = some (.inl (-2), h) := (EX_at bk_Mod_numbers_29 _ _ _).trans rfl
theorem bk_Mod_numbers_32 : blk 288 32 = some (((cd_Mod_numbers.lookup 32).getD ([], 0, []))) := rfl
theorem Mod_numbers_32 (d : Nat) (a0 : Nat) (x1 : Int) (x2 : Int) (x3 : Int) (h : Hp) : EX d 288 32 [(0, .inr (.inr a0)), (1, .inl x1), (2, .inl x2), (3, .inl x3)] [] h = bak (EX d 288) 41 [(0, .inr (.inr a0)), (1, .inl x1), (2, .inl x2), (3, .inl x3)] [] false (cal d 73 [.inr (.inl (wr x3)), .inr (.inl 0), .inr (.inl 40)] h) := (EX_at bk_Mod_numbers_32 _ _ _).trans rfl
theorem bk_Mod_numbers_41 : blk 288 41 = some (((cd_Mod_numbers.lookup 41).getD ([], 0, []))) := rfl
theorem Mod_numbers_41 (d : Nat) (a0 : Nat) (x1 : Int) (x2 : Int) (x3 : Int) (s0 : Int) (h : Hp) : EX d 288 41 [(0, .inr (.inr a0)), (1, .inl x1), (2, .inl x2), (3, .inl x3)] [.inl s0] h = if (wr s0) = 0 then EX d 288 44 [] [] h else EX d 288 47 [(0, .inr (.inr a0)), (1, .inl x1), (2, .inl x2), (3, .inl x3)] [] h := (EX_at bk_Mod_numbers_41 _ _ _).trans rfl
theorem bk_Mod_numbers_44 : blk 288 44 = some (((cd_Mod_numbers.lookup 44).getD ([], 0, []))) := rfl
theorem Mod_numbers_44 (d : Nat) (h : Hp) : EX d 288 44 [] [] h = some (.inl (-3), h) := (EX_at bk_Mod_numbers_44 _ _ _).trans rfl
theorem bk_Mod_numbers_47 : blk 288 47 = some (((cd_Mod_numbers.lookup 47).getD ([], 0, []))) := rfl
theorem Mod_numbers_47 (d : Nat) (a0 : Nat) (x1 : Int) (x2 : Int) (x3 : Int) (h : Hp) : EX d 288 47 [(0, .inr (.inr a0)), (1, .inl x1), (2, .inl x2), (3, .inl x3)] [] h = if sK h a0 = 11 then if okx h (hR h a0 33) 20 x1 then EX d 288 54 [(0, .inr (.inr a0)), (1, .inl x1), (3, .inl x3)] [] (pI h (hR h a0 33) (ix x1) x2) else none else none := (EX_at bk_Mod_numbers_47 _ _ _).trans rfl
theorem bk_Mod_numbers_54 : blk 288 54 = some (((cd_Mod_numbers.lookup 54).getD ([], 0, []))) := rfl
theorem Mod_numbers_54 (d : Nat) (a0 : Nat) (x1 : Int) (x3 : Int) (h : Hp) : EX d 288 54 [(0, .inr (.inr a0)), (1, .inl x1), (3, .inl x3)] [] h = if sK h a0 = 11 then if okx h (hR h a0 34) 20 x1 then EX d 288 61 [(0, .inr (.inr a0)), (1, .inl x1), (3, .inl x3)] [] (pI h (hR h a0 34) (ix x1) x3) else none else none := (EX_at bk_Mod_numbers_54 _ _ _).trans rfl
theorem bk_Mod_numbers_61 : blk 288 61 = some (((cd_Mod_numbers.lookup 61).getD ([], 0, []))) := rfl
theorem Mod_numbers_61 (d : Nat) (a0 : Nat) (x1 : Int) (x3 : Int) (h : Hp) : EX d 288 61 [(0, .inr (.inr a0)), (1, .inl x1), (3, .inl x3)] [] h = EX d 288 64 [(0, .inr (.inr a0)), (1, .inl x1), (3, .inl x3), (4, .inl 0)] [] h := (EX_at bk_Mod_numbers_61 _ _ _).trans rfl
theorem bk_Mod_numbers_64 : blk 288 64 = some (((cd_Mod_numbers.lookup 64).getD ([], 0, []))) := rfl
theorem Mod_numbers_64 (d : Nat) (a0 : Nat) (x1 : Int) (x3 : Int) (x4 : Int) (h : Hp) : EX d 288 64 [(0, .inr (.inr a0)), (1, .inl x1), (3, .inl x3), (4, .inl x4)] [] h = if (wr x4) < (wr x3) then EX d 288 70 [(0, .inr (.inr a0)), (1, .inl x1), (3, .inl x3), (4, .inl x4)] [] h else EX d 288 89 [] [] h := (EX_at bk_Mod_numbers_64 _ _ _).trans rfl
theorem bk_Mod_numbers_70 : blk 288 70 = some (((cd_Mod_numbers.lookup 70).getD ([], 0, []))) := rfl
theorem Mod_numbers_70 (d : Nat) (a0 : Nat) (x1 : Int) (x3 : Int) (x4 : Int) (h : Hp) : EX d 288 70 [(0, .inr (.inr a0)), (1, .inl x1), (3, .inl x3), (4, .inl x4)] [] h = if sK h a0 = 11 then if okx h (hR h a0 35) 21 ((40 * x1) + x4) then EX d 288 83 [(0, .inr (.inr a0)), (1, .inl x1), (3, .inl x3), (4, .inl x4)] [] (pL h (hR h a0 35) (ix ((40 * x1) + x4)) 0) else none else none := (EX_at bk_Mod_numbers_70 _ _ _).trans rfl
theorem bk_Mod_numbers_83 : blk 288 83 = some (((cd_Mod_numbers.lookup 83).getD ([], 0, []))) := rfl
theorem Mod_numbers_83 (d : Nat) (a0 : Nat) (x1 : Int) (x3 : Int) (x4 : Int) (h : Hp) : EX d 288 83 [(0, .inr (.inr a0)), (1, .inl x1), (3, .inl x3), (4, .inl x4)] [] h = EX d 288 64 [(0, .inr (.inr a0)), (1, .inl x1), (3, .inl x3), (4, .inl (x4 + 1))] [] h := (EX_at bk_Mod_numbers_83 _ _ _).trans rfl
theorem bk_Mod_numbers_89 : blk 288 89 = some (((cd_Mod_numbers.lookup 89).getD ([], 0, []))) := rfl
theorem Mod_numbers_89 (d : Nat) (h : Hp) : EX d 288 89 [] [] h = some (.inl 0, h) := (EX_at bk_Mod_numbers_89 _ _ _).trans rfl
/-! cut(JI)J of HookOverModel: method 292 -/
theorem bk_Mod_cut_0 : blk 292 0 = some (((cd_Mod_cut.lookup 0).getD ([], 0, []))) := rfl
theorem Mod_cut_0 (d : Nat) (y0 : Int) (x2 : Int) (h : Hp) : EX d 292 0 [(0, .inr (.inl y0)), (2, .inl x2)] [] h = if (wr x2) = 0 then EX d 292 4 [(0, .inr (.inl y0))] [] h else EX d 292 11 [(0, .inr (.inl y0)), (2, .inl x2)] [] h := (EX_at bk_Mod_cut_0 _ _ _).trans rfl
theorem bk_Mod_cut_4 : blk 292 4 = some (((cd_Mod_cut.lookup 4).getD ([], 0, []))) := rfl
theorem Mod_cut_4 (d : Nat) (y0 : Int) (h : Hp) : EX d 292 4 [(0, .inr (.inl y0))] [] h = EX d 292 35 [] [.inr (.inl (wr (bI2b y0)))] h := (EX_at bk_Mod_cut_4 _ _ _).trans rfl
theorem bk_Mod_cut_11 : blk 292 11 = some (((cd_Mod_cut.lookup 11).getD ([], 0, []))) := rfl
theorem Mod_cut_11 (d : Nat) (y0 : Int) (x2 : Int) (h : Hp) : EX d 292 11 [(0, .inr (.inl y0)), (2, .inl x2)] [] h = if (wr x2) = 1 then EX d 292 16 [(0, .inr (.inl y0))] [] h else EX d 292 23 [(0, .inr (.inl y0)), (2, .inl x2)] [] h := (EX_at bk_Mod_cut_11 _ _ _).trans rfl
theorem bk_Mod_cut_16 : blk 292 16 = some (((cd_Mod_cut.lookup 16).getD ([], 0, []))) := rfl
theorem Mod_cut_16 (d : Nat) (y0 : Int) (h : Hp) : EX d 292 16 [(0, .inr (.inl y0))] [] h = EX d 292 35 [] [.inr (.inl (wr (bI2s y0)))] h := (EX_at bk_Mod_cut_16 _ _ _).trans rfl
theorem bk_Mod_cut_23 : blk 292 23 = some (((cd_Mod_cut.lookup 23).getD ([], 0, []))) := rfl
theorem Mod_cut_23 (d : Nat) (y0 : Int) (x2 : Int) (h : Hp) : EX d 292 23 [(0, .inr (.inl y0)), (2, .inl x2)] [] h = if (wr x2) = 2 then EX d 292 28 [(0, .inr (.inl y0))] [] h else EX d 292 34 [(0, .inr (.inl y0))] [] h := (EX_at bk_Mod_cut_23 _ _ _).trans rfl
theorem bk_Mod_cut_28 : blk 292 28 = some (((cd_Mod_cut.lookup 28).getD ([], 0, []))) := rfl
theorem Mod_cut_28 (d : Nat) (y0 : Int) (h : Hp) : EX d 292 28 [(0, .inr (.inl y0))] [] h = EX d 292 35 [] [.inr (.inl (wr y0))] h := (EX_at bk_Mod_cut_28 _ _ _).trans rfl
theorem bk_Mod_cut_34 : blk 292 34 = some (((cd_Mod_cut.lookup 34).getD ([], 0, []))) := rfl
theorem Mod_cut_34 (d : Nat) (y0 : Int) (h : Hp) : EX d 292 34 [(0, .inr (.inl y0))] [] h = EX d 292 35 [] [.inr (.inl y0)] h := (EX_at bk_Mod_cut_34 _ _ _).trans rfl
theorem bk_Mod_cut_35 : blk 292 35 = some (((cd_Mod_cut.lookup 35).getD ([], 0, []))) := rfl
theorem Mod_cut_35 (d : Nat) (t0 : Int) (h : Hp) : EX d 292 35 [] [.inr (.inl t0)] h = some (.inr (.inl t0), h) := (EX_at bk_Mod_cut_35 _ _ _).trans rfl
/-! write(IIJ)J of HookOverModel: method 293 -/
theorem bk_Mod_write_0 : blk 293 0 = some (((cd_Mod_write.lookup 0).getD ([], 0, []))) := rfl
theorem Mod_write_0 (d : Nat) (a0 : Nat) (x1 : Int) (x2 : Int) (y3 : Int) (h : Hp) : EX d 293 0 [(0, .inr (.inr a0)), (1, .inl x1), (2, .inl x2), (3, .inr (.inl y3))] [] h = if sK h a0 = 11 then EX d 293 5 [(0, .inr (.inr a0)), (1, .inl x1), (2, .inl x2), (3, .inr (.inl y3))] [] (pI h a0 0 0) else none := (EX_at bk_Mod_write_0 _ _ _).trans rfl
theorem bk_Mod_write_5 : blk 293 5 = some (((cd_Mod_write.lookup 5).getD ([], 0, []))) := rfl
theorem Mod_write_5 (d : Nat) (a0 : Nat) (x1 : Int) (x2 : Int) (y3 : Int) (h : Hp) : EX d 293 5 [(0, .inr (.inr a0)), (1, .inl x1), (2, .inl x2), (3, .inr (.inl y3))] [] h = if sK h a0 = 11 then bak (EX d 293) 10 [(0, .inr (.inr a0)), (1, .inl x1), (2, .inl x2), (3, .inr (.inl y3))] [] false (cal d 164 [.inr (.inr a0), .inl x1] h) else none := (EX_at bk_Mod_write_5 _ _ _).trans rfl
theorem bk_Mod_write_10 : blk 293 10 = some (((cd_Mod_write.lookup 10).getD ([], 0, []))) := rfl
theorem Mod_write_10 (d : Nat) (a0 : Nat) (x1 : Int) (x2 : Int) (y3 : Int) (s0 : Int) (h : Hp) : EX d 293 10 [(0, .inr (.inr a0)), (1, .inl x1), (2, .inl x2), (3, .inr (.inl y3))] [.inl s0] h = if (wr s0) = 0 then EX d 293 21 [(0, .inr (.inr a0)), (1, .inl x1), (2, .inl x2), (3, .inr (.inl y3))] [] h else EX d 293 17 [(5, .inl s0)] [] h := (EX_at bk_Mod_write_10 _ _ _).trans rfl
theorem bk_Mod_write_17 : blk 293 17 = some (((cd_Mod_write.lookup 17).getD ([], 0, []))) := rfl
theorem Mod_write_17 (d : Nat) (x5 : Int) (h : Hp) : EX d 293 17 [(5, .inl x5)] [] h = some (.inr (.inl (wr x5)), h) := (EX_at bk_Mod_write_17 _ _ _).trans rfl
theorem bk_Mod_write_21 : blk 293 21 = some (((cd_Mod_write.lookup 21).getD ([], 0, []))) := rfl
theorem Mod_write_21 (d : Nat) (a0 : Nat) (x1 : Int) (x2 : Int) (y3 : Int) (h : Hp) : EX d 293 21 [(0, .inr (.inr a0)), (1, .inl x1), (2, .inl x2), (3, .inr (.inl y3))] [] h = if sK h a0 = 11 then if okx h (hR h a0 34) 20 x1 then bak (EX d 293) 36 [(0, .inr (.inr a0)), (1, .inl x1), (2, .inl x2), (3, .inr (.inl y3))] [] false (cal d 73 [.inr (.inl (wr x2)), .inr (.inl 0), .inr (.inl (wr ((hI h (hR h a0 34) (ix x1)) - 1)))] h) else none else none := (EX_at bk_Mod_write_21 _ _ _).trans rfl
theorem bk_Mod_write_36 : blk 293 36 = some (((cd_Mod_write.lookup 36).getD ([], 0, []))) := rfl
theorem Mod_write_36 (d : Nat) (a0 : Nat) (x1 : Int) (x2 : Int) (y3 : Int) (s0 : Int) (h : Hp) : EX d 293 36 [(0, .inr (.inr a0)), (1, .inl x1), (2, .inl x2), (3, .inr (.inl y3))] [.inl s0] h = if (wr s0) = 0 then EX d 293 39 [] [] h else EX d 293 43 [(0, .inr (.inr a0)), (1, .inl x1), (2, .inl x2), (3, .inr (.inl y3))] [] h := (EX_at bk_Mod_write_36 _ _ _).trans rfl
theorem bk_Mod_write_39 : blk 293 39 = some (((cd_Mod_write.lookup 39).getD ([], 0, []))) := rfl
theorem Mod_write_39 (d : Nat) (h : Hp) : EX d 293 39 [] [] h = some (.inr (.inl (-7)), h) := (EX_at bk_Mod_write_39 _ _ _).trans rfl
theorem bk_Mod_write_43 : blk 293 43 = some (((cd_Mod_write.lookup 43).getD ([], 0, []))) := rfl
theorem Mod_write_43 (d : Nat) (a0 : Nat) (x1 : Int) (x2 : Int) (y3 : Int) (h : Hp) : EX d 293 43 [(0, .inr (.inr a0)), (1, .inl x1), (2, .inl x2), (3, .inr (.inl y3))] [] h = if sK h a0 = 11 then if sK h a0 = 11 then if okx h (hR h a0 33) 20 x1 then bak (EX d 293) 63 [(0, .inr (.inr a0)), (1, .inl x1), (2, .inl x2)] [.inl ((40 * x1) + x2), .inr (.inr (hR h a0 35))] false (cal d 292 [.inr (.inl y3), .inl (hI h (hR h a0 33) (ix x1))] h) else none else none else none := (EX_at bk_Mod_write_43 _ _ _).trans rfl
theorem bk_Mod_write_63 : blk 293 63 = some (((cd_Mod_write.lookup 63).getD ([], 0, []))) := rfl
theorem Mod_write_63 (d : Nat) (a0 : Nat) (x1 : Int) (x2 : Int) (r0 : Nat) (s1 : Int) (t2 : Int) (h : Hp) : EX d 293 63 [(0, .inr (.inr a0)), (1, .inl x1), (2, .inl x2)] [.inr (.inl t2), .inl s1, .inr (.inr r0)] h = if okx h r0 21 s1 then EX d 293 64 [(0, .inr (.inr a0)), (1, .inl x1), (2, .inl x2)] [] (pL h r0 (ix s1) t2) else none := (EX_at bk_Mod_write_63 _ _ _).trans rfl
theorem bk_Mod_write_64 : blk 293 64 = some (((cd_Mod_write.lookup 64).getD ([], 0, []))) := rfl
theorem Mod_write_64 (d : Nat) (a0 : Nat) (x1 : Int) (x2 : Int) (h : Hp) : EX d 293 64 [(0, .inr (.inr a0)), (1, .inl x1), (2, .inl x2)] [] h = if sK h a0 = 11 then if okx h (hR h a0 35) 21 ((40 * x1) + x2) then some (.inr (.inl (hL h (hR h a0 35) (ix ((40 * x1) + x2)))), h) else none else none := (EX_at bk_Mod_write_64 _ _ _).trans rfl
/-! sagOver(I)I of HookOverModel: method 296 -/
theorem bk_Mod_sagOver_0 : blk 296 0 = some (((cd_Mod_sagOver.lookup 0).getD ([], 0, []))) := rfl
theorem Mod_sagOver_0 (d : Nat) (a0 : Nat) (x1 : Int) (h : Hp) : EX d 296 0 [(0, .inr (.inr a0)), (1, .inl x1)] [] h = EX d 296 2 [(0, .inr (.inr a0)), (1, .inl x1), (2, .inl 0)] [] h := (EX_at bk_Mod_sagOver_0 _ _ _).trans rfl
theorem bk_Mod_sagOver_2 : blk 296 2 = some (((cd_Mod_sagOver.lookup 2).getD ([], 0, []))) := rfl
theorem Mod_sagOver_2 (d : Nat) (a0 : Nat) (x1 : Int) (x2 : Int) (h : Hp) : EX d 296 2 [(0, .inr (.inr a0)), (1, .inl x1), (2, .inl x2)] [] h = if sK h a0 = 11 then if okx h (hR h a0 1) 20 1 then if (wr x2) < (wr (hI h (hR h a0 1) 1)) then EX d 296 12 [(0, .inr (.inr a0)), (1, .inl x1), (2, .inl x2)] [] h else EX d 296 74 [] [] h else none else none := (EX_at bk_Mod_sagOver_2 _ _ _).trans rfl
theorem bk_Mod_sagOver_12 : blk 296 12 = some (((cd_Mod_sagOver.lookup 12).getD ([], 0, []))) := rfl
theorem Mod_sagOver_12 (d : Nat) (a0 : Nat) (x1 : Int) (x2 : Int) (h : Hp) : EX d 296 12 [(0, .inr (.inr a0)), (1, .inl x1), (2, .inl x2)] [] h = if sK h a0 = 11 then bak (EX d 296) 17 [(0, .inr (.inr a0)), (1, .inl x1), (2, .inl x2)] [] false (cal d 111 [.inr (.inr a0), .inl x2] h) else none := (EX_at bk_Mod_sagOver_12 _ _ _).trans rfl
theorem bk_Mod_sagOver_17 : blk 296 17 = some (((cd_Mod_sagOver.lookup 17).getD ([], 0, []))) := rfl
theorem Mod_sagOver_17 (d : Nat) (a0 : Nat) (x1 : Int) (x2 : Int) (s0 : Int) (h : Hp) : EX d 296 17 [(0, .inr (.inr a0)), (1, .inl x1), (2, .inl x2)] [.inl s0] h = if sK h a0 = 11 then if okx h (hR h a0 1) 20 (61 + x2) then if (wr (hI h (hR h a0 1) (ix (61 + x2)))) = (-1) then EX d 296 68 [(0, .inr (.inr a0)), (1, .inl x1), (2, .inl x2)] [] h else EX d 296 31 [(0, .inr (.inr a0)), (1, .inl x1), (2, .inl x2), (3, .inl s0)] [] h else none else none := (EX_at bk_Mod_sagOver_17 _ _ _).trans rfl
theorem bk_Mod_sagOver_31 : blk 296 31 = some (((cd_Mod_sagOver.lookup 31).getD ([], 0, []))) := rfl
theorem Mod_sagOver_31 (d : Nat) (a0 : Nat) (x1 : Int) (x2 : Int) (x3 : Int) (h : Hp) : EX d 296 31 [(0, .inr (.inr a0)), (1, .inl x1), (2, .inl x2), (3, .inl x3)] [] h = if sK h a0 = 11 then if okx h (hR h a0 1) 20 (61 + x2) then if (wr x1) < (wr (hI h (hR h a0 1) (ix (61 + x2)))) then EX d 296 68 [(0, .inr (.inr a0)), (1, .inl x1), (2, .inl x2)] [] h else EX d 296 44 [(0, .inr (.inr a0)), (1, .inl x1), (2, .inl x2), (3, .inl x3)] [] h else none else none := (EX_at bk_Mod_sagOver_31 _ _ _).trans rfl
theorem bk_Mod_sagOver_44 : blk 296 44 = some (((cd_Mod_sagOver.lookup 44).getD ([], 0, []))) := rfl
theorem Mod_sagOver_44 (d : Nat) (a0 : Nat) (x1 : Int) (x2 : Int) (x3 : Int) (h : Hp) : EX d 296 44 [(0, .inr (.inr a0)), (1, .inl x1), (2, .inl x2), (3, .inl x3)] [] h = if (wr x3) = (-1) then EX d 296 68 [(0, .inr (.inr a0)), (1, .inl x1), (2, .inl x2)] [] h else EX d 296 49 [(0, .inr (.inr a0)), (1, .inl x1), (2, .inl x2), (3, .inl x3)] [] h := (EX_at bk_Mod_sagOver_44 _ _ _).trans rfl
theorem bk_Mod_sagOver_49 : blk 296 49 = some (((cd_Mod_sagOver.lookup 49).getD ([], 0, []))) := rfl
theorem Mod_sagOver_49 (d : Nat) (a0 : Nat) (x1 : Int) (x2 : Int) (x3 : Int) (h : Hp) : EX d 296 49 [(0, .inr (.inr a0)), (1, .inl x1), (2, .inl x2), (3, .inl x3)] [] h = if sK h a0 = 11 then if okx h (hR h a0 1) 20 (61 + x3) then if (wr x1) < (wr (hI h (hR h a0 1) (ix (61 + x3)))) then EX d 296 62 [(0, .inr (.inr a0)), (2, .inl x2)] [] h else EX d 296 68 [(0, .inr (.inr a0)), (1, .inl x1), (2, .inl x2)] [] h else none else none := (EX_at bk_Mod_sagOver_49 _ _ _).trans rfl
theorem bk_Mod_sagOver_62 : blk 296 62 = some (((cd_Mod_sagOver.lookup 62).getD ([], 0, []))) := rfl
theorem Mod_sagOver_62 (d : Nat) (a0 : Nat) (x2 : Int) (h : Hp) : EX d 296 62 [(0, .inr (.inr a0)), (2, .inl x2)] [] h = if sK h a0 = 11 then bak (EX d 296) 67 [] [] false (cal d 112 [.inr (.inr a0), .inl x2] h) else none := (EX_at bk_Mod_sagOver_62 _ _ _).trans rfl
theorem bk_Mod_sagOver_67 : blk 296 67 = some (((cd_Mod_sagOver.lookup 67).getD ([], 0, []))) := rfl
theorem Mod_sagOver_67 (d : Nat) (s0 : Int) (h : Hp) : EX d 296 67 [] [.inl s0] h = some (.inl s0, h) := (EX_at bk_Mod_sagOver_67 _ _ _).trans rfl
theorem bk_Mod_sagOver_68 : blk 296 68 = some (((cd_Mod_sagOver.lookup 68).getD ([], 0, []))) := rfl
theorem Mod_sagOver_68 (d : Nat) (a0 : Nat) (x1 : Int) (x2 : Int) (h : Hp) : EX d 296 68 [(0, .inr (.inr a0)), (1, .inl x1), (2, .inl x2)] [] h = EX d 296 2 [(0, .inr (.inr a0)), (1, .inl x1), (2, .inl (x2 + 1))] [] h := (EX_at bk_Mod_sagOver_68 _ _ _).trans rfl
theorem bk_Mod_sagOver_74 : blk 296 74 = some (((cd_Mod_sagOver.lookup 74).getD ([], 0, []))) := rfl
theorem Mod_sagOver_74 (d : Nat) (h : Hp) : EX d 296 74 [] [] h = some (.inl (-2), h) := (EX_at bk_Mod_sagOver_74 _ _ _).trans rfl
/-! copy(I)I of HookOverModel: method 297 -/
theorem bk_Mod_copy_0 : blk 297 0 = some (((cd_Mod_copy.lookup 0).getD ([], 0, []))) := rfl
theorem Mod_copy_0 (d : Nat) (a0 : Nat) (x1 : Int) (h : Hp) : EX d 297 0 [(0, .inr (.inr a0)), (1, .inl x1)] [] h = if sK h a0 = 11 then EX d 297 5 [(0, .inr (.inr a0)), (1, .inl x1)] [] (pI h a0 0 0) else none := (EX_at bk_Mod_copy_0 _ _ _).trans rfl
theorem bk_Mod_copy_5 : blk 297 5 = some (((cd_Mod_copy.lookup 5).getD ([], 0, []))) := rfl
theorem Mod_copy_5 (d : Nat) (a0 : Nat) (x1 : Int) (h : Hp) : EX d 297 5 [(0, .inr (.inr a0)), (1, .inl x1)] [] h = if sK h a0 = 11 then bak (EX d 297) 10 [(0, .inr (.inr a0)), (1, .inl x1)] [] false (cal d 164 [.inr (.inr a0), .inl x1] h) else none := (EX_at bk_Mod_copy_5 _ _ _).trans rfl
theorem bk_Mod_copy_10 : blk 297 10 = some (((cd_Mod_copy.lookup 10).getD ([], 0, []))) := rfl
theorem Mod_copy_10 (d : Nat) (a0 : Nat) (x1 : Int) (s0 : Int) (h : Hp) : EX d 297 10 [(0, .inr (.inr a0)), (1, .inl x1)] [.inl s0] h = if (wr s0) = 0 then EX d 297 17 [(0, .inr (.inr a0)), (1, .inl x1)] [] h else EX d 297 15 [(2, .inl s0)] [] h := (EX_at bk_Mod_copy_10 _ _ _).trans rfl
theorem bk_Mod_copy_15 : blk 297 15 = some (((cd_Mod_copy.lookup 15).getD ([], 0, []))) := rfl
theorem Mod_copy_15 (d : Nat) (x2 : Int) (h : Hp) : EX d 297 15 [(2, .inl x2)] [] h = some (.inl x2, h) := (EX_at bk_Mod_copy_15 _ _ _).trans rfl
theorem bk_Mod_copy_17 : blk 297 17 = some (((cd_Mod_copy.lookup 17).getD ([], 0, []))) := rfl
theorem Mod_copy_17 (d : Nat) (a0 : Nat) (x1 : Int) (h : Hp) : EX d 297 17 [(0, .inr (.inr a0)), (1, .inl x1)] [] h = if sK h a0 = 11 then if okx h (hR h a0 1) 20 2 then if (wr (hI h (hR h a0 1) 2)) = 0 then EX d 297 26 [(0, .inr (.inr a0)), (1, .inl x1)] [] h else EX d 297 30 [(0, .inr (.inr a0)), (1, .inl x1)] [] h else none else none := (EX_at bk_Mod_copy_17 _ _ _).trans rfl
theorem bk_Mod_copy_26 : blk 297 26 = some (((cd_Mod_copy.lookup 26).getD ([], 0, []))) := rfl
theorem Mod_copy_26 (d : Nat) (a0 : Nat) (x1 : Int) (h : Hp) : EX d 297 26 [(0, .inr (.inr a0)), (1, .inl x1)] [] h = EX d 297 38 [(0, .inr (.inr a0)), (1, .inl x1)] [.inl 0] h := (EX_at bk_Mod_copy_26 _ _ _).trans rfl
theorem bk_Mod_copy_30 : blk 297 30 = some (((cd_Mod_copy.lookup 30).getD ([], 0, []))) := rfl
theorem Mod_copy_30 (d : Nat) (a0 : Nat) (x1 : Int) (h : Hp) : EX d 297 30 [(0, .inr (.inr a0)), (1, .inl x1)] [] h = if sK h a0 = 11 then if okx h (hR h a0 1) 20 2 then EX d 297 38 [(0, .inr (.inr a0)), (1, .inl x1)] [.inl ((hI h (hR h a0 1) 2) - 1)] h else none else none := (EX_at bk_Mod_copy_30 _ _ _).trans rfl
theorem bk_Mod_copy_38 : blk 297 38 = some (((cd_Mod_copy.lookup 38).getD ([], 0, []))) := rfl
theorem Mod_copy_38 (d : Nat) (a0 : Nat) (x1 : Int) (s0 : Int) (h : Hp) : EX d 297 38 [(0, .inr (.inr a0)), (1, .inl x1)] [.inl s0] h = if sK h a0 = 11 then if okx h (hR h a0 34) 20 x1 then if (wr s0) < (wr (hI h (hR h a0 34) (ix x1))) then EX d 297 49 [(0, .inr (.inr a0)), (1, .inl x1), (3, .inl s0)] [] h else EX d 297 53 [(0, .inr (.inr a0)), (1, .inl x1)] [] h else none else none := (EX_at bk_Mod_copy_38 _ _ _).trans rfl
theorem bk_Mod_copy_49 : blk 297 49 = some (((cd_Mod_copy.lookup 49).getD ([], 0, []))) := rfl
theorem Mod_copy_49 (d : Nat) (a0 : Nat) (x1 : Int) (x3 : Int) (h : Hp) : EX d 297 49 [(0, .inr (.inr a0)), (1, .inl x1), (3, .inl x3)] [] h = EX d 297 59 [(0, .inr (.inr a0)), (1, .inl x1)] [.inl x3] h := (EX_at bk_Mod_copy_49 _ _ _).trans rfl
theorem bk_Mod_copy_53 : blk 297 53 = some (((cd_Mod_copy.lookup 53).getD ([], 0, []))) := rfl
theorem Mod_copy_53 (d : Nat) (a0 : Nat) (x1 : Int) (h : Hp) : EX d 297 53 [(0, .inr (.inr a0)), (1, .inl x1)] [] h = if sK h a0 = 11 then if okx h (hR h a0 34) 20 x1 then EX d 297 59 [(0, .inr (.inr a0)), (1, .inl x1)] [.inl (hI h (hR h a0 34) (ix x1))] h else none else none := (EX_at bk_Mod_copy_53 _ _ _).trans rfl
theorem bk_Mod_copy_59 : blk 297 59 = some (((cd_Mod_copy.lookup 59).getD ([], 0, []))) := rfl
theorem Mod_copy_59 (d : Nat) (a0 : Nat) (x1 : Int) (s0 : Int) (h : Hp) : EX d 297 59 [(0, .inr (.inr a0)), (1, .inl x1)] [.inl s0] h = EX d 297 64 [(0, .inr (.inr a0)), (1, .inl x1), (4, .inl s0), (5, .inl 0)] [] h := (EX_at bk_Mod_copy_59 _ _ _).trans rfl
theorem bk_Mod_copy_64 : blk 297 64 = some (((cd_Mod_copy.lookup 64).getD ([], 0, []))) := rfl
theorem Mod_copy_64 (d : Nat) (a0 : Nat) (x1 : Int) (x4 : Int) (x5 : Int) (h : Hp) : EX d 297 64 [(0, .inr (.inr a0)), (1, .inl x1), (4, .inl x4), (5, .inl x5)] [] h = if (wr x5) < (wr x4) then EX d 297 71 [(0, .inr (.inr a0)), (1, .inl x1), (4, .inl x4), (5, .inl x5)] [] h else EX d 297 105 [(4, .inl x4)] [] h := (EX_at bk_Mod_copy_64 _ _ _).trans rfl
theorem bk_Mod_copy_71 : blk 297 71 = some (((cd_Mod_copy.lookup 71).getD ([], 0, []))) := rfl
theorem Mod_copy_71 (d : Nat) (a0 : Nat) (x1 : Int) (x4 : Int) (x5 : Int) (h : Hp) : EX d 297 71 [(0, .inr (.inr a0)), (1, .inl x1), (4, .inl x4), (5, .inl x5)] [] h = if sK h a0 = 11 then if sK h a0 = 11 then bak (EX d 297) 88 [(0, .inr (.inr a0)), (1, .inl x1), (4, .inl x4), (5, .inl x5)] [.inl ((40 * x1) + x5), .inr (.inr (hR h a0 35))] false (cal d 296 [.inr (.inr a0), .inl x5] h) else none else none := (EX_at bk_Mod_copy_71 _ _ _).trans rfl
theorem bk_Mod_copy_88 : blk 297 88 = some (((cd_Mod_copy.lookup 88).getD ([], 0, []))) := rfl
theorem Mod_copy_88 (d : Nat) (a0 : Nat) (x1 : Int) (x4 : Int) (x5 : Int) (r0 : Nat) (s1 : Int) (s2 : Int) (h : Hp) : EX d 297 88 [(0, .inr (.inr a0)), (1, .inl x1), (4, .inl x4), (5, .inl x5)] [.inl s2, .inl s1, .inr (.inr r0)] h = if sK h a0 = 11 then if okx h (hR h a0 33) 20 x1 then bak (EX d 297) 98 [(0, .inr (.inr a0)), (1, .inl x1), (4, .inl x4), (5, .inl x5)] [.inl s1, .inr (.inr r0)] false (cal d 292 [.inr (.inl (wr s2)), .inl (hI h (hR h a0 33) (ix x1))] h) else none else none := (EX_at bk_Mod_copy_88 _ _ _).trans rfl
theorem bk_Mod_copy_98 : blk 297 98 = some (((cd_Mod_copy.lookup 98).getD ([], 0, []))) := rfl
theorem Mod_copy_98 (d : Nat) (a0 : Nat) (x1 : Int) (x4 : Int) (x5 : Int) (r0 : Nat) (s1 : Int) (t2 : Int) (h : Hp) : EX d 297 98 [(0, .inr (.inr a0)), (1, .inl x1), (4, .inl x4), (5, .inl x5)] [.inr (.inl t2), .inl s1, .inr (.inr r0)] h = if okx h r0 21 s1 then EX d 297 99 [(0, .inr (.inr a0)), (1, .inl x1), (4, .inl x4), (5, .inl x5)] [] (pL h r0 (ix s1) t2) else none := (EX_at bk_Mod_copy_98 _ _ _).trans rfl
theorem bk_Mod_copy_99 : blk 297 99 = some (((cd_Mod_copy.lookup 99).getD ([], 0, []))) := rfl
theorem Mod_copy_99 (d : Nat) (a0 : Nat) (x1 : Int) (x4 : Int) (x5 : Int) (h : Hp) : EX d 297 99 [(0, .inr (.inr a0)), (1, .inl x1), (4, .inl x4), (5, .inl x5)] [] h = EX d 297 64 [(0, .inr (.inr a0)), (1, .inl x1), (4, .inl x4), (5, .inl (x5 + 1))] [] h := (EX_at bk_Mod_copy_99 _ _ _).trans rfl
theorem bk_Mod_copy_105 : blk 297 105 = some (((cd_Mod_copy.lookup 105).getD ([], 0, []))) := rfl
theorem Mod_copy_105 (d : Nat) (x4 : Int) (h : Hp) : EX d 297 105 [(4, .inl x4)] [] h = some (.inl x4, h) := (EX_at bk_Mod_copy_105 _ _ _).trans rfl
/-! image(I)I of HookOverModel: method 300 -/
theorem bk_Mod_image_0 : blk 300 0 = some (((cd_Mod_image.lookup 0).getD ([], 0, []))) := rfl
theorem Mod_image_0 (d : Nat) (a0 : Nat) (x1 : Int) (h : Hp) : EX d 300 0 [(0, .inr (.inr a0)), (1, .inl x1)] [] h = if sK h a0 = 11 then EX d 300 5 [(0, .inr (.inr a0)), (1, .inl x1)] [] (pI h a0 0 0) else none := (EX_at bk_Mod_image_0 _ _ _).trans rfl
theorem bk_Mod_image_5 : blk 300 5 = some (((cd_Mod_image.lookup 5).getD ([], 0, []))) := rfl
theorem Mod_image_5 (d : Nat) (a0 : Nat) (x1 : Int) (h : Hp) : EX d 300 5 [(0, .inr (.inr a0)), (1, .inl x1)] [] h = bak (EX d 300) 12 [(0, .inr (.inr a0)), (1, .inl x1)] [] false (cal d 73 [.inr (.inl (wr x1)), .inr (.inl 0), .inr (.inl 1)] h) := (EX_at bk_Mod_image_5 _ _ _).trans rfl
theorem bk_Mod_image_12 : blk 300 12 = some (((cd_Mod_image.lookup 12).getD ([], 0, []))) := rfl
theorem Mod_image_12 (d : Nat) (a0 : Nat) (x1 : Int) (s0 : Int) (h : Hp) : EX d 300 12 [(0, .inr (.inr a0)), (1, .inl x1)] [.inl s0] h = if (wr s0) = 0 then EX d 300 15 [] [] h else EX d 300 18 [(0, .inr (.inr a0)), (1, .inl x1)] [] h := (EX_at bk_Mod_image_12 _ _ _).trans rfl
theorem bk_Mod_image_15 : blk 300 15 = some (((cd_Mod_image.lookup 15).getD ([], 0, []))) := rfl
theorem Mod_image_15 (d : Nat) (h : Hp) : EX d 300 15 [] [] h = some (.inl (-2), h) := (EX_at bk_Mod_image_15 _ _ _).trans rfl
theorem bk_Mod_image_18 : blk 300 18 = some (((cd_Mod_image.lookup 18).getD ([], 0, []))) := rfl
theorem Mod_image_18 (d : Nat) (a0 : Nat) (x1 : Int) (h : Hp) : EX d 300 18 [(0, .inr (.inr a0)), (1, .inl x1)] [] h = EX d 300 20 [(0, .inr (.inr a0)), (1, .inl x1), (2, .inl 0)] [] h := (EX_at bk_Mod_image_18 _ _ _).trans rfl
theorem bk_Mod_image_20 : blk 300 20 = some (((cd_Mod_image.lookup 20).getD ([], 0, []))) := rfl
theorem Mod_image_20 (d : Nat) (a0 : Nat) (x1 : Int) (x2 : Int) (h : Hp) : EX d 300 20 [(0, .inr (.inr a0)), (1, .inl x1), (2, .inl x2)] [] h = if (wr x2) < 1115 then EX d 300 27 [(0, .inr (.inr a0)), (1, .inl x1), (2, .inl x2)] [] h else EX d 300 53 [(0, .inr (.inr a0)), (1, .inl x1)] [] h := (EX_at bk_Mod_image_20 _ _ _).trans rfl
theorem bk_Mod_image_27 : blk 300 27 = some (((cd_Mod_image.lookup 27).getD ([], 0, []))) := rfl
theorem Mod_image_27 (d : Nat) (a0 : Nat) (x1 : Int) (x2 : Int) (h : Hp) : EX d 300 27 [(0, .inr (.inr a0)), (1, .inl x1), (2, .inl x2)] [] h = if sK h a0 = 11 then if sK h a0 = 11 then if okx h (hR h a0 1) 20 x2 then if okx h (hR h a0 1) 20 ((1115 * (x1 + 1)) + x2) then EX d 300 47 [(0, .inr (.inr a0)), (1, .inl x1), (2, .inl x2)] [] (pI h (hR h a0 1) (ix ((1115 * (x1 + 1)) + x2)) (hI h (hR h a0 1) (ix x2))) else none else none else none else none := (EX_at bk_Mod_image_27 _ _ _).trans rfl
theorem bk_Mod_image_47 : blk 300 47 = some (((cd_Mod_image.lookup 47).getD ([], 0, []))) := rfl
theorem Mod_image_47 (d : Nat) (a0 : Nat) (x1 : Int) (x2 : Int) (h : Hp) : EX d 300 47 [(0, .inr (.inr a0)), (1, .inl x1), (2, .inl x2)] [] h = EX d 300 20 [(0, .inr (.inr a0)), (1, .inl x1), (2, .inl (x2 + 1))] [] h := (EX_at bk_Mod_image_47 _ _ _).trans rfl
theorem bk_Mod_image_53 : blk 300 53 = some (((cd_Mod_image.lookup 53).getD ([], 0, []))) := rfl
theorem Mod_image_53 (d : Nat) (a0 : Nat) (x1 : Int) (h : Hp) : EX d 300 53 [(0, .inr (.inr a0)), (1, .inl x1)] [] h = if sK h a0 = 11 then if (okx h (hR h a0 2) 23 x1 ∧ ((1 : Int) = 0 ∨ (1 : Int) = 1)) then EX d 300 60 [] [] (pI h (hR h a0 2) (ix x1) 1) else none else none := (EX_at bk_Mod_image_53 _ _ _).trans rfl
theorem bk_Mod_image_60 : blk 300 60 = some (((cd_Mod_image.lookup 60).getD ([], 0, []))) := rfl
theorem Mod_image_60 (d : Nat) (h : Hp) : EX d 300 60 [] [] h = some (.inl 0, h) := (EX_at bk_Mod_image_60 _ _ _).trans rfl
/-! restore(I)I of HookOverModel: method 302 -/
theorem bk_Mod_restore_0 : blk 302 0 = some (((cd_Mod_restore.lookup 0).getD ([], 0, []))) := rfl
theorem Mod_restore_0 (d : Nat) (a0 : Nat) (x1 : Int) (h : Hp) : EX d 302 0 [(0, .inr (.inr a0)), (1, .inl x1)] [] h = if sK h a0 = 11 then EX d 302 5 [(0, .inr (.inr a0)), (1, .inl x1)] [] (pI h a0 0 0) else none := (EX_at bk_Mod_restore_0 _ _ _).trans rfl
theorem bk_Mod_restore_5 : blk 302 5 = some (((cd_Mod_restore.lookup 5).getD ([], 0, []))) := rfl
theorem Mod_restore_5 (d : Nat) (a0 : Nat) (x1 : Int) (h : Hp) : EX d 302 5 [(0, .inr (.inr a0)), (1, .inl x1)] [] h = bak (EX d 302) 12 [(0, .inr (.inr a0)), (1, .inl x1)] [] false (cal d 73 [.inr (.inl (wr x1)), .inr (.inl 0), .inr (.inl 1)] h) := (EX_at bk_Mod_restore_5 _ _ _).trans rfl
theorem bk_Mod_restore_12 : blk 302 12 = some (((cd_Mod_restore.lookup 12).getD ([], 0, []))) := rfl
theorem Mod_restore_12 (d : Nat) (a0 : Nat) (x1 : Int) (s0 : Int) (h : Hp) : EX d 302 12 [(0, .inr (.inr a0)), (1, .inl x1)] [.inl s0] h = if (wr s0) = 0 then EX d 302 15 [] [] h else EX d 302 18 [(0, .inr (.inr a0)), (1, .inl x1)] [] h := (EX_at bk_Mod_restore_12 _ _ _).trans rfl
theorem bk_Mod_restore_15 : blk 302 15 = some (((cd_Mod_restore.lookup 15).getD ([], 0, []))) := rfl
theorem Mod_restore_15 (d : Nat) (h : Hp) : EX d 302 15 [] [] h = some (.inl (-2), h) := (EX_at bk_Mod_restore_15 _ _ _).trans rfl
theorem bk_Mod_restore_18 : blk 302 18 = some (((cd_Mod_restore.lookup 18).getD ([], 0, []))) := rfl
theorem Mod_restore_18 (d : Nat) (a0 : Nat) (x1 : Int) (h : Hp) : EX d 302 18 [(0, .inr (.inr a0)), (1, .inl x1)] [] h = if sK h a0 = 11 then if okx h (hR h a0 2) 23 x1 then if (wr (hI h (hR h a0 2) (ix x1))) = 0 then EX d 302 27 [] [] h else EX d 302 30 [(0, .inr (.inr a0)), (1, .inl x1)] [] h else none else none := (EX_at bk_Mod_restore_18 _ _ _).trans rfl
theorem bk_Mod_restore_27 : blk 302 27 = some (((cd_Mod_restore.lookup 27).getD ([], 0, []))) := rfl
theorem Mod_restore_27 (d : Nat) (h : Hp) : EX d 302 27 [] [] h = some (.inl (-5), h) := (EX_at bk_Mod_restore_27 _ _ _).trans rfl
theorem bk_Mod_restore_30 : blk 302 30 = some (((cd_Mod_restore.lookup 30).getD ([], 0, []))) := rfl
theorem Mod_restore_30 (d : Nat) (a0 : Nat) (x1 : Int) (h : Hp) : EX d 302 30 [(0, .inr (.inr a0)), (1, .inl x1)] [] h = EX d 302 32 [(0, .inr (.inr a0)), (1, .inl x1), (2, .inl 0)] [] h := (EX_at bk_Mod_restore_30 _ _ _).trans rfl
theorem bk_Mod_restore_32 : blk 302 32 = some (((cd_Mod_restore.lookup 32).getD ([], 0, []))) := rfl
theorem Mod_restore_32 (d : Nat) (a0 : Nat) (x1 : Int) (x2 : Int) (h : Hp) : EX d 302 32 [(0, .inr (.inr a0)), (1, .inl x1), (2, .inl x2)] [] h = if (wr x2) < 1115 then EX d 302 39 [(0, .inr (.inr a0)), (1, .inl x1), (2, .inl x2)] [] h else EX d 302 65 [(0, .inr (.inr a0))] [] h := (EX_at bk_Mod_restore_32 _ _ _).trans rfl
theorem bk_Mod_restore_39 : blk 302 39 = some (((cd_Mod_restore.lookup 39).getD ([], 0, []))) := rfl
theorem Mod_restore_39 (d : Nat) (a0 : Nat) (x1 : Int) (x2 : Int) (h : Hp) : EX d 302 39 [(0, .inr (.inr a0)), (1, .inl x1), (2, .inl x2)] [] h = if sK h a0 = 11 then if sK h a0 = 11 then if okx h (hR h a0 1) 20 ((1115 * (x1 + 1)) + x2) then if okx h (hR h a0 1) 20 x2 then EX d 302 59 [(0, .inr (.inr a0)), (1, .inl x1), (2, .inl x2)] [] (pI h (hR h a0 1) (ix x2) (hI h (hR h a0 1) (ix ((1115 * (x1 + 1)) + x2)))) else none else none else none else none := (EX_at bk_Mod_restore_39 _ _ _).trans rfl
theorem bk_Mod_restore_59 : blk 302 59 = some (((cd_Mod_restore.lookup 59).getD ([], 0, []))) := rfl
theorem Mod_restore_59 (d : Nat) (a0 : Nat) (x1 : Int) (x2 : Int) (h : Hp) : EX d 302 59 [(0, .inr (.inr a0)), (1, .inl x1), (2, .inl x2)] [] h = EX d 302 32 [(0, .inr (.inr a0)), (1, .inl x1), (2, .inl (x2 + 1))] [] h := (EX_at bk_Mod_restore_59 _ _ _).trans rfl
theorem bk_Mod_restore_65 : blk 302 65 = some (((cd_Mod_restore.lookup 65).getD ([], 0, []))) := rfl
theorem Mod_restore_65 (d : Nat) (a0 : Nat) (h : Hp) : EX d 302 65 [(0, .inr (.inr a0))] [] h = if sK h a0 = 11 then if okx h (hR h a0 1) 20 73 then EX d 302 73 [] [] (pI h (hR h a0 1) 73 0) else none else none := (EX_at bk_Mod_restore_65 _ _ _).trans rfl
theorem bk_Mod_restore_73 : blk 302 73 = some (((cd_Mod_restore.lookup 73).getD ([], 0, []))) := rfl
theorem Mod_restore_73 (d : Nat) (h : Hp) : EX d 302 73 [] [] h = some (.inl 0, h) := (EX_at bk_Mod_restore_73 _ _ _).trans rfl
/-! brokenMany()I of HookOverModel: method 305 -/
theorem bk_Mod_brokenMany_0 : blk 305 0 = some (((cd_Mod_brokenMany.lookup 0).getD ([], 0, []))) := rfl
theorem Mod_brokenMany_0 (d : Nat) (a0 : Nat) (h : Hp) : EX d 305 0 [(0, .inr (.inr a0))] [] h = EX d 305 4 [(0, .inr (.inr a0)), (1, .inl 0), (2, .inl 0)] [] h := (EX_at bk_Mod_brokenMany_0 _ _ _).trans rfl
theorem bk_Mod_brokenMany_4 : blk 305 4 = some (((cd_Mod_brokenMany.lookup 4).getD ([], 0, []))) := rfl
theorem Mod_brokenMany_4 (d : Nat) (a0 : Nat) (x1 : Int) (x2 : Int) (h : Hp) : EX d 305 4 [(0, .inr (.inr a0)), (1, .inl x1), (2, .inl x2)] [] h = if sK h a0 = 11 then if okx h (hR h a0 1) 20 2 then if (wr x2) < (wr (hI h (hR h a0 1) 2)) then EX d 305 14 [(0, .inr (.inr a0)), (1, .inl x1), (2, .inl x2)] [] h else EX d 305 43 [(1, .inl x1)] [] h else none else none := (EX_at bk_Mod_brokenMany_4 _ _ _).trans rfl
theorem bk_Mod_brokenMany_14 : blk 305 14 = some (((cd_Mod_brokenMany.lookup 14).getD ([], 0, []))) := rfl
theorem Mod_brokenMany_14 (d : Nat) (a0 : Nat) (x1 : Int) (x2 : Int) (h : Hp) : EX d 305 14 [(0, .inr (.inr a0)), (1, .inl x1), (2, .inl x2)] [] h = if sK h a0 = 11 then if okx h (hR h a0 1) 20 10 then bak (EX d 305) 27 [(0, .inr (.inr a0)), (2, .inl x2)] [.inl x1] false (cal d 98 [.inr (.inl (wr (hI h (hR h a0 1) 10))), .inl x2] h) else none else none := (EX_at bk_Mod_brokenMany_14 _ _ _).trans rfl
theorem bk_Mod_brokenMany_27 : blk 305 27 = some (((cd_Mod_brokenMany.lookup 27).getD ([], 0, []))) := rfl
theorem Mod_brokenMany_27 (d : Nat) (a0 : Nat) (x2 : Int) (s0 : Int) (s1 : Int) (h : Hp) : EX d 305 27 [(0, .inr (.inr a0)), (2, .inl x2)] [.inl s1, .inl s0] h = if (wr s1) = 0 then EX d 305 34 [(0, .inr (.inr a0)), (2, .inl x2)] [.inl s0] h else EX d 305 30 [(0, .inr (.inr a0)), (2, .inl x2)] [.inl s0] h := (EX_at bk_Mod_brokenMany_27 _ _ _).trans rfl
theorem bk_Mod_brokenMany_30 : blk 305 30 = some (((cd_Mod_brokenMany.lookup 30).getD ([], 0, []))) := rfl
theorem Mod_brokenMany_30 (d : Nat) (a0 : Nat) (x2 : Int) (s0 : Int) (h : Hp) : EX d 305 30 [(0, .inr (.inr a0)), (2, .inl x2)] [.inl s0] h = EX d 305 35 [(0, .inr (.inr a0)), (2, .inl x2)] [.inl 1, .inl s0] h := (EX_at bk_Mod_brokenMany_30 _ _ _).trans rfl
theorem bk_Mod_brokenMany_34 : blk 305 34 = some (((cd_Mod_brokenMany.lookup 34).getD ([], 0, []))) := rfl
theorem Mod_brokenMany_34 (d : Nat) (a0 : Nat) (x2 : Int) (s0 : Int) (h : Hp) : EX d 305 34 [(0, .inr (.inr a0)), (2, .inl x2)] [.inl s0] h = EX d 305 35 [(0, .inr (.inr a0)), (2, .inl x2)] [.inl 0, .inl s0] h := (EX_at bk_Mod_brokenMany_34 _ _ _).trans rfl
theorem bk_Mod_brokenMany_35 : blk 305 35 = some (((cd_Mod_brokenMany.lookup 35).getD ([], 0, []))) := rfl
theorem Mod_brokenMany_35 (d : Nat) (a0 : Nat) (x2 : Int) (s0 : Int) (s1 : Int) (h : Hp) : EX d 305 35 [(0, .inr (.inr a0)), (2, .inl x2)] [.inl s1, .inl s0] h = EX d 305 4 [(0, .inr (.inr a0)), (1, .inl (s0 + s1)), (2, .inl (x2 + 1))] [] h := (EX_at bk_Mod_brokenMany_35 _ _ _).trans rfl
theorem bk_Mod_brokenMany_43 : blk 305 43 = some (((cd_Mod_brokenMany.lookup 43).getD ([], 0, []))) := rfl
theorem Mod_brokenMany_43 (d : Nat) (x1 : Int) (h : Hp) : EX d 305 43 [(1, .inl x1)] [] h = some (.inl x1, h) := (EX_at bk_Mod_brokenMany_43 _ _ _).trans rfl
/-! count(I)I of HookOverModel: method 306 -/
theorem bk_Mod_count_0 : blk 306 0 = some (((cd_Mod_count.lookup 0).getD ([], 0, []))) := rfl
theorem Mod_count_0 (d : Nat) (a0 : Nat) (x1 : Int) (h : Hp) : EX d 306 0 [(0, .inr (.inr a0)), (1, .inl x1)] [] h = if sK h a0 = 11 then EX d 306 5 [(0, .inr (.inr a0)), (1, .inl x1)] [] (pI h a0 0 0) else none := (EX_at bk_Mod_count_0 _ _ _).trans rfl
theorem bk_Mod_count_5 : blk 306 5 = some (((cd_Mod_count.lookup 5).getD ([], 0, []))) := rfl
theorem Mod_count_5 (d : Nat) (a0 : Nat) (x1 : Int) (h : Hp) : EX d 306 5 [(0, .inr (.inr a0)), (1, .inl x1)] [] h = if (wr x1) = 0 then EX d 306 68 [(0, .inr (.inr a0))] [] h else if (wr x1) = 1 then EX d 306 75 [(0, .inr (.inr a0))] [] h else if (wr x1) = 2 then EX d 306 82 [(0, .inr (.inr a0))] [] h else if (wr x1) = 3 then EX d 306 87 [(0, .inr (.inr a0))] [] h else if (wr x1) = 4 then EX d 306 95 [(0, .inr (.inr a0))] [] h else if (wr x1) = 5 then EX d 306 103 [(0, .inr (.inr a0))] [] h else if (wr x1) = 6 then EX d 306 111 [(0, .inr (.inr a0))] [] h else if (wr x1) = 7 then EX d 306 118 [(0, .inr (.inr a0))] [] h else if (wr x1) = 8 then EX d 306 125 [(0, .inr (.inr a0))] [] h else if (wr x1) = 9 then EX d 306 132 [(0, .inr (.inr a0))] [] h else if (wr x1) = 10 then EX d 306 140 [(0, .inr (.inr a0))] [] h else if (wr x1) = 11 then EX d 306 145 [(0, .inr (.inr a0))] [] h else EX d 306 152 [(0, .inr (.inr a0))] [] h := (EX_at bk_Mod_count_5 _ _ _).trans rfl
theorem bk_Mod_count_68 : blk 306 68 = some (((cd_Mod_count.lookup 68).getD ([], 0, []))) := rfl
theorem Mod_count_68 (d : Nat) (a0 : Nat) (h : Hp) : EX d 306 68 [(0, .inr (.inr a0))] [] h = if sK h a0 = 11 then if okx h (hR h a0 1) 20 1 then some (.inl (hI h (hR h a0 1) 1), h) else none else none := (EX_at bk_Mod_count_68 _ _ _).trans rfl
theorem bk_Mod_count_75 : blk 306 75 = some (((cd_Mod_count.lookup 75).getD ([], 0, []))) := rfl
theorem Mod_count_75 (d : Nat) (a0 : Nat) (h : Hp) : EX d 306 75 [(0, .inr (.inr a0))] [] h = if sK h a0 = 11 then if okx h (hR h a0 1) 20 2 then some (.inl (hI h (hR h a0 1) 2), h) else none else none := (EX_at bk_Mod_count_75 _ _ _).trans rfl
theorem bk_Mod_count_82 : blk 306 82 = some (((cd_Mod_count.lookup 82).getD ([], 0, []))) := rfl
theorem Mod_count_82 (d : Nat) (a0 : Nat) (h : Hp) : EX d 306 82 [(0, .inr (.inr a0))] [] h = if sK h a0 = 11 then bak (EX d 306) 86 [] [] false (cal d 305 [.inr (.inr a0)] h) else none := (EX_at bk_Mod_count_82 _ _ _).trans rfl
theorem bk_Mod_count_86 : blk 306 86 = some (((cd_Mod_count.lookup 86).getD ([], 0, []))) := rfl
theorem Mod_count_86 (d : Nat) (s0 : Int) (h : Hp) : EX d 306 86 [] [.inl s0] h = some (.inl s0, h) := (EX_at bk_Mod_count_86 _ _ _).trans rfl
theorem bk_Mod_count_87 : blk 306 87 = some (((cd_Mod_count.lookup 87).getD ([], 0, []))) := rfl
theorem Mod_count_87 (d : Nat) (a0 : Nat) (h : Hp) : EX d 306 87 [(0, .inr (.inr a0))] [] h = if sK h a0 = 11 then if okx h (hR h a0 1) 20 60 then some (.inl (hI h (hR h a0 1) 60), h) else none else none := (EX_at bk_Mod_count_87 _ _ _).trans rfl
theorem bk_Mod_count_95 : blk 306 95 = some (((cd_Mod_count.lookup 95).getD ([], 0, []))) := rfl
theorem Mod_count_95 (d : Nat) (a0 : Nat) (h : Hp) : EX d 306 95 [(0, .inr (.inr a0))] [] h = if sK h a0 = 11 then if okx h (hR h a0 1) 20 59 then some (.inl (hI h (hR h a0 1) 59), h) else none else none := (EX_at bk_Mod_count_95 _ _ _).trans rfl
theorem bk_Mod_count_103 : blk 306 103 = some (((cd_Mod_count.lookup 103).getD ([], 0, []))) := rfl
theorem Mod_count_103 (d : Nat) (a0 : Nat) (h : Hp) : EX d 306 103 [(0, .inr (.inr a0))] [] h = if sK h a0 = 11 then if okx h (hR h a0 1) 20 73 then some (.inl (hI h (hR h a0 1) 73), h) else none else none := (EX_at bk_Mod_count_103 _ _ _).trans rfl
theorem bk_Mod_count_111 : blk 306 111 = some (((cd_Mod_count.lookup 111).getD ([], 0, []))) := rfl
theorem Mod_count_111 (d : Nat) (a0 : Nat) (h : Hp) : EX d 306 111 [(0, .inr (.inr a0))] [] h = if sK h a0 = 11 then if okx h (hR h a0 1) 20 3 then some (.inl (hI h (hR h a0 1) 3), h) else none else none := (EX_at bk_Mod_count_111 _ _ _).trans rfl
theorem bk_Mod_count_118 : blk 306 118 = some (((cd_Mod_count.lookup 118).getD ([], 0, []))) := rfl
theorem Mod_count_118 (d : Nat) (a0 : Nat) (h : Hp) : EX d 306 118 [(0, .inr (.inr a0))] [] h = if sK h a0 = 11 then if okx h (hR h a0 1) 20 4 then some (.inl (hI h (hR h a0 1) 4), h) else none else none := (EX_at bk_Mod_count_118 _ _ _).trans rfl
theorem bk_Mod_count_125 : blk 306 125 = some (((cd_Mod_count.lookup 125).getD ([], 0, []))) := rfl
theorem Mod_count_125 (d : Nat) (a0 : Nat) (h : Hp) : EX d 306 125 [(0, .inr (.inr a0))] [] h = if sK h a0 = 11 then if okx h (hR h a0 1) 20 5 then some (.inl (hI h (hR h a0 1) 5), h) else none else none := (EX_at bk_Mod_count_125 _ _ _).trans rfl
theorem bk_Mod_count_132 : blk 306 132 = some (((cd_Mod_count.lookup 132).getD ([], 0, []))) := rfl
theorem Mod_count_132 (d : Nat) (a0 : Nat) (h : Hp) : EX d 306 132 [(0, .inr (.inr a0))] [] h = if sK h a0 = 11 then if okx h (hR h a0 1) 20 6 then some (.inl (hI h (hR h a0 1) 6), h) else none else none := (EX_at bk_Mod_count_132 _ _ _).trans rfl
theorem bk_Mod_count_140 : blk 306 140 = some (((cd_Mod_count.lookup 140).getD ([], 0, []))) := rfl
theorem Mod_count_140 (d : Nat) (a0 : Nat) (h : Hp) : EX d 306 140 [(0, .inr (.inr a0))] [] h = if sK h a0 = 11 then some (.inl (hI h a0 5), h) else none := (EX_at bk_Mod_count_140 _ _ _).trans rfl
theorem bk_Mod_count_145 : blk 306 145 = some (((cd_Mod_count.lookup 145).getD ([], 0, []))) := rfl
theorem Mod_count_145 (d : Nat) (a0 : Nat) (h : Hp) : EX d 306 145 [(0, .inr (.inr a0))] [] h = if sK h a0 = 11 then if okx h (hR h a0 1) 20 0 then some (.inl (hI h (hR h a0 1) 0), h) else none else none := (EX_at bk_Mod_count_145 _ _ _).trans rfl
theorem bk_Mod_count_152 : blk 306 152 = some (((cd_Mod_count.lookup 152).getD ([], 0, []))) := rfl
theorem Mod_count_152 (d : Nat) (a0 : Nat) (h : Hp) : EX d 306 152 [(0, .inr (.inr a0))] [] h = some (.inl (-1), h) := (EX_at bk_Mod_count_152 _ _ _).trans rfl
