/-! plain([I)V of HookOverModel: method 14 -/
theorem bk_Mod_plain_0 : blk 14 0 = some (((cd_Mod_plain.lookup 0).getD ([], 0, []))) := rfl
theorem Mod_plain_0 (d : Nat) (a0 : Nat) (h : Hp) : EX d 14 0 [(0, .inr (.inr a0))] [] h = EX d 14 2 [(0, .inr (.inr a0)), (1, .inl 0)] [] h := (EX_at bk_Mod_plain_0 _ _ _).trans rfl
theorem bk_Mod_plain_2 : blk 14 2 = some (((cd_Mod_plain.lookup 2).getD ([], 0, []))) := rfl
theorem Mod_plain_2 (d : Nat) (a0 : Nat) (x1 : Int) (h : Hp) : EX d 14 2 [(0, .inr (.inr a0)), (1, .inl x1)] [] h = if (wr x1) < 1115 then EX d 14 9 [(0, .inr (.inr a0)), (1, .inl x1)] [] h else EX d 14 19 [(0, .inr (.inr a0))] [] h := (EX_at bk_Mod_plain_2 _ _ _).trans rfl
theorem bk_Mod_plain_9 : blk 14 9 = some (((cd_Mod_plain.lookup 9).getD ([], 0, []))) := rfl
theorem Mod_plain_9 (d : Nat) (a0 : Nat) (x1 : Int) (h : Hp) : EX d 14 9 [(0, .inr (.inr a0)), (1, .inl x1)] [] h = if okx h a0 20 x1 then EX d 14 13 [(0, .inr (.inr a0)), (1, .inl x1)] [] (pI h a0 (ix x1) 0) else none := (EX_at bk_Mod_plain_9 _ _ _).trans rfl
theorem bk_Mod_plain_13 : blk 14 13 = some (((cd_Mod_plain.lookup 13).getD ([], 0, []))) := rfl
theorem Mod_plain_13 (d : Nat) (a0 : Nat) (x1 : Int) (h : Hp) : EX d 14 13 [(0, .inr (.inr a0)), (1, .inl x1)] [] h = EX d 14 2 [(0, .inr (.inr a0)), (1, .inl (x1 + 1))] [] h := (EX_at bk_Mod_plain_13 _ _ _).trans rfl
theorem bk_Mod_plain_19 : blk 14 19 = some (((cd_Mod_plain.lookup 19).getD ([], 0, []))) := rfl
theorem Mod_plain_19 (d : Nat) (a0 : Nat) (h : Hp) : EX d 14 19 [(0, .inr (.inr a0))] [] h = if okx h a0 20 3 then EX d 14 23 [(0, .inr (.inr a0))] [] (pI h a0 3 1) else none := (EX_at bk_Mod_plain_19 _ _ _).trans rfl
theorem bk_Mod_plain_23 : blk 14 23 = some (((cd_Mod_plain.lookup 23).getD ([], 0, []))) := rfl
theorem Mod_plain_23 (d : Nat) (a0 : Nat) (h : Hp) : EX d 14 23 [(0, .inr (.inr a0))] [] h = if okx h a0 20 4 then EX d 14 27 [(0, .inr (.inr a0))] [] (pI h a0 4 5) else none := (EX_at bk_Mod_plain_23 _ _ _).trans rfl
theorem bk_Mod_plain_27 : blk 14 27 = some (((cd_Mod_plain.lookup 27).getD ([], 0, []))) := rfl
theorem Mod_plain_27 (d : Nat) (a0 : Nat) (h : Hp) : EX d 14 27 [(0, .inr (.inr a0))] [] h = if okx h a0 20 5 then EX d 14 31 [(0, .inr (.inr a0))] [] (pI h a0 5 2) else none := (EX_at bk_Mod_plain_27 _ _ _).trans rfl
theorem bk_Mod_plain_31 : blk 14 31 = some (((cd_Mod_plain.lookup 31).getD ([], 0, []))) := rfl
theorem Mod_plain_31 (d : Nat) (a0 : Nat) (h : Hp) : EX d 14 31 [(0, .inr (.inr a0))] [] h = if okx h a0 20 8 then EX d 14 37 [(0, .inr (.inr a0))] [] (pI h a0 8 10) else none := (EX_at bk_Mod_plain_31 _ _ _).trans rfl
theorem bk_Mod_plain_37 : blk 14 37 = some (((cd_Mod_plain.lookup 37).getD ([], 0, []))) := rfl
theorem Mod_plain_37 (d : Nat) (a0 : Nat) (h : Hp) : EX d 14 37 [(0, .inr (.inr a0))] [] h = EX d 14 39 [(0, .inr (.inr a0)), (1, .inl 0)] [] h := (EX_at bk_Mod_plain_37 _ _ _).trans rfl
theorem bk_Mod_plain_39 : blk 14 39 = some (((cd_Mod_plain.lookup 39).getD ([], 0, []))) := rfl
theorem Mod_plain_39 (d : Nat) (a0 : Nat) (x1 : Int) (h : Hp) : EX d 14 39 [(0, .inr (.inr a0)), (1, .inl x1)] [] h = if (wr x1) < 12 then EX d 14 45 [(0, .inr (.inr a0)), (1, .inl x1)] [] h else EX d 14 58 [] [] h := (EX_at bk_Mod_plain_39 _ _ _).trans rfl
theorem bk_Mod_plain_45 : blk 14 45 = some (((cd_Mod_plain.lookup 45).getD ([], 0, []))) := rfl
theorem Mod_plain_45 (d : Nat) (a0 : Nat) (x1 : Int) (h : Hp) : EX d 14 45 [(0, .inr (.inr a0)), (1, .inl x1)] [] h = if okx h a0 20 (61 + x1) then EX d 14 52 [(0, .inr (.inr a0)), (1, .inl x1)] [] (pI h a0 (ix (61 + x1)) (-1)) else none := (EX_at bk_Mod_plain_45 _ _ _).trans rfl
theorem bk_Mod_plain_52 : blk 14 52 = some (((cd_Mod_plain.lookup 52).getD ([], 0, []))) := rfl
theorem Mod_plain_52 (d : Nat) (a0 : Nat) (x1 : Int) (h : Hp) : EX d 14 52 [(0, .inr (.inr a0)), (1, .inl x1)] [] h = EX d 14 39 [(0, .inr (.inr a0)), (1, .inl (x1 + 1))] [] h := (EX_at bk_Mod_plain_52 _ _ _).trans rfl
theorem bk_Mod_plain_58 : blk 14 58 = some (((cd_Mod_plain.lookup 58).getD ([], 0, []))) := rfl
theorem Mod_plain_58 (d : Nat) (h : Hp) : EX d 14 58 [] [] h = some (.inl 0, h) := (EX_at bk_Mod_plain_58 _ _ _).trans rfl
/-! <init>()V of HookOverModel: method 15 -/
theorem bk_Mod_init_0 : blk 15 0 = some (((cd_Mod_init.lookup 0).getD ([], 0, []))) := rfl
theorem Mod_init_0 (d : Nat) (a0 : Nat) (h : Hp) : EX d 15 0 [(0, .inr (.inr a0))] [] h = if (0 < a0 ∧ 0 ≤ 8) then EX d 15 10 [(0, .inr (.inr a0))] [.inr (.inr ((Prod.fst h).length)), .inr (.inr a0)] (nwH h 20 3345) else none := (EX_at bk_Mod_init_0 _ _ _).trans rfl
theorem bk_Mod_init_10 : blk 15 10 = some (((cd_Mod_init.lookup 10).getD ([], 0, []))) := rfl
theorem Mod_init_10 (d : Nat) (a0 : Nat) (r0 : Nat) (r1 : Nat) (h : Hp) : EX d 15 10 [(0, .inr (.inr a0))] [.inr (.inr r1), .inr (.inr r0)] h = if sK h r0 = 11 then EX d 15 13 [(0, .inr (.inr a0))] [] (pR h r0 1 r1) else none := (EX_at bk_Mod_init_10 _ _ _).trans rfl
theorem bk_Mod_init_13 : blk 15 13 = some (((cd_Mod_init.lookup 13).getD ([], 0, []))) := rfl
theorem Mod_init_13 (d : Nat) (a0 : Nat) (h : Hp) : EX d 15 13 [(0, .inr (.inr a0))] [] h = EX d 15 17 [(0, .inr (.inr a0))] [.inr (.inr ((Prod.fst h).length)), .inr (.inr a0)] (nwH h 23 2) := (EX_at bk_Mod_init_13 _ _ _).trans rfl
theorem bk_Mod_init_17 : blk 15 17 = some (((cd_Mod_init.lookup 17).getD ([], 0, []))) := rfl
theorem Mod_init_17 (d : Nat) (a0 : Nat) (r0 : Nat) (r1 : Nat) (h : Hp) : EX d 15 17 [(0, .inr (.inr a0))] [.inr (.inr r1), .inr (.inr r0)] h = if sK h r0 = 11 then EX d 15 20 [(0, .inr (.inr a0))] [] (pR h r0 2 r1) else none := (EX_at bk_Mod_init_17 _ _ _).trans rfl
theorem bk_Mod_init_20 : blk 15 20 = some (((cd_Mod_init.lookup 20).getD ([], 0, []))) := rfl
theorem Mod_init_20 (d : Nat) (a0 : Nat) (h : Hp) : EX d 15 20 [(0, .inr (.inr a0))] [] h = EX d 15 26 [(0, .inr (.inr a0))] [.inr (.inr ((Prod.fst h).length)), .inr (.inr a0)] (nwH h 20 900) := (EX_at bk_Mod_init_20 _ _ _).trans rfl
theorem bk_Mod_init_26 : blk 15 26 = some (((cd_Mod_init.lookup 26).getD ([], 0, []))) := rfl
theorem Mod_init_26 (d : Nat) (a0 : Nat) (r0 : Nat) (r1 : Nat) (h : Hp) : EX d 15 26 [(0, .inr (.inr a0))] [.inr (.inr r1), .inr (.inr r0)] h = if sK h r0 = 11 then EX d 15 29 [(0, .inr (.inr a0))] [] (pR h r0 3 r1) else none := (EX_at bk_Mod_init_26 _ _ _).trans rfl
theorem bk_Mod_init_29 : blk 15 29 = some (((cd_Mod_init.lookup 29).getD ([], 0, []))) := rfl
theorem Mod_init_29 (d : Nat) (a0 : Nat) (h : Hp) : EX d 15 29 [(0, .inr (.inr a0))] [] h = EX d 15 35 [(0, .inr (.inr a0))] [.inr (.inr ((Prod.fst h).length)), .inr (.inr a0)] (nwH h 20 1115) := (EX_at bk_Mod_init_29 _ _ _).trans rfl
theorem bk_Mod_init_35 : blk 15 35 = some (((cd_Mod_init.lookup 35).getD ([], 0, []))) := rfl
theorem Mod_init_35 (d : Nat) (a0 : Nat) (r0 : Nat) (r1 : Nat) (h : Hp) : EX d 15 35 [(0, .inr (.inr a0))] [.inr (.inr r1), .inr (.inr r0)] h = if sK h r0 = 11 then EX d 15 38 [(0, .inr (.inr a0))] [] (pR h r0 4 r1) else none := (EX_at bk_Mod_init_35 _ _ _).trans rfl
theorem bk_Mod_init_38 : blk 15 38 = some (((cd_Mod_init.lookup 38).getD ([], 0, []))) := rfl
theorem Mod_init_38 (d : Nat) (a0 : Nat) (h : Hp) : EX d 15 38 [(0, .inr (.inr a0))] [] h = if sK h a0 = 11 then EX d 15 43 [(0, .inr (.inr a0))] [] (pI h a0 14 (-1)) else none := (EX_at bk_Mod_init_38 _ _ _).trans rfl
theorem bk_Mod_init_43 : blk 15 43 = some (((cd_Mod_init.lookup 43).getD ([], 0, []))) := rfl
theorem Mod_init_43 (d : Nat) (a0 : Nat) (h : Hp) : EX d 15 43 [(0, .inr (.inr a0))] [] h = EX d 15 49 [(0, .inr (.inr a0))] [.inr (.inr ((Prod.fst h).length)), .inr (.inr a0)] (nwH h 20 900) := (EX_at bk_Mod_init_43 _ _ _).trans rfl
theorem bk_Mod_init_49 : blk 15 49 = some (((cd_Mod_init.lookup 49).getD ([], 0, []))) := rfl
theorem Mod_init_49 (d : Nat) (a0 : Nat) (r0 : Nat) (r1 : Nat) (h : Hp) : EX d 15 49 [(0, .inr (.inr a0))] [.inr (.inr r1), .inr (.inr r0)] h = if sK h r0 = 11 then EX d 15 52 [(0, .inr (.inr a0))] [] (pR h r0 15 r1) else none := (EX_at bk_Mod_init_49 _ _ _).trans rfl
theorem bk_Mod_init_52 : blk 15 52 = some (((cd_Mod_init.lookup 52).getD ([], 0, []))) := rfl
theorem Mod_init_52 (d : Nat) (a0 : Nat) (h : Hp) : EX d 15 52 [(0, .inr (.inr a0))] [] h = EX d 15 57 [(0, .inr (.inr a0))] [.inr (.inr ((Prod.fst h).length)), .inr (.inr a0)] (nwH h 20 14) := (EX_at bk_Mod_init_52 _ _ _).trans rfl
theorem bk_Mod_init_57 : blk 15 57 = some (((cd_Mod_init.lookup 57).getD ([], 0, []))) := rfl
theorem Mod_init_57 (d : Nat) (a0 : Nat) (r0 : Nat) (r1 : Nat) (h : Hp) : EX d 15 57 [(0, .inr (.inr a0))] [.inr (.inr r1), .inr (.inr r0)] h = if sK h r0 = 11 then EX d 15 60 [(0, .inr (.inr a0))] [] (pR h r0 16 r1) else none := (EX_at bk_Mod_init_57 _ _ _).trans rfl
theorem bk_Mod_init_60 : blk 15 60 = some (((cd_Mod_init.lookup 60).getD ([], 0, []))) := rfl
theorem Mod_init_60 (d : Nat) (a0 : Nat) (h : Hp) : EX d 15 60 [(0, .inr (.inr a0))] [] h = EX d 15 66 [(0, .inr (.inr a0))] [.inr (.inr ((Prod.fst h).length)), .inr (.inr a0)] (nwH h 21 2197) := (EX_at bk_Mod_init_60 _ _ _).trans rfl
theorem bk_Mod_init_66 : blk 15 66 = some (((cd_Mod_init.lookup 66).getD ([], 0, []))) := rfl
theorem Mod_init_66 (d : Nat) (a0 : Nat) (r0 : Nat) (r1 : Nat) (h : Hp) : EX d 15 66 [(0, .inr (.inr a0))] [.inr (.inr r1), .inr (.inr r0)] h = if sK h r0 = 11 then EX d 15 69 [(0, .inr (.inr a0))] [] (pR h r0 19 r1) else none := (EX_at bk_Mod_init_66 _ _ _).trans rfl
theorem bk_Mod_init_69 : blk 15 69 = some (((cd_Mod_init.lookup 69).getD ([], 0, []))) := rfl
theorem Mod_init_69 (d : Nat) (a0 : Nat) (h : Hp) : EX d 15 69 [(0, .inr (.inr a0))] [] h = EX d 15 74 [(0, .inr (.inr a0))] [.inr (.inr ((Prod.fst h).length)), .inr (.inr a0)] (nwH h 20 12) := (EX_at bk_Mod_init_69 _ _ _).trans rfl
theorem bk_Mod_init_74 : blk 15 74 = some (((cd_Mod_init.lookup 74).getD ([], 0, []))) := rfl
theorem Mod_init_74 (d : Nat) (a0 : Nat) (r0 : Nat) (r1 : Nat) (h : Hp) : EX d 15 74 [(0, .inr (.inr a0))] [.inr (.inr r1), .inr (.inr r0)] h = if sK h r0 = 11 then EX d 15 77 [(0, .inr (.inr a0))] [] (pR h r0 23 r1) else none := (EX_at bk_Mod_init_74 _ _ _).trans rfl
theorem bk_Mod_init_77 : blk 15 77 = some (((cd_Mod_init.lookup 77).getD ([], 0, []))) := rfl
theorem Mod_init_77 (d : Nat) (a0 : Nat) (h : Hp) : EX d 15 77 [(0, .inr (.inr a0))] [] h = EX d 15 83 [(0, .inr (.inr a0))] [.inr (.inr ((Prod.fst h).length)), .inr (.inr a0)] (nwH h 20 169) := (EX_at bk_Mod_init_77 _ _ _).trans rfl
theorem bk_Mod_init_83 : blk 15 83 = some (((cd_Mod_init.lookup 83).getD ([], 0, []))) := rfl
theorem Mod_init_83 (d : Nat) (a0 : Nat) (r0 : Nat) (r1 : Nat) (h : Hp) : EX d 15 83 [(0, .inr (.inr a0))] [.inr (.inr r1), .inr (.inr r0)] h = if sK h r0 = 11 then EX d 15 86 [(0, .inr (.inr a0))] [] (pR h r0 24 r1) else none := (EX_at bk_Mod_init_83 _ _ _).trans rfl
theorem bk_Mod_init_86 : blk 15 86 = some (((cd_Mod_init.lookup 86).getD ([], 0, []))) := rfl
theorem Mod_init_86 (d : Nat) (a0 : Nat) (h : Hp) : EX d 15 86 [(0, .inr (.inr a0))] [] h = EX d 15 92 [(0, .inr (.inr a0))] [.inr (.inr ((Prod.fst h).length)), .inr (.inr a0)] (nwH h 20 2197) := (EX_at bk_Mod_init_86 _ _ _).trans rfl
theorem bk_Mod_init_92 : blk 15 92 = some (((cd_Mod_init.lookup 92).getD ([], 0, []))) := rfl
theorem Mod_init_92 (d : Nat) (a0 : Nat) (r0 : Nat) (r1 : Nat) (h : Hp) : EX d 15 92 [(0, .inr (.inr a0))] [.inr (.inr r1), .inr (.inr r0)] h = if sK h r0 = 11 then EX d 15 95 [(0, .inr (.inr a0))] [] (pR h r0 25 r1) else none := (EX_at bk_Mod_init_92 _ _ _).trans rfl
theorem bk_Mod_init_95 : blk 15 95 = some (((cd_Mod_init.lookup 95).getD ([], 0, []))) := rfl
theorem Mod_init_95 (d : Nat) (a0 : Nat) (h : Hp) : EX d 15 95 [(0, .inr (.inr a0))] [] h = EX d 15 101 [(0, .inr (.inr a0))] [.inr (.inr ((Prod.fst h).length)), .inr (.inr a0)] (nwH h 20 2197) := (EX_at bk_Mod_init_95 _ _ _).trans rfl
theorem bk_Mod_init_101 : blk 15 101 = some (((cd_Mod_init.lookup 101).getD ([], 0, []))) := rfl
theorem Mod_init_101 (d : Nat) (a0 : Nat) (r0 : Nat) (r1 : Nat) (h : Hp) : EX d 15 101 [(0, .inr (.inr a0))] [.inr (.inr r1), .inr (.inr r0)] h = if sK h r0 = 11 then EX d 15 104 [(0, .inr (.inr a0))] [] (pR h r0 26 r1) else none := (EX_at bk_Mod_init_101 _ _ _).trans rfl
theorem bk_Mod_init_104 : blk 15 104 = some (((cd_Mod_init.lookup 104).getD ([], 0, []))) := rfl
theorem Mod_init_104 (d : Nat) (a0 : Nat) (h : Hp) : EX d 15 104 [(0, .inr (.inr a0))] [] h = EX d 15 110 [(0, .inr (.inr a0))] [.inr (.inr ((Prod.fst h).length)), .inr (.inr a0)] (nwH h 20 441) := (EX_at bk_Mod_init_104 _ _ _).trans rfl
theorem bk_Mod_init_110 : blk 15 110 = some (((cd_Mod_init.lookup 110).getD ([], 0, []))) := rfl
theorem Mod_init_110 (d : Nat) (a0 : Nat) (r0 : Nat) (r1 : Nat) (h : Hp) : EX d 15 110 [(0, .inr (.inr a0))] [.inr (.inr r1), .inr (.inr r0)] h = if sK h r0 = 11 then EX d 15 113 [(0, .inr (.inr a0))] [] (pR h r0 29 r1) else none := (EX_at bk_Mod_init_110 _ _ _).trans rfl
theorem bk_Mod_init_113 : blk 15 113 = some (((cd_Mod_init.lookup 113).getD ([], 0, []))) := rfl
theorem Mod_init_113 (d : Nat) (a0 : Nat) (h : Hp) : EX d 15 113 [(0, .inr (.inr a0))] [] h = EX d 15 118 [(0, .inr (.inr a0))] [.inr (.inr ((Prod.fst h).length)), .inr (.inr a0)] (nwH h 20 8) := (EX_at bk_Mod_init_113 _ _ _).trans rfl
theorem bk_Mod_init_118 : blk 15 118 = some (((cd_Mod_init.lookup 118).getD ([], 0, []))) := rfl
theorem Mod_init_118 (d : Nat) (a0 : Nat) (r0 : Nat) (r1 : Nat) (h : Hp) : EX d 15 118 [(0, .inr (.inr a0))] [.inr (.inr r1), .inr (.inr r0)] h = if sK h r0 = 11 then EX d 15 121 [(0, .inr (.inr a0))] [] (pR h r0 30 r1) else none := (EX_at bk_Mod_init_118 _ _ _).trans rfl
theorem bk_Mod_init_121 : blk 15 121 = some (((cd_Mod_init.lookup 121).getD ([], 0, []))) := rfl
theorem Mod_init_121 (d : Nat) (a0 : Nat) (h : Hp) : EX d 15 121 [(0, .inr (.inr a0))] [] h = EX d 15 126 [(0, .inr (.inr a0))] [.inr (.inr ((Prod.fst h).length)), .inr (.inr a0)] (nwH h 20 8) := (EX_at bk_Mod_init_121 _ _ _).trans rfl
theorem bk_Mod_init_126 : blk 15 126 = some (((cd_Mod_init.lookup 126).getD ([], 0, []))) := rfl
theorem Mod_init_126 (d : Nat) (a0 : Nat) (r0 : Nat) (r1 : Nat) (h : Hp) : EX d 15 126 [(0, .inr (.inr a0))] [.inr (.inr r1), .inr (.inr r0)] h = if sK h r0 = 11 then EX d 15 129 [(0, .inr (.inr a0))] [] (pR h r0 31 r1) else none := (EX_at bk_Mod_init_126 _ _ _).trans rfl
theorem bk_Mod_init_129 : blk 15 129 = some (((cd_Mod_init.lookup 129).getD ([], 0, []))) := rfl
theorem Mod_init_129 (d : Nat) (a0 : Nat) (h : Hp) : EX d 15 129 [(0, .inr (.inr a0))] [] h = EX d 15 133 [(0, .inr (.inr a0))] [.inr (.inr ((Prod.fst h).length)), .inr (.inr a0)] (nwH h 20 4) := (EX_at bk_Mod_init_129 _ _ _).trans rfl
theorem bk_Mod_init_133 : blk 15 133 = some (((cd_Mod_init.lookup 133).getD ([], 0, []))) := rfl
theorem Mod_init_133 (d : Nat) (a0 : Nat) (r0 : Nat) (r1 : Nat) (h : Hp) : EX d 15 133 [(0, .inr (.inr a0))] [.inr (.inr r1), .inr (.inr r0)] h = if okx h r1 20 0 then EX d 15 137 [(0, .inr (.inr a0))] [.inr (.inr r1), .inr (.inr r0)] (pI h r1 0 (-1)) else none := (EX_at bk_Mod_init_133 _ _ _).trans rfl
theorem bk_Mod_init_137 : blk 15 137 = some (((cd_Mod_init.lookup 137).getD ([], 0, []))) := rfl
theorem Mod_init_137 (d : Nat) (a0 : Nat) (r0 : Nat) (r1 : Nat) (h : Hp) : EX d 15 137 [(0, .inr (.inr a0))] [.inr (.inr r1), .inr (.inr r0)] h = if okx h r1 20 1 then EX d 15 141 [(0, .inr (.inr a0))] [.inr (.inr r1), .inr (.inr r0)] (pI h r1 1 (-1)) else none := (EX_at bk_Mod_init_137 _ _ _).trans rfl
theorem bk_Mod_init_141 : blk 15 141 = some (((cd_Mod_init.lookup 141).getD ([], 0, []))) := rfl
theorem Mod_init_141 (d : Nat) (a0 : Nat) (r0 : Nat) (r1 : Nat) (h : Hp) : EX d 15 141 [(0, .inr (.inr a0))] [.inr (.inr r1), .inr (.inr r0)] h = if okx h r1 20 2 then EX d 15 145 [(0, .inr (.inr a0))] [.inr (.inr r1), .inr (.inr r0)] (pI h r1 2 (-1)) else none := (EX_at bk_Mod_init_141 _ _ _).trans rfl
theorem bk_Mod_init_145 : blk 15 145 = some (((cd_Mod_init.lookup 145).getD ([], 0, []))) := rfl
theorem Mod_init_145 (d : Nat) (a0 : Nat) (r0 : Nat) (r1 : Nat) (h : Hp) : EX d 15 145 [(0, .inr (.inr a0))] [.inr (.inr r1), .inr (.inr r0)] h = if okx h r1 20 3 then EX d 15 149 [(0, .inr (.inr a0))] [.inr (.inr r1), .inr (.inr r0)] (pI h r1 3 (-1)) else none := (EX_at bk_Mod_init_145 _ _ _).trans rfl
theorem bk_Mod_init_149 : blk 15 149 = some (((cd_Mod_init.lookup 149).getD ([], 0, []))) := rfl
theorem Mod_init_149 (d : Nat) (a0 : Nat) (r0 : Nat) (r1 : Nat) (h : Hp) : EX d 15 149 [(0, .inr (.inr a0))] [.inr (.inr r1), .inr (.inr r0)] h = if sK h r0 = 11 then EX d 15 152 [(0, .inr (.inr a0))] [] (pR h r0 33 r1) else none := (EX_at bk_Mod_init_149 _ _ _).trans rfl
theorem bk_Mod_init_152 : blk 15 152 = some (((cd_Mod_init.lookup 152).getD ([], 0, []))) := rfl
theorem Mod_init_152 (d : Nat) (a0 : Nat) (h : Hp) : EX d 15 152 [(0, .inr (.inr a0))] [] h = EX d 15 156 [(0, .inr (.inr a0))] [.inr (.inr ((Prod.fst h).length)), .inr (.inr a0)] (nwH h 20 4) := (EX_at bk_Mod_init_152 _ _ _).trans rfl
theorem bk_Mod_init_156 : blk 15 156 = some (((cd_Mod_init.lookup 156).getD ([], 0, []))) := rfl
theorem Mod_init_156 (d : Nat) (a0 : Nat) (r0 : Nat) (r1 : Nat) (h : Hp) : EX d 15 156 [(0, .inr (.inr a0))] [.inr (.inr r1), .inr (.inr r0)] h = if sK h r0 = 11 then EX d 15 159 [(0, .inr (.inr a0))] [] (pR h r0 34 r1) else none := (EX_at bk_Mod_init_156 _ _ _).trans rfl
theorem bk_Mod_init_159 : blk 15 159 = some (((cd_Mod_init.lookup 159).getD ([], 0, []))) := rfl
theorem Mod_init_159 (d : Nat) (a0 : Nat) (h : Hp) : EX d 15 159 [(0, .inr (.inr a0))] [] h = EX d 15 165 [(0, .inr (.inr a0))] [.inr (.inr ((Prod.fst h).length)), .inr (.inr a0)] (nwH h 21 160) := (EX_at bk_Mod_init_159 _ _ _).trans rfl
theorem bk_Mod_init_165 : blk 15 165 = some (((cd_Mod_init.lookup 165).getD ([], 0, []))) := rfl
theorem Mod_init_165 (d : Nat) (a0 : Nat) (r0 : Nat) (r1 : Nat) (h : Hp) : EX d 15 165 [(0, .inr (.inr a0))] [.inr (.inr r1), .inr (.inr r0)] h = if sK h r0 = 11 then EX d 15 168 [(0, .inr (.inr a0))] [] (pR h r0 35 r1) else none := (EX_at bk_Mod_init_165 _ _ _).trans rfl
theorem bk_Mod_init_168 : blk 15 168 = some (((cd_Mod_init.lookup 168).getD ([], 0, []))) := rfl
theorem Mod_init_168 (d : Nat) (a0 : Nat) (h : Hp) : EX d 15 168 [(0, .inr (.inr a0))] [] h = if sK h a0 = 11 then bak (EX d 15) 175 [] [] true (cal d 14 [.inr (.inr (hR h a0 1))] h) else none := (EX_at bk_Mod_init_168 _ _ _).trans rfl
theorem bk_Mod_init_175 : blk 15 175 = some (((cd_Mod_init.lookup 175).getD ([], 0, []))) := rfl
theorem Mod_init_175 (d : Nat) (h : Hp) : EX d 15 175 [] [] h = some (.inl 0, h) := (EX_at bk_Mod_init_175 _ _ _).trans rfl
/-! feed(IIIII)I of HookOverModel: method 18 -/
theorem bk_Mod_feed_0 : blk 18 0 = some (((cd_Mod_feed.lookup 0).getD ([], 0, []))) := rfl
theorem Mod_feed_0 (d : Nat) (a0 : Nat) (x1 : Int) (x2 : Int) (x3 : Int) (x4 : Int) (x5 : Int) (h : Hp) : EX d 18 0 [(0, .inr (.inr a0)), (1, .inl x1), (2, .inl x2), (3, .inl x3), (4, .inl x4), (5, .inl x5)] [] h = if sK h a0 = 11 then EX d 18 5 [(0, .inr (.inr a0)), (1, .inl x1), (2, .inl x2), (3, .inl x3), (4, .inl x4), (5, .inl x5)] [] (pI h a0 0 0) else none := (EX_at bk_Mod_feed_0 _ _ _).trans rfl
theorem bk_Mod_feed_5 : blk 18 5 = some (((cd_Mod_feed.lookup 5).getD ([], 0, []))) := rfl
theorem Mod_feed_5 (d : Nat) (a0 : Nat) (x1 : Int) (x2 : Int) (x3 : Int) (x4 : Int) (x5 : Int) (h : Hp) : EX d 18 5 [(0, .inr (.inr a0)), (1, .inl x1), (2, .inl x2), (3, .inl x3), (4, .inl x4), (5, .inl x5)] [] h = if sK h a0 = 11 then if 900 < (wr ((hI h a0 5) + 20)) then EX d 18 18 [] [] h else EX d 18 21 [(0, .inr (.inr a0)), (1, .inl x1), (2, .inl x2), (3, .inl x3), (4, .inl x4), (5, .inl x5)] [] h else none := (EX_at bk_Mod_feed_5 _ _ _).trans rfl
theorem bk_Mod_feed_18 : blk 18 18 = some (((cd_Mod_feed.lookup 18).getD ([], 0, []))) := rfl
theorem Mod_feed_18 (d : Nat) (h : Hp) : EX d 18 18 [] [] h = some (.inl (-5), h) := (EX_at bk_Mod_feed_18 _ _ _).trans rfl
theorem bk_Mod_feed_21 : blk 18 21 = some (((cd_Mod_feed.lookup 21).getD ([], 0, []))) := rfl
theorem Mod_feed_21 (d : Nat) (a0 : Nat) (x1 : Int) (x2 : Int) (x3 : Int) (x4 : Int) (x5 : Int) (h : Hp) : EX d 18 21 [(0, .inr (.inr a0)), (1, .inl x1), (2, .inl x2), (3, .inl x3), (4, .inl x4), (5, .inl x5)] [] h = EX d 18 24 [(0, .inr (.inr a0)), (1, .inl x1), (2, .inl x2), (3, .inl x3), (4, .inl x4), (5, .inl x5), (6, .inl 0)] [] h := (EX_at bk_Mod_feed_21 _ _ _).trans rfl
theorem bk_Mod_feed_24 : blk 18 24 = some (((cd_Mod_feed.lookup 24).getD ([], 0, []))) := rfl
theorem Mod_feed_24 (d : Nat) (a0 : Nat) (x1 : Int) (x2 : Int) (x3 : Int) (x4 : Int) (x5 : Int) (x6 : Int) (h : Hp) : EX d 18 24 [(0, .inr (.inr a0)), (1, .inl x1), (2, .inl x2), (3, .inl x3), (4, .inl x4), (5, .inl x5), (6, .inl x6)] [] h = if (wr x6) < 20 then EX d 18 31 [(0, .inr (.inr a0)), (1, .inl x1), (2, .inl x2), (3, .inl x3), (4, .inl x4), (5, .inl x5), (6, .inl x6)] [] h else EX d 18 121 [(0, .inr (.inr a0))] [] h := (EX_at bk_Mod_feed_24 _ _ _).trans rfl
theorem bk_Mod_feed_31 : blk 18 31 = some (((cd_Mod_feed.lookup 31).getD ([], 0, []))) := rfl
theorem Mod_feed_31 (d : Nat) (a0 : Nat) (x1 : Int) (x2 : Int) (x3 : Int) (x4 : Int) (x5 : Int) (x6 : Int) (h : Hp) : EX d 18 31 [(0, .inr (.inr a0)), (1, .inl x1), (2, .inl x2), (3, .inl x3), (4, .inl x4), (5, .inl x5), (6, .inl x6)] [] h = if (wr x6) < 4 then EX d 18 37 [(0, .inr (.inr a0)), (1, .inl x1), (2, .inl x2), (3, .inl x3), (4, .inl x4), (5, .inl x5), (6, .inl x6)] [] h else EX d 18 41 [(0, .inr (.inr a0)), (1, .inl x1), (2, .inl x2), (3, .inl x3), (4, .inl x4), (5, .inl x5), (6, .inl x6)] [] h := (EX_at bk_Mod_feed_31 _ _ _).trans rfl
theorem bk_Mod_feed_37 : blk 18 37 = some (((cd_Mod_feed.lookup 37).getD ([], 0, []))) := rfl
theorem Mod_feed_37 (d : Nat) (a0 : Nat) (x1 : Int) (x2 : Int) (x3 : Int) (x4 : Int) (x5 : Int) (x6 : Int) (h : Hp) : EX d 18 37 [(0, .inr (.inr a0)), (1, .inl x1), (2, .inl x2), (3, .inl x3), (4, .inl x4), (5, .inl x5), (6, .inl x6)] [] h = EX d 18 77 [(0, .inr (.inr a0)), (1, .inl x1), (2, .inl x2), (3, .inl x3), (4, .inl x4), (5, .inl x5), (6, .inl x6)] [.inl x1] h := (EX_at bk_Mod_feed_37 _ _ _).trans rfl
theorem bk_Mod_feed_41 : blk 18 41 = some (((cd_Mod_feed.lookup 41).getD ([], 0, []))) := rfl
theorem Mod_feed_41 (d : Nat) (a0 : Nat) (x1 : Int) (x2 : Int) (x3 : Int) (x4 : Int) (x5 : Int) (x6 : Int) (h : Hp) : EX d 18 41 [(0, .inr (.inr a0)), (1, .inl x1), (2, .inl x2), (3, .inl x3), (4, .inl x4), (5, .inl x5), (6, .inl x6)] [] h = if (wr x6) < 8 then EX d 18 48 [(0, .inr (.inr a0)), (1, .inl x1), (2, .inl x2), (3, .inl x3), (4, .inl x4), (5, .inl x5), (6, .inl x6)] [] h else EX d 18 52 [(0, .inr (.inr a0)), (1, .inl x1), (2, .inl x2), (3, .inl x3), (4, .inl x4), (5, .inl x5), (6, .inl x6)] [] h := (EX_at bk_Mod_feed_41 _ _ _).trans rfl
theorem bk_Mod_feed_48 : blk 18 48 = some (((cd_Mod_feed.lookup 48).getD ([], 0, []))) := rfl
theorem Mod_feed_48 (d : Nat) (a0 : Nat) (x1 : Int) (x2 : Int) (x3 : Int) (x4 : Int) (x5 : Int) (x6 : Int) (h : Hp) : EX d 18 48 [(0, .inr (.inr a0)), (1, .inl x1), (2, .inl x2), (3, .inl x3), (4, .inl x4), (5, .inl x5), (6, .inl x6)] [] h = EX d 18 77 [(0, .inr (.inr a0)), (1, .inl x1), (2, .inl x2), (3, .inl x3), (4, .inl x4), (5, .inl x5), (6, .inl x6)] [.inl x2] h := (EX_at bk_Mod_feed_48 _ _ _).trans rfl
theorem bk_Mod_feed_52 : blk 18 52 = some (((cd_Mod_feed.lookup 52).getD ([], 0, []))) := rfl
theorem Mod_feed_52 (d : Nat) (a0 : Nat) (x1 : Int) (x2 : Int) (x3 : Int) (x4 : Int) (x5 : Int) (x6 : Int) (h : Hp) : EX d 18 52 [(0, .inr (.inr a0)), (1, .inl x1), (2, .inl x2), (3, .inl x3), (4, .inl x4), (5, .inl x5), (6, .inl x6)] [] h = if (wr x6) < 12 then EX d 18 59 [(0, .inr (.inr a0)), (1, .inl x1), (2, .inl x2), (3, .inl x3), (4, .inl x4), (5, .inl x5), (6, .inl x6)] [] h else EX d 18 63 [(0, .inr (.inr a0)), (1, .inl x1), (2, .inl x2), (3, .inl x3), (4, .inl x4), (5, .inl x5), (6, .inl x6)] [] h := (EX_at bk_Mod_feed_52 _ _ _).trans rfl
theorem bk_Mod_feed_59 : blk 18 59 = some (((cd_Mod_feed.lookup 59).getD ([], 0, []))) := rfl
theorem Mod_feed_59 (d : Nat) (a0 : Nat) (x1 : Int) (x2 : Int) (x3 : Int) (x4 : Int) (x5 : Int) (x6 : Int) (h : Hp) : EX d 18 59 [(0, .inr (.inr a0)), (1, .inl x1), (2, .inl x2), (3, .inl x3), (4, .inl x4), (5, .inl x5), (6, .inl x6)] [] h = EX d 18 77 [(0, .inr (.inr a0)), (1, .inl x1), (2, .inl x2), (3, .inl x3), (4, .inl x4), (5, .inl x5), (6, .inl x6)] [.inl x3] h := (EX_at bk_Mod_feed_59 _ _ _).trans rfl
theorem bk_Mod_feed_63 : blk 18 63 = some (((cd_Mod_feed.lookup 63).getD ([], 0, []))) := rfl
theorem Mod_feed_63 (d : Nat) (a0 : Nat) (x1 : Int) (x2 : Int) (x3 : Int) (x4 : Int) (x5 : Int) (x6 : Int) (h : Hp) : EX d 18 63 [(0, .inr (.inr a0)), (1, .inl x1), (2, .inl x2), (3, .inl x3), (4, .inl x4), (5, .inl x5), (6, .inl x6)] [] h = if (wr x6) < 16 then EX d 18 70 [(0, .inr (.inr a0)), (1, .inl x1), (2, .inl x2), (3, .inl x3), (4, .inl x4), (5, .inl x5), (6, .inl x6)] [] h else EX d 18 75 [(0, .inr (.inr a0)), (1, .inl x1), (2, .inl x2), (3, .inl x3), (4, .inl x4), (5, .inl x5), (6, .inl x6)] [] h := (EX_at bk_Mod_feed_63 _ _ _).trans rfl
theorem bk_Mod_feed_70 : blk 18 70 = some (((cd_Mod_feed.lookup 70).getD ([], 0, []))) := rfl
theorem Mod_feed_70 (d : Nat) (a0 : Nat) (x1 : Int) (x2 : Int) (x3 : Int) (x4 : Int) (x5 : Int) (x6 : Int) (h : Hp) : EX d 18 70 [(0, .inr (.inr a0)), (1, .inl x1), (2, .inl x2), (3, .inl x3), (4, .inl x4), (5, .inl x5), (6, .inl x6)] [] h = EX d 18 77 [(0, .inr (.inr a0)), (1, .inl x1), (2, .inl x2), (3, .inl x3), (4, .inl x4), (5, .inl x5), (6, .inl x6)] [.inl x4] h := (EX_at bk_Mod_feed_70 _ _ _).trans rfl
theorem bk_Mod_feed_75 : blk 18 75 = some (((cd_Mod_feed.lookup 75).getD ([], 0, []))) := rfl
theorem Mod_feed_75 (d : Nat) (a0 : Nat) (x1 : Int) (x2 : Int) (x3 : Int) (x4 : Int) (x5 : Int) (x6 : Int) (h : Hp) : EX d 18 75 [(0, .inr (.inr a0)), (1, .inl x1), (2, .inl x2), (3, .inl x3), (4, .inl x4), (5, .inl x5), (6, .inl x6)] [] h = EX d 18 77 [(0, .inr (.inr a0)), (1, .inl x1), (2, .inl x2), (3, .inl x3), (4, .inl x4), (5, .inl x5), (6, .inl x6)] [.inl x5] h := (EX_at bk_Mod_feed_75 _ _ _).trans rfl
theorem bk_Mod_feed_77 : blk 18 77 = some (((cd_Mod_feed.lookup 77).getD ([], 0, []))) := rfl
theorem Mod_feed_77 (d : Nat) (a0 : Nat) (x1 : Int) (x2 : Int) (x3 : Int) (x4 : Int) (x5 : Int) (x6 : Int) (s0 : Int) (h : Hp) : EX d 18 77 [(0, .inr (.inr a0)), (1, .inl x1), (2, .inl x2), (3, .inl x3), (4, .inl x4), (5, .inl x5), (6, .inl x6)] [.inl s0] h = if sK h a0 = 11 then if sK h a0 = 11 then if okx h (hR h a0 3) 20 (hI h a0 5) then EX d 18 105 [(0, .inr (.inr a0)), (1, .inl x1), (2, .inl x2), (3, .inl x3), (4, .inl x4), (5, .inl x5), (6, .inl x6)] [] (pI h (hR h a0 3) (ix (hI h a0 5)) (bAnd (bShr s0 (24 - (8 * (bRem x6 4)))) 255)) else none else none else none := (EX_at bk_Mod_feed_77 _ _ _).trans rfl
theorem bk_Mod_feed_105 : blk 18 105 = some (((cd_Mod_feed.lookup 105).getD ([], 0, []))) := rfl
theorem Mod_feed_105 (d : Nat) (a0 : Nat) (x1 : Int) (x2 : Int) (x3 : Int) (x4 : Int) (x5 : Int) (x6 : Int) (h : Hp) : EX d 18 105 [(0, .inr (.inr a0)), (1, .inl x1), (2, .inl x2), (3, .inl x3), (4, .inl x4), (5, .inl x5), (6, .inl x6)] [] h = if sK h a0 = 11 then if sK h a0 = 11 then EX d 18 115 [(0, .inr (.inr a0)), (1, .inl x1), (2, .inl x2), (3, .inl x3), (4, .inl x4), (5, .inl x5), (6, .inl x6)] [] (pI h a0 5 ((hI h a0 5) + 1)) else none else none := (EX_at bk_Mod_feed_105 _ _ _).trans rfl
theorem bk_Mod_feed_115 : blk 18 115 = some (((cd_Mod_feed.lookup 115).getD ([], 0, []))) := rfl
theorem Mod_feed_115 (d : Nat) (a0 : Nat) (x1 : Int) (x2 : Int) (x3 : Int) (x4 : Int) (x5 : Int) (x6 : Int) (h : Hp) : EX d 18 115 [(0, .inr (.inr a0)), (1, .inl x1), (2, .inl x2), (3, .inl x3), (4, .inl x4), (5, .inl x5), (6, .inl x6)] [] h = EX d 18 24 [(0, .inr (.inr a0)), (1, .inl x1), (2, .inl x2), (3, .inl x3), (4, .inl x4), (5, .inl x5), (6, .inl (x6 + 1))] [] h := (EX_at bk_Mod_feed_115 _ _ _).trans rfl
theorem bk_Mod_feed_121 : blk 18 121 = some (((cd_Mod_feed.lookup 121).getD ([], 0, []))) := rfl
theorem Mod_feed_121 (d : Nat) (a0 : Nat) (h : Hp) : EX d 18 121 [(0, .inr (.inr a0))] [] h = if sK h a0 = 11 then some (.inl (hI h a0 5), h) else none := (EX_at bk_Mod_feed_121 _ _ _).trans rfl
/-! within(JJJ)Z of HookOverModel: method 71 -/
theorem bk_Mod_within_0 : blk 71 0 = some (((cd_Mod_within.lookup 0).getD ([], 0, []))) := rfl
theorem Mod_within_0 (d : Nat) (y0 : Int) (y2 : Int) (y4 : Int) (h : Hp) : EX d 71 0 [(0, .inr (.inl y0)), (2, .inr (.inl y2)), (4, .inr (.inl y4))] [] h = if (wr (lCmp y0 y2)) < 0 then EX d 71 17 [] [] h else EX d 71 6 [(0, .inr (.inl y0)), (4, .inr (.inl y4))] [] h := (EX_at bk_Mod_within_0 _ _ _).trans rfl
theorem bk_Mod_within_6 : blk 71 6 = some (((cd_Mod_within.lookup 6).getD ([], 0, []))) := rfl
theorem Mod_within_6 (d : Nat) (y0 : Int) (y4 : Int) (h : Hp) : EX d 71 6 [(0, .inr (.inl y0)), (4, .inr (.inl y4))] [] h = if 0 < (wr (lCmp y0 y4)) then EX d 71 17 [] [] h else EX d 71 13 [] [] h := (EX_at bk_Mod_within_6 _ _ _).trans rfl
theorem bk_Mod_within_13 : blk 71 13 = some (((cd_Mod_within.lookup 13).getD ([], 0, []))) := rfl
theorem Mod_within_13 (d : Nat) (h : Hp) : EX d 71 13 [] [] h = EX d 71 18 [] [.inl 1] h := (EX_at bk_Mod_within_13 _ _ _).trans rfl
theorem bk_Mod_within_17 : blk 71 17 = some (((cd_Mod_within.lookup 17).getD ([], 0, []))) := rfl
theorem Mod_within_17 (d : Nat) (h : Hp) : EX d 71 17 [] [] h = EX d 71 18 [] [.inl 0] h := (EX_at bk_Mod_within_17 _ _ _).trans rfl
theorem bk_Mod_within_18 : blk 71 18 = some (((cd_Mod_within.lookup 18).getD ([], 0, []))) := rfl
theorem Mod_within_18 (d : Nat) (s0 : Int) (h : Hp) : EX d 71 18 [] [.inl s0] h = if ((s0 : Int) = 0 ∨ (s0 : Int) = 1) then some (.inl s0, h) else none := (EX_at bk_Mod_within_18 _ _ _).trans rfl
/-! see(I)I of HookOverModel: method 72 -/
theorem bk_Mod_see_0 : blk 72 0 = some (((cd_Mod_see.lookup 0).getD ([], 0, []))) := rfl
theorem Mod_see_0 (d : Nat) (a0 : Nat) (x1 : Int) (h : Hp) : EX d 72 0 [(0, .inr (.inr a0)), (1, .inl x1)] [] h = if sK h a0 = 11 then if (wr x1) < (wr (hI h a0 8)) then EX d 72 8 [(0, .inr (.inr a0)), (1, .inl x1)] [] h else EX d 72 17 [] [] h else none := (EX_at bk_Mod_see_0 _ _ _).trans rfl
theorem bk_Mod_see_8 : blk 72 8 = some (((cd_Mod_see.lookup 8).getD ([], 0, []))) := rfl
theorem Mod_see_8 (d : Nat) (a0 : Nat) (x1 : Int) (h : Hp) : EX d 72 8 [(0, .inr (.inr a0)), (1, .inl x1)] [] h = if sK h a0 = 11 then if okx h (hR h a0 3) 20 x1 then EX d 72 18 [] [.inl (hI h (hR h a0 3) (ix x1))] h else none else none := (EX_at bk_Mod_see_8 _ _ _).trans rfl
theorem bk_Mod_see_17 : blk 72 17 = some (((cd_Mod_see.lookup 17).getD ([], 0, []))) := rfl
theorem Mod_see_17 (d : Nat) (h : Hp) : EX d 72 17 [] [] h = EX d 72 18 [] [.inl (-1)] h := (EX_at bk_Mod_see_17 _ _ _).trans rfl
theorem bk_Mod_see_18 : blk 72 18 = some (((cd_Mod_see.lookup 18).getD ([], 0, []))) := rfl
theorem Mod_see_18 (d : Nat) (s0 : Int) (h : Hp) : EX d 72 18 [] [.inl s0] h = some (.inl s0, h) := (EX_at bk_Mod_see_18 _ _ _).trans rfl
/-! isSmall(I)Z of HookOverModel: method 73 -/
theorem bk_Mod_isSmall_0 : blk 73 0 = some (((cd_Mod_isSmall.lookup 0).getD ([], 0, []))) := rfl
theorem Mod_isSmall_0 (d : Nat) (x0 : Int) (h : Hp) : EX d 73 0 [(0, .inl x0)] [] h = if (wr x0) < 97 then EX d 73 16 [] [] h else EX d 73 6 [(0, .inl x0)] [] h := (EX_at bk_Mod_isSmall_0 _ _ _).trans rfl
theorem bk_Mod_isSmall_6 : blk 73 6 = some (((cd_Mod_isSmall.lookup 6).getD ([], 0, []))) := rfl
theorem Mod_isSmall_6 (d : Nat) (x0 : Int) (h : Hp) : EX d 73 6 [(0, .inl x0)] [] h = if 122 < (wr x0) then EX d 73 16 [] [] h else EX d 73 12 [] [] h := (EX_at bk_Mod_isSmall_6 _ _ _).trans rfl
theorem bk_Mod_isSmall_12 : blk 73 12 = some (((cd_Mod_isSmall.lookup 12).getD ([], 0, []))) := rfl
theorem Mod_isSmall_12 (d : Nat) (h : Hp) : EX d 73 12 [] [] h = EX d 73 17 [] [.inl 1] h := (EX_at bk_Mod_isSmall_12 _ _ _).trans rfl
theorem bk_Mod_isSmall_16 : blk 73 16 = some (((cd_Mod_isSmall.lookup 16).getD ([], 0, []))) := rfl
theorem Mod_isSmall_16 (d : Nat) (h : Hp) : EX d 73 16 [] [] h = EX d 73 17 [] [.inl 0] h := (EX_at bk_Mod_isSmall_16 _ _ _).trans rfl
theorem bk_Mod_isSmall_17 : blk 73 17 = some (((cd_Mod_isSmall.lookup 17).getD ([], 0, []))) := rfl
theorem Mod_isSmall_17 (d : Nat) (s0 : Int) (h : Hp) : EX d 73 17 [] [.inl s0] h = if ((s0 : Int) = 0 ∨ (s0 : Int) = 1) then some (.inl s0, h) else none := (EX_at bk_Mod_isSmall_17 _ _ _).trans rfl
/-! keyAt()I of HookOverModel: method 74 -/
theorem bk_Mod_keyAt_0 : blk 74 0 = some (((cd_Mod_keyAt.lookup 0).getD ([], 0, []))) := rfl
theorem Mod_keyAt_0 (d : Nat) (a0 : Nat) (h : Hp) : EX d 74 0 [(0, .inr (.inr a0))] [] h = EX d 74 4 [(0, .inr (.inr a0)), (1, .inl 0), (2, .inl 1)] [] h := (EX_at bk_Mod_keyAt_0 _ _ _).trans rfl
theorem bk_Mod_keyAt_4 : blk 74 4 = some (((cd_Mod_keyAt.lookup 4).getD ([], 0, []))) := rfl
theorem Mod_keyAt_4 (d : Nat) (a0 : Nat) (x1 : Int) (x2 : Int) (h : Hp) : EX d 74 4 [(0, .inr (.inr a0)), (1, .inl x1), (2, .inl x2)] [] h = if (sK h 4 = 40 ∧ catS [.inl x2] ≤ 8) then if (wr x2) < (wr (sL h 4)) then EX d 74 13 [(0, .inr (.inr a0)), (1, .inl x1), (2, .inl x2)] [] h else EX d 74 123 [] [] h else none := (EX_at bk_Mod_keyAt_4 _ _ _).trans rfl
theorem bk_Mod_keyAt_13 : blk 74 13 = some (((cd_Mod_keyAt.lookup 13).getD ([], 0, []))) := rfl
theorem Mod_keyAt_13 (d : Nat) (a0 : Nat) (x1 : Int) (x2 : Int) (h : Hp) : EX d 74 13 [(0, .inr (.inr a0)), (1, .inl x1), (2, .inl x2)] [] h = EX d 74 15 [(0, .inr (.inr a0)), (1, .inl x1), (2, .inl x2), (3, .inl 0)] [] h := (EX_at bk_Mod_keyAt_13 _ _ _).trans rfl
theorem bk_Mod_keyAt_15 : blk 74 15 = some (((cd_Mod_keyAt.lookup 15).getD ([], 0, []))) := rfl
theorem Mod_keyAt_15 (d : Nat) (a0 : Nat) (x1 : Int) (x2 : Int) (x3 : Int) (h : Hp) : EX d 74 15 [(0, .inr (.inr a0)), (1, .inl x1), (2, .inl x2), (3, .inl x3)] [] h = if (okx h 4 40 (x2 + x3) ∧ catS [] ≤ 8) then if (wr (hI h 4 (ix (x2 + x3)))) = 32 then EX d 74 69 [(0, .inr (.inr a0)), (1, .inl x1), (2, .inl x2), (3, .inl x3)] [] h else EX d 74 28 [(0, .inr (.inr a0)), (1, .inl x1), (2, .inl x2), (3, .inl x3)] [] h else none := (EX_at bk_Mod_keyAt_15 _ _ _).trans rfl
theorem bk_Mod_keyAt_28 : blk 74 28 = some (((cd_Mod_keyAt.lookup 28).getD ([], 0, []))) := rfl
theorem Mod_keyAt_28 (d : Nat) (a0 : Nat) (x1 : Int) (x2 : Int) (x3 : Int) (h : Hp) : EX d 74 28 [(0, .inr (.inr a0)), (1, .inl x1), (2, .inl x2), (3, .inl x3)] [] h = if sK h a0 = 11 then if sK h a0 = 11 then if (wr ((hI h a0 6) + x3)) < (wr (hI h a0 7)) then EX d 74 41 [(0, .inr (.inr a0)), (1, .inl x1), (2, .inl x2), (3, .inl x3)] [] h else EX d 74 69 [(0, .inr (.inr a0)), (1, .inl x1), (2, .inl x2), (3, .inl x3)] [] h else none else none := (EX_at bk_Mod_keyAt_28 _ _ _).trans rfl
theorem bk_Mod_keyAt_41 : blk 74 41 = some (((cd_Mod_keyAt.lookup 41).getD ([], 0, []))) := rfl
theorem Mod_keyAt_41 (d : Nat) (a0 : Nat) (x1 : Int) (x2 : Int) (x3 : Int) (h : Hp) : EX d 74 41 [(0, .inr (.inr a0)), (1, .inl x1), (2, .inl x2), (3, .inl x3)] [] h = if sK h a0 = 11 then if sK h a0 = 11 then if okx h (hR h a0 3) 20 ((hI h a0 6) + x3) then if (okx h 4 40 (x2 + x3) ∧ catS [.inl (hI h (hR h a0 3) (ix ((hI h a0 6) + x3)))] ≤ 8) then if (wr (hI h (hR h a0 3) (ix ((hI h a0 6) + x3)))) = (wr (hI h 4 (ix (x2 + x3)))) then EX d 74 63 [(0, .inr (.inr a0)), (1, .inl x1), (2, .inl x2), (3, .inl x3)] [] h else EX d 74 69 [(0, .inr (.inr a0)), (1, .inl x1), (2, .inl x2), (3, .inl x3)] [] h else none else none else none else none := (EX_at bk_Mod_keyAt_41 _ _ _).trans rfl
theorem bk_Mod_keyAt_63 : blk 74 63 = some (((cd_Mod_keyAt.lookup 63).getD ([], 0, []))) := rfl
theorem Mod_keyAt_63 (d : Nat) (a0 : Nat) (x1 : Int) (x2 : Int) (x3 : Int) (h : Hp) : EX d 74 63 [(0, .inr (.inr a0)), (1, .inl x1), (2, .inl x2), (3, .inl x3)] [] h = EX d 74 15 [(0, .inr (.inr a0)), (1, .inl x1), (2, .inl x2), (3, .inl (x3 + 1))] [] h := (EX_at bk_Mod_keyAt_63 _ _ _).trans rfl
theorem bk_Mod_keyAt_69 : blk 74 69 = some (((cd_Mod_keyAt.lookup 69).getD ([], 0, []))) := rfl
theorem Mod_keyAt_69 (d : Nat) (a0 : Nat) (x1 : Int) (x2 : Int) (x3 : Int) (h : Hp) : EX d 74 69 [(0, .inr (.inr a0)), (1, .inl x1), (2, .inl x2), (3, .inl x3)] [] h = if (okx h 4 40 (x2 + x3) ∧ catS [] ≤ 8) then if (wr (hI h 4 (ix (x2 + x3)))) = 32 then EX d 74 82 [(0, .inr (.inr a0)), (1, .inl x1), (2, .inl x2), (3, .inl x3)] [] h else EX d 74 97 [(0, .inr (.inr a0)), (1, .inl x1), (2, .inl x2)] [] h else none := (EX_at bk_Mod_keyAt_69 _ _ _).trans rfl
theorem bk_Mod_keyAt_82 : blk 74 82 = some (((cd_Mod_keyAt.lookup 82).getD ([], 0, []))) := rfl
theorem Mod_keyAt_82 (d : Nat) (a0 : Nat) (x1 : Int) (x2 : Int) (x3 : Int) (h : Hp) : EX d 74 82 [(0, .inr (.inr a0)), (1, .inl x1), (2, .inl x2), (3, .inl x3)] [] h = if sK h a0 = 11 then if sK h a0 = 11 then if (wr ((hI h a0 6) + x3)) = (wr (hI h a0 7)) then EX d 74 95 [(1, .inl x1)] [] h else EX d 74 97 [(0, .inr (.inr a0)), (1, .inl x1), (2, .inl x2)] [] h else none else none := (EX_at bk_Mod_keyAt_82 _ _ _).trans rfl
theorem bk_Mod_keyAt_95 : blk 74 95 = some (((cd_Mod_keyAt.lookup 95).getD ([], 0, []))) := rfl
theorem Mod_keyAt_95 (d : Nat) (x1 : Int) (h : Hp) : EX d 74 95 [(1, .inl x1)] [] h = some (.inl x1, h) := (EX_at bk_Mod_keyAt_95 _ _ _).trans rfl
theorem bk_Mod_keyAt_97 : blk 74 97 = some (((cd_Mod_keyAt.lookup 97).getD ([], 0, []))) := rfl
theorem Mod_keyAt_97 (d : Nat) (a0 : Nat) (x1 : Int) (x2 : Int) (h : Hp) : EX d 74 97 [(0, .inr (.inr a0)), (1, .inl x1), (2, .inl x2)] [] h = if (okx h 4 40 x2 ∧ catS [] ≤ 8) then if (wr (hI h 4 (ix x2))) = 32 then EX d 74 114 [(0, .inr (.inr a0)), (1, .inl x1), (2, .inl x2)] [] h else EX d 74 108 [(0, .inr (.inr a0)), (1, .inl x1), (2, .inl x2)] [] h else none := (EX_at bk_Mod_keyAt_97 _ _ _).trans rfl
theorem bk_Mod_keyAt_108 : blk 74 108 = some (((cd_Mod_keyAt.lookup 108).getD ([], 0, []))) := rfl
theorem Mod_keyAt_108 (d : Nat) (a0 : Nat) (x1 : Int) (x2 : Int) (h : Hp) : EX d 74 108 [(0, .inr (.inr a0)), (1, .inl x1), (2, .inl x2)] [] h = EX d 74 97 [(0, .inr (.inr a0)), (1, .inl x1), (2, .inl (x2 + 1))] [] h := (EX_at bk_Mod_keyAt_108 _ _ _).trans rfl
theorem bk_Mod_keyAt_114 : blk 74 114 = some (((cd_Mod_keyAt.lookup 114).getD ([], 0, []))) := rfl
theorem Mod_keyAt_114 (d : Nat) (a0 : Nat) (x1 : Int) (x2 : Int) (h : Hp) : EX d 74 114 [(0, .inr (.inr a0)), (1, .inl x1), (2, .inl x2)] [] h = EX d 74 4 [(0, .inr (.inr a0)), (1, .inl (x1 + 1)), (2, .inl (x2 + 1))] [] h := (EX_at bk_Mod_keyAt_114 _ _ _).trans rfl
theorem bk_Mod_keyAt_123 : blk 74 123 = some (((cd_Mod_keyAt.lookup 123).getD ([], 0, []))) := rfl
theorem Mod_keyAt_123 (d : Nat) (h : Hp) : EX d 74 123 [] [] h = some (.inl 20, h) := (EX_at bk_Mod_keyAt_123 _ _ _).trans rfl
/-! isDigit(I)Z of HookOverModel: method 75 -/
theorem bk_Mod_isDigit_0 : blk 75 0 = some (((cd_Mod_isDigit.lookup 0).getD ([], 0, []))) := rfl
theorem Mod_isDigit_0 (d : Nat) (x0 : Int) (h : Hp) : EX d 75 0 [(0, .inl x0)] [] h = if (wr x0) < 48 then EX d 75 16 [] [] h else EX d 75 6 [(0, .inl x0)] [] h := (EX_at bk_Mod_isDigit_0 _ _ _).trans rfl
theorem bk_Mod_isDigit_6 : blk 75 6 = some (((cd_Mod_isDigit.lookup 6).getD ([], 0, []))) := rfl
theorem Mod_isDigit_6 (d : Nat) (x0 : Int) (h : Hp) : EX d 75 6 [(0, .inl x0)] [] h = if 57 < (wr x0) then EX d 75 16 [] [] h else EX d 75 12 [] [] h := (EX_at bk_Mod_isDigit_6 _ _ _).trans rfl
theorem bk_Mod_isDigit_12 : blk 75 12 = some (((cd_Mod_isDigit.lookup 12).getD ([], 0, []))) := rfl
theorem Mod_isDigit_12 (d : Nat) (h : Hp) : EX d 75 12 [] [] h = EX d 75 17 [] [.inl 1] h := (EX_at bk_Mod_isDigit_12 _ _ _).trans rfl
theorem bk_Mod_isDigit_16 : blk 75 16 = some (((cd_Mod_isDigit.lookup 16).getD ([], 0, []))) := rfl
theorem Mod_isDigit_16 (d : Nat) (h : Hp) : EX d 75 16 [] [] h = EX d 75 17 [] [.inl 0] h := (EX_at bk_Mod_isDigit_16 _ _ _).trans rfl
theorem bk_Mod_isDigit_17 : blk 75 17 = some (((cd_Mod_isDigit.lookup 17).getD ([], 0, []))) := rfl
theorem Mod_isDigit_17 (d : Nat) (s0 : Int) (h : Hp) : EX d 75 17 [] [.inl s0] h = if ((s0 : Int) = 0 ∨ (s0 : Int) = 1) then some (.inl s0, h) else none := (EX_at bk_Mod_isDigit_17 _ _ _).trans rfl
/-! next()V of HookOverModel: method 76 -/
theorem bk_Mod_next_0 : blk 76 0 = some (((cd_Mod_next.lookup 0).getD ([], 0, []))) := rfl
theorem Mod_next_0 (d : Nat) (a0 : Nat) (h : Hp) : EX d 76 0 [(0, .inr (.inr a0))] [] h = if sK h a0 = 11 then if sK h a0 = 11 then EX d 76 8 [(0, .inr (.inr a0))] [] (pI h a0 6 (hI h a0 7)) else none else none := (EX_at bk_Mod_next_0 _ _ _).trans rfl
theorem bk_Mod_next_8 : blk 76 8 = some (((cd_Mod_next.lookup 8).getD ([], 0, []))) := rfl
theorem Mod_next_8 (d : Nat) (a0 : Nat) (h : Hp) : EX d 76 8 [(0, .inr (.inr a0))] [] h = if sK h a0 = 11 then if sK h a0 = 11 then bak (EX d 76) 16 [(0, .inr (.inr a0))] [] false (cal d 72 [.inr (.inr a0), .inl (hI h a0 6)] h) else none else none := (EX_at bk_Mod_next_8 _ _ _).trans rfl
theorem bk_Mod_next_16 : blk 76 16 = some (((cd_Mod_next.lookup 16).getD ([], 0, []))) := rfl
theorem Mod_next_16 (d : Nat) (a0 : Nat) (s0 : Int) (h : Hp) : EX d 76 16 [(0, .inr (.inr a0))] [.inl s0] h = if (wr s0) = 10 then EX d 76 34 [(0, .inr (.inr a0))] [] h else EX d 76 21 [(0, .inr (.inr a0))] [] h := (EX_at bk_Mod_next_16 _ _ _).trans rfl
theorem bk_Mod_next_21 : blk 76 21 = some (((cd_Mod_next.lookup 21).getD ([], 0, []))) := rfl
theorem Mod_next_21 (d : Nat) (a0 : Nat) (h : Hp) : EX d 76 21 [(0, .inr (.inr a0))] [] h = if sK h a0 = 11 then if sK h a0 = 11 then bak (EX d 76) 29 [(0, .inr (.inr a0))] [] false (cal d 72 [.inr (.inr a0), .inl (hI h a0 6)] h) else none else none := (EX_at bk_Mod_next_21 _ _ _).trans rfl
theorem bk_Mod_next_29 : blk 76 29 = some (((cd_Mod_next.lookup 29).getD ([], 0, []))) := rfl
theorem Mod_next_29 (d : Nat) (a0 : Nat) (s0 : Int) (h : Hp) : EX d 76 29 [(0, .inr (.inr a0))] [.inl s0] h = if (wr s0) = 32 then EX d 76 34 [(0, .inr (.inr a0))] [] h else EX d 76 47 [(0, .inr (.inr a0))] [] h := (EX_at bk_Mod_next_29 _ _ _).trans rfl
theorem bk_Mod_next_34 : blk 76 34 = some (((cd_Mod_next.lookup 34).getD ([], 0, []))) := rfl
theorem Mod_next_34 (d : Nat) (a0 : Nat) (h : Hp) : EX d 76 34 [(0, .inr (.inr a0))] [] h = if sK h a0 = 11 then if sK h a0 = 11 then EX d 76 44 [(0, .inr (.inr a0))] [] (pI h a0 6 ((hI h a0 6) + 1)) else none else none := (EX_at bk_Mod_next_34 _ _ _).trans rfl
theorem bk_Mod_next_44 : blk 76 44 = some (((cd_Mod_next.lookup 44).getD ([], 0, []))) := rfl
theorem Mod_next_44 (d : Nat) (a0 : Nat) (h : Hp) : EX d 76 44 [(0, .inr (.inr a0))] [] h = EX d 76 8 [(0, .inr (.inr a0))] [] h := (EX_at bk_Mod_next_44 _ _ _).trans rfl
theorem bk_Mod_next_47 : blk 76 47 = some (((cd_Mod_next.lookup 47).getD ([], 0, []))) := rfl
theorem Mod_next_47 (d : Nat) (a0 : Nat) (h : Hp) : EX d 76 47 [(0, .inr (.inr a0))] [] h = if sK h a0 = 11 then if sK h a0 = 11 then EX d 76 55 [(0, .inr (.inr a0))] [] (pI h a0 7 (hI h a0 6)) else none else none := (EX_at bk_Mod_next_47 _ _ _).trans rfl
theorem bk_Mod_next_55 : blk 76 55 = some (((cd_Mod_next.lookup 55).getD ([], 0, []))) := rfl
theorem Mod_next_55 (d : Nat) (a0 : Nat) (h : Hp) : EX d 76 55 [(0, .inr (.inr a0))] [] h = if sK h a0 = 11 then if sK h a0 = 11 then if (wr (hI h a0 6)) < (wr (hI h a0 8)) then EX d 76 75 [(0, .inr (.inr a0))] [] h else EX d 76 66 [(0, .inr (.inr a0))] [] h else none else none := (EX_at bk_Mod_next_55 _ _ _).trans rfl
theorem bk_Mod_next_66 : blk 76 66 = some (((cd_Mod_next.lookup 66).getD ([], 0, []))) := rfl
theorem Mod_next_66 (d : Nat) (a0 : Nat) (h : Hp) : EX d 76 66 [(0, .inr (.inr a0))] [] h = if sK h a0 = 11 then EX d 76 72 [] [] (pI h a0 9 22) else none := (EX_at bk_Mod_next_66 _ _ _).trans rfl
theorem bk_Mod_next_72 : blk 76 72 = some (((cd_Mod_next.lookup 72).getD ([], 0, []))) := rfl
theorem Mod_next_72 (d : Nat) (h : Hp) : EX d 76 72 [] [] h = EX d 76 294 [] [] h := (EX_at bk_Mod_next_72 _ _ _).trans rfl
theorem bk_Mod_next_75 : blk 76 75 = some (((cd_Mod_next.lookup 75).getD ([], 0, []))) := rfl
theorem Mod_next_75 (d : Nat) (a0 : Nat) (h : Hp) : EX d 76 75 [(0, .inr (.inr a0))] [] h = if sK h a0 = 11 then if sK h a0 = 11 then bak (EX d 76) 83 [(0, .inr (.inr a0))] [] false (cal d 72 [.inr (.inr a0), .inl (hI h a0 6)] h) else none else none := (EX_at bk_Mod_next_75 _ _ _).trans rfl
theorem bk_Mod_next_83 : blk 76 83 = some (((cd_Mod_next.lookup 83).getD ([], 0, []))) := rfl
theorem Mod_next_83 (d : Nat) (a0 : Nat) (s0 : Int) (h : Hp) : EX d 76 83 [(0, .inr (.inr a0))] [.inl s0] h = bak (EX d 76) 86 [(0, .inr (.inr a0))] [] false (cal d 73 [.inl s0] h) := (EX_at bk_Mod_next_83 _ _ _).trans rfl
theorem bk_Mod_next_86 : blk 76 86 = some (((cd_Mod_next.lookup 86).getD ([], 0, []))) := rfl
theorem Mod_next_86 (d : Nat) (a0 : Nat) (s0 : Int) (h : Hp) : EX d 76 86 [(0, .inr (.inr a0))] [.inl s0] h = if (wr s0) = 0 then EX d 76 127 [(0, .inr (.inr a0))] [] h else EX d 76 89 [(0, .inr (.inr a0))] [] h := (EX_at bk_Mod_next_86 _ _ _).trans rfl
theorem bk_Mod_next_89 : blk 76 89 = some (((cd_Mod_next.lookup 89).getD ([], 0, []))) := rfl
theorem Mod_next_89 (d : Nat) (a0 : Nat) (h : Hp) : EX d 76 89 [(0, .inr (.inr a0))] [] h = if sK h a0 = 11 then if sK h a0 = 11 then bak (EX d 76) 97 [(0, .inr (.inr a0))] [] false (cal d 72 [.inr (.inr a0), .inl (hI h a0 7)] h) else none else none := (EX_at bk_Mod_next_89 _ _ _).trans rfl
theorem bk_Mod_next_97 : blk 76 97 = some (((cd_Mod_next.lookup 97).getD ([], 0, []))) := rfl
theorem Mod_next_97 (d : Nat) (a0 : Nat) (s0 : Int) (h : Hp) : EX d 76 97 [(0, .inr (.inr a0))] [.inl s0] h = bak (EX d 76) 100 [(0, .inr (.inr a0))] [] false (cal d 73 [.inl s0] h) := (EX_at bk_Mod_next_97 _ _ _).trans rfl
theorem bk_Mod_next_100 : blk 76 100 = some (((cd_Mod_next.lookup 100).getD ([], 0, []))) := rfl
theorem Mod_next_100 (d : Nat) (a0 : Nat) (s0 : Int) (h : Hp) : EX d 76 100 [(0, .inr (.inr a0))] [.inl s0] h = if (wr s0) = 0 then EX d 76 116 [(0, .inr (.inr a0))] [] h else EX d 76 103 [(0, .inr (.inr a0))] [] h := (EX_at bk_Mod_next_100 _ _ _).trans rfl
theorem bk_Mod_next_103 : blk 76 103 = some (((cd_Mod_next.lookup 103).getD ([], 0, []))) := rfl
theorem Mod_next_103 (d : Nat) (a0 : Nat) (h : Hp) : EX d 76 103 [(0, .inr (.inr a0))] [] h = if sK h a0 = 11 then if sK h a0 = 11 then EX d 76 113 [(0, .inr (.inr a0))] [] (pI h a0 7 ((hI h a0 7) + 1)) else none else none := (EX_at bk_Mod_next_103 _ _ _).trans rfl
theorem bk_Mod_next_113 : blk 76 113 = some (((cd_Mod_next.lookup 113).getD ([], 0, []))) := rfl
theorem Mod_next_113 (d : Nat) (a0 : Nat) (h : Hp) : EX d 76 113 [(0, .inr (.inr a0))] [] h = EX d 76 89 [(0, .inr (.inr a0))] [] h := (EX_at bk_Mod_next_113 _ _ _).trans rfl
theorem bk_Mod_next_116 : blk 76 116 = some (((cd_Mod_next.lookup 116).getD ([], 0, []))) := rfl
theorem Mod_next_116 (d : Nat) (a0 : Nat) (h : Hp) : EX d 76 116 [(0, .inr (.inr a0))] [] h = if sK h a0 = 11 then bak (EX d 76) 121 [] [.inr (.inr a0)] false (cal d 74 [.inr (.inr a0)] h) else none := (EX_at bk_Mod_next_116 _ _ _).trans rfl
theorem bk_Mod_next_121 : blk 76 121 = some (((cd_Mod_next.lookup 121).getD ([], 0, []))) := rfl
theorem Mod_next_121 (d : Nat) (r0 : Nat) (s1 : Int) (h : Hp) : EX d 76 121 [] [.inl s1, .inr (.inr r0)] h = if sK h r0 = 11 then EX d 76 124 [] [] (pI h r0 9 s1) else none := (EX_at bk_Mod_next_121 _ _ _).trans rfl
theorem bk_Mod_next_124 : blk 76 124 = some (((cd_Mod_next.lookup 124).getD ([], 0, []))) := rfl
theorem Mod_next_124 (d : Nat) (h : Hp) : EX d 76 124 [] [] h = EX d 76 294 [] [] h := (EX_at bk_Mod_next_124 _ _ _).trans rfl
theorem bk_Mod_next_127 : blk 76 127 = some (((cd_Mod_next.lookup 127).getD ([], 0, []))) := rfl
theorem Mod_next_127 (d : Nat) (a0 : Nat) (h : Hp) : EX d 76 127 [(0, .inr (.inr a0))] [] h = if sK h a0 = 11 then if sK h a0 = 11 then bak (EX d 76) 135 [(0, .inr (.inr a0))] [] false (cal d 72 [.inr (.inr a0), .inl (hI h a0 6)] h) else none else none := (EX_at bk_Mod_next_127 _ _ _).trans rfl
theorem bk_Mod_next_135 : blk 76 135 = some (((cd_Mod_next.lookup 135).getD ([], 0, []))) := rfl
theorem Mod_next_135 (d : Nat) (a0 : Nat) (s0 : Int) (h : Hp) : EX d 76 135 [(0, .inr (.inr a0))] [.inl s0] h = bak (EX d 76) 138 [(0, .inr (.inr a0))] [] false (cal d 75 [.inl s0] h) := (EX_at bk_Mod_next_135 _ _ _).trans rfl
theorem bk_Mod_next_138 : blk 76 138 = some (((cd_Mod_next.lookup 138).getD ([], 0, []))) := rfl
theorem Mod_next_138 (d : Nat) (a0 : Nat) (s0 : Int) (h : Hp) : EX d 76 138 [(0, .inr (.inr a0))] [.inl s0] h = if (wr s0) = 0 then EX d 76 236 [(0, .inr (.inr a0))] [] h else EX d 76 141 [(0, .inr (.inr a0))] [] h := (EX_at bk_Mod_next_138 _ _ _).trans rfl
theorem bk_Mod_next_141 : blk 76 141 = some (((cd_Mod_next.lookup 141).getD ([], 0, []))) := rfl
theorem Mod_next_141 (d : Nat) (a0 : Nat) (h : Hp) : EX d 76 141 [(0, .inr (.inr a0))] [] h = if sK h a0 = 11 then EX d 76 146 [(0, .inr (.inr a0))] [] (pI h a0 10 0) else none := (EX_at bk_Mod_next_141 _ _ _).trans rfl
theorem bk_Mod_next_146 : blk 76 146 = some (((cd_Mod_next.lookup 146).getD ([], 0, []))) := rfl
theorem Mod_next_146 (d : Nat) (a0 : Nat) (h : Hp) : EX d 76 146 [(0, .inr (.inr a0))] [] h = if sK h a0 = 11 then if sK h a0 = 11 then bak (EX d 76) 154 [(0, .inr (.inr a0))] [] false (cal d 72 [.inr (.inr a0), .inl (hI h a0 7)] h) else none else none := (EX_at bk_Mod_next_146 _ _ _).trans rfl
theorem bk_Mod_next_154 : blk 76 154 = some (((cd_Mod_next.lookup 154).getD ([], 0, []))) := rfl
theorem Mod_next_154 (d : Nat) (a0 : Nat) (s0 : Int) (h : Hp) : EX d 76 154 [(0, .inr (.inr a0))] [.inl s0] h = bak (EX d 76) 157 [(0, .inr (.inr a0))] [] false (cal d 75 [.inl s0] h) := (EX_at bk_Mod_next_154 _ _ _).trans rfl
theorem bk_Mod_next_157 : blk 76 157 = some (((cd_Mod_next.lookup 157).getD ([], 0, []))) := rfl
theorem Mod_next_157 (d : Nat) (a0 : Nat) (s0 : Int) (h : Hp) : EX d 76 157 [(0, .inr (.inr a0))] [.inl s0] h = if (wr s0) = 0 then EX d 76 209 [(0, .inr (.inr a0))] [] h else EX d 76 160 [(0, .inr (.inr a0))] [] h := (EX_at bk_Mod_next_157 _ _ _).trans rfl
theorem bk_Mod_next_160 : blk 76 160 = some (((cd_Mod_next.lookup 160).getD ([], 0, []))) := rfl
theorem Mod_next_160 (d : Nat) (a0 : Nat) (h : Hp) : EX d 76 160 [(0, .inr (.inr a0))] [] h = if sK h a0 = 11 then if sK h a0 = 11 then if (wr ((hI h a0 7) - (hI h a0 6))) < 3 then EX d 76 173 [(0, .inr (.inr a0))] [] h else EX d 76 196 [(0, .inr (.inr a0))] [] h else none else none := (EX_at bk_Mod_next_160 _ _ _).trans rfl
theorem bk_Mod_next_173 : blk 76 173 = some (((cd_Mod_next.lookup 173).getD ([], 0, []))) := rfl
theorem Mod_next_173 (d : Nat) (a0 : Nat) (h : Hp) : EX d 76 173 [(0, .inr (.inr a0))] [] h = if sK h a0 = 11 then if sK h a0 = 11 then if sK h a0 = 11 then bak (EX d 76) 189 [(0, .inr (.inr a0))] [.inl (10 * (hI h a0 10)), .inr (.inr a0)] false (cal d 72 [.inr (.inr a0), .inl (hI h a0 7)] h) else none else none else none := (EX_at bk_Mod_next_173 _ _ _).trans rfl
theorem bk_Mod_next_189 : blk 76 189 = some (((cd_Mod_next.lookup 189).getD ([], 0, []))) := rfl
theorem Mod_next_189 (d : Nat) (a0 : Nat) (r0 : Nat) (s1 : Int) (s2 : Int) (h : Hp) : EX d 76 189 [(0, .inr (.inr a0))] [.inl s2, .inl s1, .inr (.inr r0)] h = if sK h r0 = 11 then EX d 76 196 [(0, .inr (.inr a0))] [] (pI h r0 10 ((s1 + s2) - 48)) else none := (EX_at bk_Mod_next_189 _ _ _).trans rfl
theorem bk_Mod_next_196 : blk 76 196 = some (((cd_Mod_next.lookup 196).getD ([], 0, []))) := rfl
theorem Mod_next_196 (d : Nat) (a0 : Nat) (h : Hp) : EX d 76 196 [(0, .inr (.inr a0))] [] h = if sK h a0 = 11 then if sK h a0 = 11 then EX d 76 206 [(0, .inr (.inr a0))] [] (pI h a0 7 ((hI h a0 7) + 1)) else none else none := (EX_at bk_Mod_next_196 _ _ _).trans rfl
theorem bk_Mod_next_206 : blk 76 206 = some (((cd_Mod_next.lookup 206).getD ([], 0, []))) := rfl
theorem Mod_next_206 (d : Nat) (a0 : Nat) (h : Hp) : EX d 76 206 [(0, .inr (.inr a0))] [] h = EX d 76 146 [(0, .inr (.inr a0))] [] h := (EX_at bk_Mod_next_206 _ _ _).trans rfl
theorem bk_Mod_next_209 : blk 76 209 = some (((cd_Mod_next.lookup 209).getD ([], 0, []))) := rfl
theorem Mod_next_209 (d : Nat) (a0 : Nat) (h : Hp) : EX d 76 209 [(0, .inr (.inr a0))] [] h = if sK h a0 = 11 then if sK h a0 = 11 then if 3 < (wr ((hI h a0 7) - (hI h a0 6))) then EX d 76 223 [] [.inr (.inr a0)] h else EX d 76 228 [] [.inr (.inr a0)] h else none else none := (EX_at bk_Mod_next_209 _ _ _).trans rfl
theorem bk_Mod_next_223 : blk 76 223 = some (((cd_Mod_next.lookup 223).getD ([], 0, []))) := rfl
theorem Mod_next_223 (d : Nat) (r0 : Nat) (h : Hp) : EX d 76 223 [] [.inr (.inr r0)] h = EX d 76 230 [] [.inl 23, .inr (.inr r0)] h := (EX_at bk_Mod_next_223 _ _ _).trans rfl
theorem bk_Mod_next_228 : blk 76 228 = some (((cd_Mod_next.lookup 228).getD ([], 0, []))) := rfl
theorem Mod_next_228 (d : Nat) (r0 : Nat) (h : Hp) : EX d 76 228 [] [.inr (.inr r0)] h = EX d 76 230 [] [.inl 21, .inr (.inr r0)] h := (EX_at bk_Mod_next_228 _ _ _).trans rfl
theorem bk_Mod_next_230 : blk 76 230 = some (((cd_Mod_next.lookup 230).getD ([], 0, []))) := rfl
theorem Mod_next_230 (d : Nat) (r0 : Nat) (s1 : Int) (h : Hp) : EX d 76 230 [] [.inl s1, .inr (.inr r0)] h = if sK h r0 = 11 then EX d 76 233 [] [] (pI h r0 9 s1) else none := (EX_at bk_Mod_next_230 _ _ _).trans rfl
theorem bk_Mod_next_233 : blk 76 233 = some (((cd_Mod_next.lookup 233).getD ([], 0, []))) := rfl
theorem Mod_next_233 (d : Nat) (h : Hp) : EX d 76 233 [] [] h = EX d 76 294 [] [] h := (EX_at bk_Mod_next_233 _ _ _).trans rfl
theorem bk_Mod_next_236 : blk 76 236 = some (((cd_Mod_next.lookup 236).getD ([], 0, []))) := rfl
theorem Mod_next_236 (d : Nat) (a0 : Nat) (h : Hp) : EX d 76 236 [(0, .inr (.inr a0))] [] h = if sK h a0 = 11 then if sK h a0 = 11 then EX d 76 246 [(0, .inr (.inr a0))] [] (pI h a0 7 ((hI h a0 7) + 1)) else none else none := (EX_at bk_Mod_next_236 _ _ _).trans rfl
theorem bk_Mod_next_246 : blk 76 246 = some (((cd_Mod_next.lookup 246).getD ([], 0, []))) := rfl
theorem Mod_next_246 (d : Nat) (a0 : Nat) (h : Hp) : EX d 76 246 [(0, .inr (.inr a0))] [] h = if sK h a0 = 11 then EX d 76 252 [(0, .inr (.inr a0))] [] (pI h a0 9 23) else none := (EX_at bk_Mod_next_246 _ _ _).trans rfl
theorem bk_Mod_next_252 : blk 76 252 = some (((cd_Mod_next.lookup 252).getD ([], 0, []))) := rfl
theorem Mod_next_252 (d : Nat) (a0 : Nat) (h : Hp) : EX d 76 252 [(0, .inr (.inr a0))] [] h = EX d 76 254 [(0, .inr (.inr a0)), (1, .inl 0)] [] h := (EX_at bk_Mod_next_252 _ _ _).trans rfl
theorem bk_Mod_next_254 : blk 76 254 = some (((cd_Mod_next.lookup 254).getD ([], 0, []))) := rfl
theorem Mod_next_254 (d : Nat) (a0 : Nat) (x1 : Int) (h : Hp) : EX d 76 254 [(0, .inr (.inr a0)), (1, .inl x1)] [] h = if (sK h 3 = 40 ∧ catS [.inl x1] ≤ 8) then if (wr x1) < (wr (sL h 3)) then EX d 76 263 [(0, .inr (.inr a0)), (1, .inl x1)] [] h else EX d 76 294 [] [] h else none := (EX_at bk_Mod_next_254 _ _ _).trans rfl
theorem bk_Mod_next_263 : blk 76 263 = some (((cd_Mod_next.lookup 263).getD ([], 0, []))) := rfl
theorem Mod_next_263 (d : Nat) (a0 : Nat) (x1 : Int) (h : Hp) : EX d 76 263 [(0, .inr (.inr a0)), (1, .inl x1)] [] h = if sK h a0 = 11 then if sK h a0 = 11 then bak (EX d 76) 271 [(0, .inr (.inr a0)), (1, .inl x1)] [] false (cal d 72 [.inr (.inr a0), .inl (hI h a0 6)] h) else none else none := (EX_at bk_Mod_next_263 _ _ _).trans rfl
theorem bk_Mod_next_271 : blk 76 271 = some (((cd_Mod_next.lookup 271).getD ([], 0, []))) := rfl
theorem Mod_next_271 (d : Nat) (a0 : Nat) (x1 : Int) (s0 : Int) (h : Hp) : EX d 76 271 [(0, .inr (.inr a0)), (1, .inl x1)] [.inl s0] h = if (okx h 3 40 x1 ∧ catS [.inl s0] ≤ 8) then if (wr s0) = (wr (hI h 3 (ix x1))) then EX d 76 280 [(0, .inr (.inr a0)), (1, .inl x1)] [] h else EX d 76 288 [(0, .inr (.inr a0)), (1, .inl x1)] [] h else none := (EX_at bk_Mod_next_271 _ _ _).trans rfl
theorem bk_Mod_next_280 : blk 76 280 = some (((cd_Mod_next.lookup 280).getD ([], 0, []))) := rfl
theorem Mod_next_280 (d : Nat) (a0 : Nat) (x1 : Int) (h : Hp) : EX d 76 280 [(0, .inr (.inr a0)), (1, .inl x1)] [] h = if sK h a0 = 11 then EX d 76 288 [(0, .inr (.inr a0)), (1, .inl x1)] [] (pI h a0 9 (25 + x1)) else none := (EX_at bk_Mod_next_280 _ _ _).trans rfl
theorem bk_Mod_next_288 : blk 76 288 = some (((cd_Mod_next.lookup 288).getD ([], 0, []))) := rfl
theorem Mod_next_288 (d : Nat) (a0 : Nat) (x1 : Int) (h : Hp) : EX d 76 288 [(0, .inr (.inr a0)), (1, .inl x1)] [] h = EX d 76 254 [(0, .inr (.inr a0)), (1, .inl (x1 + 1))] [] h := (EX_at bk_Mod_next_288 _ _ _).trans rfl
theorem bk_Mod_next_294 : blk 76 294 = some (((cd_Mod_next.lookup 294).getD ([], 0, []))) := rfl
theorem Mod_next_294 (d : Nat) (h : Hp) : EX d 76 294 [] [] h = some (.inl 0, h) := (EX_at bk_Mod_next_294 _ _ _).trans rfl
/-! is(I)Z of HookOverModel: method 77 -/
theorem bk_Mod_is_0 : blk 77 0 = some (((cd_Mod_is.lookup 0).getD ([], 0, []))) := rfl
theorem Mod_is_0 (d : Nat) (a0 : Nat) (x1 : Int) (h : Hp) : EX d 77 0 [(0, .inr (.inr a0)), (1, .inl x1)] [] h = if sK h a0 = 11 then if (wr (hI h a0 11)) = 0 then EX d 77 7 [(0, .inr (.inr a0)), (1, .inl x1)] [] h else EX d 77 19 [] [] h else none := (EX_at bk_Mod_is_0 _ _ _).trans rfl
theorem bk_Mod_is_7 : blk 77 7 = some (((cd_Mod_is.lookup 7).getD ([], 0, []))) := rfl
theorem Mod_is_7 (d : Nat) (a0 : Nat) (x1 : Int) (h : Hp) : EX d 77 7 [(0, .inr (.inr a0)), (1, .inl x1)] [] h = if sK h a0 = 11 then if (wr (hI h a0 9)) = (wr x1) then EX d 77 15 [] [] h else EX d 77 19 [] [] h else none := (EX_at bk_Mod_is_7 _ _ _).trans rfl
theorem bk_Mod_is_15 : blk 77 15 = some (((cd_Mod_is.lookup 15).getD ([], 0, []))) := rfl
theorem Mod_is_15 (d : Nat) (h : Hp) : EX d 77 15 [] [] h = EX d 77 20 [] [.inl 1] h := (EX_at bk_Mod_is_15 _ _ _).trans rfl
theorem bk_Mod_is_19 : blk 77 19 = some (((cd_Mod_is.lookup 19).getD ([], 0, []))) := rfl
theorem Mod_is_19 (d : Nat) (h : Hp) : EX d 77 19 [] [] h = EX d 77 20 [] [.inl 0] h := (EX_at bk_Mod_is_19 _ _ _).trans rfl
theorem bk_Mod_is_20 : blk 77 20 = some (((cd_Mod_is.lookup 20).getD ([], 0, []))) := rfl
theorem Mod_is_20 (d : Nat) (s0 : Int) (h : Hp) : EX d 77 20 [] [.inl s0] h = if ((s0 : Int) = 0 ∨ (s0 : Int) = 1) then some (.inl s0, h) else none := (EX_at bk_Mod_is_20 _ _ _).trans rfl
/-! fails(I)V of HookOverModel: method 78 -/
theorem bk_Mod_fails_0 : blk 78 0 = some (((cd_Mod_fails.lookup 0).getD ([], 0, []))) := rfl
theorem Mod_fails_0 (d : Nat) (a0 : Nat) (x1 : Int) (h : Hp) : EX d 78 0 [(0, .inr (.inr a0)), (1, .inl x1)] [] h = if sK h a0 = 11 then if (wr (hI h a0 11)) = 0 then EX d 78 8 [(0, .inr (.inr a0)), (1, .inl x1)] [] h else EX d 78 7 [] [] h else none := (EX_at bk_Mod_fails_0 _ _ _).trans rfl
theorem bk_Mod_fails_7 : blk 78 7 = some (((cd_Mod_fails.lookup 7).getD ([], 0, []))) := rfl
theorem Mod_fails_7 (d : Nat) (h : Hp) : EX d 78 7 [] [] h = some (.inl 0, h) := (EX_at bk_Mod_fails_7 _ _ _).trans rfl
theorem bk_Mod_fails_8 : blk 78 8 = some (((cd_Mod_fails.lookup 8).getD ([], 0, []))) := rfl
theorem Mod_fails_8 (d : Nat) (a0 : Nat) (x1 : Int) (h : Hp) : EX d 78 8 [(0, .inr (.inr a0)), (1, .inl x1)] [] h = if sK h a0 = 11 then if (wr (hI h a0 9)) = 23 then EX d 78 18 [(0, .inr (.inr a0))] [.inr (.inr a0)] h else EX d 78 22 [(0, .inr (.inr a0)), (1, .inl x1)] [.inr (.inr a0)] h else none := (EX_at bk_Mod_fails_8 _ _ _).trans rfl
theorem bk_Mod_fails_18 : blk 78 18 = some (((cd_Mod_fails.lookup 18).getD ([], 0, []))) := rfl
theorem Mod_fails_18 (d : Nat) (a0 : Nat) (r0 : Nat) (h : Hp) : EX d 78 18 [(0, .inr (.inr a0))] [.inr (.inr r0)] h = EX d 78 23 [(0, .inr (.inr a0))] [.inl 1, .inr (.inr r0)] h := (EX_at bk_Mod_fails_18 _ _ _).trans rfl
theorem bk_Mod_fails_22 : blk 78 22 = some (((cd_Mod_fails.lookup 22).getD ([], 0, []))) := rfl
theorem Mod_fails_22 (d : Nat) (a0 : Nat) (x1 : Int) (r0 : Nat) (h : Hp) : EX d 78 22 [(0, .inr (.inr a0)), (1, .inl x1)] [.inr (.inr r0)] h = EX d 78 23 [(0, .inr (.inr a0))] [.inl x1, .inr (.inr r0)] h := (EX_at bk_Mod_fails_22 _ _ _).trans rfl
theorem bk_Mod_fails_23 : blk 78 23 = some (((cd_Mod_fails.lookup 23).getD ([], 0, []))) := rfl
theorem Mod_fails_23 (d : Nat) (a0 : Nat) (r0 : Nat) (s1 : Int) (h : Hp) : EX d 78 23 [(0, .inr (.inr a0))] [.inl s1, .inr (.inr r0)] h = if sK h r0 = 11 then EX d 78 26 [(0, .inr (.inr a0))] [] (pI h r0 11 s1) else none := (EX_at bk_Mod_fails_23 _ _ _).trans rfl
theorem bk_Mod_fails_26 : blk 78 26 = some (((cd_Mod_fails.lookup 26).getD ([], 0, []))) := rfl
theorem Mod_fails_26 (d : Nat) (a0 : Nat) (h : Hp) : EX d 78 26 [(0, .inr (.inr a0))] [] h = if sK h a0 = 11 then if sK h a0 = 11 then EX d 78 34 [] [] (pI h a0 12 (hI h a0 6)) else none else none := (EX_at bk_Mod_fails_26 _ _ _).trans rfl
theorem bk_Mod_fails_34 : blk 78 34 = some (((cd_Mod_fails.lookup 34).getD ([], 0, []))) := rfl
theorem Mod_fails_34 (d : Nat) (h : Hp) : EX d 78 34 [] [] h = some (.inl 0, h) := (EX_at bk_Mod_fails_34 _ _ _).trans rfl
/-! takes(II)I of HookOverModel: method 79 -/
theorem bk_Mod_takes_0 : blk 79 0 = some (((cd_Mod_takes.lookup 0).getD ([], 0, []))) := rfl
theorem Mod_takes_0 (d : Nat) (a0 : Nat) (x1 : Int) (x2 : Int) (h : Hp) : EX d 79 0 [(0, .inr (.inr a0)), (1, .inl x1), (2, .inl x2)] [] h = if sK h a0 = 11 then bak (EX d 79) 6 [(0, .inr (.inr a0)), (1, .inl x1), (2, .inl x2)] [] false (cal d 77 [.inr (.inr a0), .inl 21] h) else none := (EX_at bk_Mod_takes_0 _ _ _).trans rfl
theorem bk_Mod_takes_6 : blk 79 6 = some (((cd_Mod_takes.lookup 6).getD ([], 0, []))) := rfl
theorem Mod_takes_6 (d : Nat) (a0 : Nat) (x1 : Int) (x2 : Int) (s0 : Int) (h : Hp) : EX d 79 6 [(0, .inr (.inr a0)), (1, .inl x1), (2, .inl x2)] [.inl s0] h = if (wr s0) = 0 then EX d 79 9 [(0, .inr (.inr a0))] [] h else EX d 79 17 [(0, .inr (.inr a0)), (1, .inl x1), (2, .inl x2)] [] h := (EX_at bk_Mod_takes_6 _ _ _).trans rfl
theorem bk_Mod_takes_9 : blk 79 9 = some (((cd_Mod_takes.lookup 9).getD ([], 0, []))) := rfl
theorem Mod_takes_9 (d : Nat) (a0 : Nat) (h : Hp) : EX d 79 9 [(0, .inr (.inr a0))] [] h = if sK h a0 = 11 then bak (EX d 79) 14 [(0, .inr (.inr a0))] [] true (cal d 78 [.inr (.inr a0), .inl 2] h) else none := (EX_at bk_Mod_takes_9 _ _ _).trans rfl
theorem bk_Mod_takes_14 : blk 79 14 = some (((cd_Mod_takes.lookup 14).getD ([], 0, []))) := rfl
theorem Mod_takes_14 (d : Nat) (a0 : Nat) (h : Hp) : EX d 79 14 [(0, .inr (.inr a0))] [] h = EX d 79 37 [(0, .inr (.inr a0))] [] h := (EX_at bk_Mod_takes_14 _ _ _).trans rfl
theorem bk_Mod_takes_17 : blk 79 17 = some (((cd_Mod_takes.lookup 17).getD ([], 0, []))) := rfl
theorem Mod_takes_17 (d : Nat) (a0 : Nat) (x1 : Int) (x2 : Int) (h : Hp) : EX d 79 17 [(0, .inr (.inr a0)), (1, .inl x1), (2, .inl x2)] [] h = if sK h a0 = 11 then bak (EX d 79) 29 [(0, .inr (.inr a0))] [] false (cal d 71 [.inr (.inl (wr (hI h a0 10))), .inr (.inl (wr x1)), .inr (.inl (wr x2))] h) else none := (EX_at bk_Mod_takes_17 _ _ _).trans rfl
theorem bk_Mod_takes_29 : blk 79 29 = some (((cd_Mod_takes.lookup 29).getD ([], 0, []))) := rfl
theorem Mod_takes_29 (d : Nat) (a0 : Nat) (s0 : Int) (h : Hp) : EX d 79 29 [(0, .inr (.inr a0))] [.inl s0] h = if (wr s0) = 0 then EX d 79 32 [(0, .inr (.inr a0))] [] h else EX d 79 37 [(0, .inr (.inr a0))] [] h := (EX_at bk_Mod_takes_29 _ _ _).trans rfl
theorem bk_Mod_takes_32 : blk 79 32 = some (((cd_Mod_takes.lookup 32).getD ([], 0, []))) := rfl
theorem Mod_takes_32 (d : Nat) (a0 : Nat) (h : Hp) : EX d 79 32 [(0, .inr (.inr a0))] [] h = if sK h a0 = 11 then bak (EX d 79) 37 [(0, .inr (.inr a0))] [] true (cal d 78 [.inr (.inr a0), .inl 3] h) else none := (EX_at bk_Mod_takes_32 _ _ _).trans rfl
theorem bk_Mod_takes_37 : blk 79 37 = some (((cd_Mod_takes.lookup 37).getD ([], 0, []))) := rfl
theorem Mod_takes_37 (d : Nat) (a0 : Nat) (h : Hp) : EX d 79 37 [(0, .inr (.inr a0))] [] h = if sK h a0 = 11 then if sK h a0 = 11 then if (wr (hI h a0 11)) = 0 then EX d 79 49 [(0, .inr (.inr a0)), (3, .inl (hI h a0 10))] [] h else EX d 79 53 [(3, .inl (hI h a0 10))] [] h else none else none := (EX_at bk_Mod_takes_37 _ _ _).trans rfl
theorem bk_Mod_takes_49 : blk 79 49 = some (((cd_Mod_takes.lookup 49).getD ([], 0, []))) := rfl
theorem Mod_takes_49 (d : Nat) (a0 : Nat) (x3 : Int) (h : Hp) : EX d 79 49 [(0, .inr (.inr a0)), (3, .inl x3)] [] h = if sK h a0 = 11 then bak (EX d 79) 53 [(3, .inl x3)] [] true (cal d 76 [.inr (.inr a0)] h) else none := (EX_at bk_Mod_takes_49 _ _ _).trans rfl
theorem bk_Mod_takes_53 : blk 79 53 = some (((cd_Mod_takes.lookup 53).getD ([], 0, []))) := rfl
theorem Mod_takes_53 (d : Nat) (x3 : Int) (h : Hp) : EX d 79 53 [(3, .inl x3)] [] h = some (.inl x3, h) := (EX_at bk_Mod_takes_53 _ _ _).trans rfl
/-! takesRow(I)I of HookOverModel: method 80 -/
theorem bk_Mod_takesRow_0 : blk 80 0 = some (((cd_Mod_takesRow.lookup 0).getD ([], 0, []))) := rfl
theorem Mod_takesRow_0 (d : Nat) (a0 : Nat) (x1 : Int) (h : Hp) : EX d 80 0 [(0, .inr (.inr a0)), (1, .inl x1)] [] h = EX d 80 2 [(0, .inr (.inr a0)), (1, .inl x1), (2, .inl 0)] [] h := (EX_at bk_Mod_takesRow_0 _ _ _).trans rfl
theorem bk_Mod_takesRow_2 : blk 80 2 = some (((cd_Mod_takesRow.lookup 2).getD ([], 0, []))) := rfl
theorem Mod_takesRow_2 (d : Nat) (a0 : Nat) (x1 : Int) (x2 : Int) (h : Hp) : EX d 80 2 [(0, .inr (.inr a0)), (1, .inl x1), (2, .inl x2)] [] h = if sK h a0 = 11 then if (wr (hI h a0 11)) = 0 then EX d 80 9 [(0, .inr (.inr a0)), (1, .inl x1), (2, .inl x2)] [] h else EX d 80 89 [(2, .inl x2)] [] h else none := (EX_at bk_Mod_takesRow_2 _ _ _).trans rfl
theorem bk_Mod_takesRow_9 : blk 80 9 = some (((cd_Mod_takesRow.lookup 9).getD ([], 0, []))) := rfl
theorem Mod_takesRow_9 (d : Nat) (a0 : Nat) (x1 : Int) (x2 : Int) (h : Hp) : EX d 80 9 [(0, .inr (.inr a0)), (1, .inl x1), (2, .inl x2)] [] h = if (wr x2) = 0 then EX d 80 22 [(0, .inr (.inr a0)), (1, .inl x1), (2, .inl x2)] [] h else EX d 80 13 [(0, .inr (.inr a0)), (1, .inl x1), (2, .inl x2)] [] h := (EX_at bk_Mod_takesRow_9 _ _ _).trans rfl
theorem bk_Mod_takesRow_13 : blk 80 13 = some (((cd_Mod_takesRow.lookup 13).getD ([], 0, []))) := rfl
theorem Mod_takesRow_13 (d : Nat) (a0 : Nat) (x1 : Int) (x2 : Int) (h : Hp) : EX d 80 13 [(0, .inr (.inr a0)), (1, .inl x1), (2, .inl x2)] [] h = if sK h a0 = 11 then bak (EX d 80) 19 [(0, .inr (.inr a0)), (1, .inl x1), (2, .inl x2)] [] false (cal d 77 [.inr (.inr a0), .inl 21] h) else none := (EX_at bk_Mod_takesRow_13 _ _ _).trans rfl
theorem bk_Mod_takesRow_19 : blk 80 19 = some (((cd_Mod_takesRow.lookup 19).getD ([], 0, []))) := rfl
theorem Mod_takesRow_19 (d : Nat) (a0 : Nat) (x1 : Int) (x2 : Int) (s0 : Int) (h : Hp) : EX d 80 19 [(0, .inr (.inr a0)), (1, .inl x1), (2, .inl x2)] [.inl s0] h = if (wr s0) = 0 then EX d 80 89 [(2, .inl x2)] [] h else EX d 80 22 [(0, .inr (.inr a0)), (1, .inl x1), (2, .inl x2)] [] h := (EX_at bk_Mod_takesRow_19 _ _ _).trans rfl
theorem bk_Mod_takesRow_22 : blk 80 22 = some (((cd_Mod_takesRow.lookup 22).getD ([], 0, []))) := rfl
theorem Mod_takesRow_22 (d : Nat) (a0 : Nat) (x1 : Int) (x2 : Int) (h : Hp) : EX d 80 22 [(0, .inr (.inr a0)), (1, .inl x1), (2, .inl x2)] [] h = if (wr x2) = 11 then EX d 80 28 [(0, .inr (.inr a0)), (1, .inl x1), (2, .inl x2)] [] h else EX d 80 57 [(0, .inr (.inr a0)), (1, .inl x1), (2, .inl x2)] [] h := (EX_at bk_Mod_takesRow_22 _ _ _).trans rfl
theorem bk_Mod_takesRow_28 : blk 80 28 = some (((cd_Mod_takesRow.lookup 28).getD ([], 0, []))) := rfl
theorem Mod_takesRow_28 (d : Nat) (a0 : Nat) (x1 : Int) (x2 : Int) (h : Hp) : EX d 80 28 [(0, .inr (.inr a0)), (1, .inl x1), (2, .inl x2)] [] h = if sK h a0 = 11 then bak (EX d 80) 34 [(0, .inr (.inr a0)), (1, .inl x1), (2, .inl x2)] [] false (cal d 77 [.inr (.inr a0), .inl 21] h) else none := (EX_at bk_Mod_takesRow_28 _ _ _).trans rfl
theorem bk_Mod_takesRow_34 : blk 80 34 = some (((cd_Mod_takesRow.lookup 34).getD ([], 0, []))) := rfl
theorem Mod_takesRow_34 (d : Nat) (a0 : Nat) (x1 : Int) (x2 : Int) (s0 : Int) (h : Hp) : EX d 80 34 [(0, .inr (.inr a0)), (1, .inl x1), (2, .inl x2)] [.inl s0] h = if (wr s0) = 0 then EX d 80 57 [(0, .inr (.inr a0)), (1, .inl x1), (2, .inl x2)] [] h else EX d 80 37 [(0, .inr (.inr a0)), (1, .inl x1), (2, .inl x2)] [] h := (EX_at bk_Mod_takesRow_34 _ _ _).trans rfl
theorem bk_Mod_takesRow_37 : blk 80 37 = some (((cd_Mod_takesRow.lookup 37).getD ([], 0, []))) := rfl
theorem Mod_takesRow_37 (d : Nat) (a0 : Nat) (x1 : Int) (x2 : Int) (h : Hp) : EX d 80 37 [(0, .inr (.inr a0)), (1, .inl x1), (2, .inl x2)] [] h = if sK h a0 = 11 then bak (EX d 80) 49 [(0, .inr (.inr a0)), (1, .inl x1), (2, .inl x2)] [] false (cal d 71 [.inr (.inl (wr (hI h a0 10))), .inr (.inl 1), .inr (.inl 99)] h) else none := (EX_at bk_Mod_takesRow_37 _ _ _).trans rfl
theorem bk_Mod_takesRow_49 : blk 80 49 = some (((cd_Mod_takesRow.lookup 49).getD ([], 0, []))) := rfl
theorem Mod_takesRow_49 (d : Nat) (a0 : Nat) (x1 : Int) (x2 : Int) (s0 : Int) (h : Hp) : EX d 80 49 [(0, .inr (.inr a0)), (1, .inl x1), (2, .inl x2)] [.inl s0] h = if (wr s0) = 0 then EX d 80 57 [(0, .inr (.inr a0)), (1, .inl x1), (2, .inl x2)] [] h else EX d 80 52 [(0, .inr (.inr a0)), (1, .inl x1), (2, .inl x2)] [] h := (EX_at bk_Mod_takesRow_49 _ _ _).trans rfl
theorem bk_Mod_takesRow_52 : blk 80 52 = some (((cd_Mod_takesRow.lookup 52).getD ([], 0, []))) := rfl
theorem Mod_takesRow_52 (d : Nat) (a0 : Nat) (x1 : Int) (x2 : Int) (h : Hp) : EX d 80 52 [(0, .inr (.inr a0)), (1, .inl x1), (2, .inl x2)] [] h = if sK h a0 = 11 then bak (EX d 80) 57 [(0, .inr (.inr a0)), (1, .inl x1), (2, .inl x2)] [] true (cal d 78 [.inr (.inr a0), .inl 4] h) else none := (EX_at bk_Mod_takesRow_52 _ _ _).trans rfl
theorem bk_Mod_takesRow_57 : blk 80 57 = some (((cd_Mod_takesRow.lookup 57).getD ([], 0, []))) := rfl
theorem Mod_takesRow_57 (d : Nat) (a0 : Nat) (x1 : Int) (x2 : Int) (h : Hp) : EX d 80 57 [(0, .inr (.inr a0)), (1, .inl x1), (2, .inl x2)] [] h = if sK h a0 = 11 then bak (EX d 80) 64 [(0, .inr (.inr a0)), (1, .inl x1), (2, .inl x2)] [] false (cal d 79 [.inr (.inr a0), .inl 1, .inl 99] h) else none := (EX_at bk_Mod_takesRow_57 _ _ _).trans rfl
theorem bk_Mod_takesRow_64 : blk 80 64 = some (((cd_Mod_takesRow.lookup 64).getD ([], 0, []))) := rfl
theorem Mod_takesRow_64 (d : Nat) (a0 : Nat) (x1 : Int) (x2 : Int) (s0 : Int) (h : Hp) : EX d 80 64 [(0, .inr (.inr a0)), (1, .inl x1), (2, .inl x2)] [.inl s0] h = if sK h a0 = 11 then if (wr (hI h a0 11)) = 0 then EX d 80 74 [(0, .inr (.inr a0)), (1, .inl x1), (2, .inl x2), (3, .inl s0)] [] h else EX d 80 72 [] [] h else none := (EX_at bk_Mod_takesRow_64 _ _ _).trans rfl
theorem bk_Mod_takesRow_72 : blk 80 72 = some (((cd_Mod_takesRow.lookup 72).getD ([], 0, []))) := rfl
theorem Mod_takesRow_72 (d : Nat) (h : Hp) : EX d 80 72 [] [] h = some (.inl 0, h) := (EX_at bk_Mod_takesRow_72 _ _ _).trans rfl
theorem bk_Mod_takesRow_74 : blk 80 74 = some (((cd_Mod_takesRow.lookup 74).getD ([], 0, []))) := rfl
theorem Mod_takesRow_74 (d : Nat) (a0 : Nat) (x1 : Int) (x2 : Int) (x3 : Int) (h : Hp) : EX d 80 74 [(0, .inr (.inr a0)), (1, .inl x1), (2, .inl x2), (3, .inl x3)] [] h = if sK h a0 = 11 then if okx h (hR h a0 4) 20 (x1 + x2) then EX d 80 83 [(0, .inr (.inr a0)), (1, .inl x1), (2, .inl x2)] [] (pI h (hR h a0 4) (ix (x1 + x2)) x3) else none else none := (EX_at bk_Mod_takesRow_74 _ _ _).trans rfl
theorem bk_Mod_takesRow_83 : blk 80 83 = some (((cd_Mod_takesRow.lookup 83).getD ([], 0, []))) := rfl
theorem Mod_takesRow_83 (d : Nat) (a0 : Nat) (x1 : Int) (x2 : Int) (h : Hp) : EX d 80 83 [(0, .inr (.inr a0)), (1, .inl x1), (2, .inl x2)] [] h = EX d 80 2 [(0, .inr (.inr a0)), (1, .inl x1), (2, .inl (x2 + 1))] [] h := (EX_at bk_Mod_takesRow_83 _ _ _).trans rfl
theorem bk_Mod_takesRow_89 : blk 80 89 = some (((cd_Mod_takesRow.lookup 89).getD ([], 0, []))) := rfl
theorem Mod_takesRow_89 (d : Nat) (x2 : Int) (h : Hp) : EX d 80 89 [(2, .inl x2)] [] h = some (.inl x2, h) := (EX_at bk_Mod_takesRow_89 _ _ _).trans rfl
/-! eats(I)Z of HookOverModel: method 81 -/
theorem bk_Mod_eats_0 : blk 81 0 = some (((cd_Mod_eats.lookup 0).getD ([], 0, []))) := rfl
theorem Mod_eats_0 (d : Nat) (a0 : Nat) (x1 : Int) (h : Hp) : EX d 81 0 [(0, .inr (.inr a0)), (1, .inl x1)] [] h = if sK h a0 = 11 then bak (EX d 81) 5 [(0, .inr (.inr a0))] [] false (cal d 77 [.inr (.inr a0), .inl x1] h) else none := (EX_at bk_Mod_eats_0 _ _ _).trans rfl
theorem bk_Mod_eats_5 : blk 81 5 = some (((cd_Mod_eats.lookup 5).getD ([], 0, []))) := rfl
theorem Mod_eats_5 (d : Nat) (a0 : Nat) (s0 : Int) (h : Hp) : EX d 81 5 [(0, .inr (.inr a0))] [.inl s0] h = if (wr s0) = 0 then EX d 81 8 [] [] h else EX d 81 10 [(0, .inr (.inr a0))] [] h := (EX_at bk_Mod_eats_5 _ _ _).trans rfl
theorem bk_Mod_eats_8 : blk 81 8 = some (((cd_Mod_eats.lookup 8).getD ([], 0, []))) := rfl
theorem Mod_eats_8 (d : Nat) (h : Hp) : EX d 81 8 [] [] h = some (.inl 0, h) := (EX_at bk_Mod_eats_8 _ _ _).trans rfl
theorem bk_Mod_eats_10 : blk 81 10 = some (((cd_Mod_eats.lookup 10).getD ([], 0, []))) := rfl
theorem Mod_eats_10 (d : Nat) (a0 : Nat) (h : Hp) : EX d 81 10 [(0, .inr (.inr a0))] [] h = if sK h a0 = 11 then bak (EX d 81) 14 [] [] true (cal d 76 [.inr (.inr a0)] h) else none := (EX_at bk_Mod_eats_10 _ _ _).trans rfl
theorem bk_Mod_eats_14 : blk 81 14 = some (((cd_Mod_eats.lookup 14).getD ([], 0, []))) := rfl
theorem Mod_eats_14 (d : Nat) (h : Hp) : EX d 81 14 [] [] h = some (.inl 1, h) := (EX_at bk_Mod_eats_14 _ _ _).trans rfl
/-! goesIn(I)Z of HookOverModel: method 82 -/
theorem bk_Mod_goesIn_0 : blk 82 0 = some (((cd_Mod_goesIn.lookup 0).getD ([], 0, []))) := rfl
theorem Mod_goesIn_0 (d : Nat) (a0 : Nat) (x1 : Int) (h : Hp) : EX d 82 0 [(0, .inr (.inr a0)), (1, .inl x1)] [] h = if (wr x1) = 6 then EX d 82 6 [(0, .inr (.inr a0))] [] h else EX d 82 11 [(0, .inr (.inr a0))] [] h := (EX_at bk_Mod_goesIn_0 _ _ _).trans rfl
theorem bk_Mod_goesIn_6 : blk 82 6 = some (((cd_Mod_goesIn.lookup 6).getD ([], 0, []))) := rfl
theorem Mod_goesIn_6 (d : Nat) (a0 : Nat) (h : Hp) : EX d 82 6 [(0, .inr (.inr a0))] [] h = if sK h a0 = 11 then bak (EX d 82) 11 [(0, .inr (.inr a0))] [] true (cal d 78 [.inr (.inr a0), .inl 4] h) else none := (EX_at bk_Mod_goesIn_6 _ _ _).trans rfl
theorem bk_Mod_goesIn_11 : blk 82 11 = some (((cd_Mod_goesIn.lookup 11).getD ([], 0, []))) := rfl
theorem Mod_goesIn_11 (d : Nat) (a0 : Nat) (h : Hp) : EX d 82 11 [(0, .inr (.inr a0))] [] h = if sK h a0 = 11 then if (wr (hI h a0 11)) = 0 then EX d 82 18 [(0, .inr (.inr a0))] [] h else EX d 82 22 [(0, .inr (.inr a0))] [] h else none := (EX_at bk_Mod_goesIn_11 _ _ _).trans rfl
theorem bk_Mod_goesIn_18 : blk 82 18 = some (((cd_Mod_goesIn.lookup 18).getD ([], 0, []))) := rfl
theorem Mod_goesIn_18 (d : Nat) (a0 : Nat) (h : Hp) : EX d 82 18 [(0, .inr (.inr a0))] [] h = if sK h a0 = 11 then bak (EX d 82) 22 [(0, .inr (.inr a0))] [] true (cal d 76 [.inr (.inr a0)] h) else none := (EX_at bk_Mod_goesIn_18 _ _ _).trans rfl
theorem bk_Mod_goesIn_22 : blk 82 22 = some (((cd_Mod_goesIn.lookup 22).getD ([], 0, []))) := rfl
theorem Mod_goesIn_22 (d : Nat) (a0 : Nat) (h : Hp) : EX d 82 22 [(0, .inr (.inr a0))] [] h = if sK h a0 = 11 then if (wr (hI h a0 11)) = 0 then EX d 82 29 [] [] h else EX d 82 33 [] [] h else none := (EX_at bk_Mod_goesIn_22 _ _ _).trans rfl
theorem bk_Mod_goesIn_29 : blk 82 29 = some (((cd_Mod_goesIn.lookup 29).getD ([], 0, []))) := rfl
theorem Mod_goesIn_29 (d : Nat) (h : Hp) : EX d 82 29 [] [] h = EX d 82 34 [] [.inl 1] h := (EX_at bk_Mod_goesIn_29 _ _ _).trans rfl
theorem bk_Mod_goesIn_33 : blk 82 33 = some (((cd_Mod_goesIn.lookup 33).getD ([], 0, []))) := rfl
theorem Mod_goesIn_33 (d : Nat) (h : Hp) : EX d 82 33 [] [] h = EX d 82 34 [] [.inl 0] h := (EX_at bk_Mod_goesIn_33 _ _ _).trans rfl
theorem bk_Mod_goesIn_34 : blk 82 34 = some (((cd_Mod_goesIn.lookup 34).getD ([], 0, []))) := rfl
theorem Mod_goesIn_34 (d : Nat) (s0 : Int) (h : Hp) : EX d 82 34 [] [.inl s0] h = if ((s0 : Int) = 0 ∨ (s0 : Int) = 1) then some (.inl s0, h) else none := (EX_at bk_Mod_goesIn_34 _ _ _).trans rfl
/-! codes(I)V of HookOverModel: method 83 -/
theorem bk_Mod_codes_0 : blk 83 0 = some (((cd_Mod_codes.lookup 0).getD ([], 0, []))) := rfl
theorem Mod_codes_0 (d : Nat) (a0 : Nat) (x1 : Int) (h : Hp) : EX d 83 0 [(0, .inr (.inr a0)), (1, .inl x1)] [] h = if sK h a0 = 11 then if (wr (hI h a0 11)) = 0 then EX d 83 8 [(0, .inr (.inr a0)), (1, .inl x1)] [] h else EX d 83 7 [] [] h else none := (EX_at bk_Mod_codes_0 _ _ _).trans rfl
theorem bk_Mod_codes_7 : blk 83 7 = some (((cd_Mod_codes.lookup 7).getD ([], 0, []))) := rfl
theorem Mod_codes_7 (d : Nat) (h : Hp) : EX d 83 7 [] [] h = some (.inl 0, h) := (EX_at bk_Mod_codes_7 _ _ _).trans rfl
theorem bk_Mod_codes_8 : blk 83 8 = some (((cd_Mod_codes.lookup 8).getD ([], 0, []))) := rfl
theorem Mod_codes_8 (d : Nat) (a0 : Nat) (x1 : Int) (h : Hp) : EX d 83 8 [(0, .inr (.inr a0)), (1, .inl x1)] [] h = if sK h a0 = 11 then if sK h a0 = 11 then if okx h (hR h a0 4) 20 214 then if okx h (hR h a0 4) 20 (215 + (hI h (hR h a0 4) 214)) then EX d 83 26 [(0, .inr (.inr a0))] [] (pI h (hR h a0 4) (ix (215 + (hI h (hR h a0 4) 214))) x1) else none else none else none else none := (EX_at bk_Mod_codes_8 _ _ _).trans rfl
theorem bk_Mod_codes_26 : blk 83 26 = some (((cd_Mod_codes.lookup 26).getD ([], 0, []))) := rfl
theorem Mod_codes_26 (d : Nat) (a0 : Nat) (h : Hp) : EX d 83 26 [(0, .inr (.inr a0))] [] h = if sK h a0 = 11 then if okx h (hR h a0 4) 20 214 then if okx h (hR h a0 4) 20 214 then EX d 83 38 [] [] (pI h (hR h a0 4) 214 ((hI h (hR h a0 4) 214) + 1)) else none else none else none := (EX_at bk_Mod_codes_26 _ _ _).trans rfl
theorem bk_Mod_codes_38 : blk 83 38 = some (((cd_Mod_codes.lookup 38).getD ([], 0, []))) := rfl
theorem Mod_codes_38 (d : Nat) (h : Hp) : EX d 83 38 [] [] h = some (.inl 0, h) := (EX_at bk_Mod_codes_38 _ _ _).trans rfl
/-! readAtom(I)V of HookOverModel: method 84 -/
theorem bk_Mod_readAtom_0 : blk 84 0 = some (((cd_Mod_readAtom.lookup 0).getD ([], 0, []))) := rfl
theorem Mod_readAtom_0 (d : Nat) (a0 : Nat) (x1 : Int) (h : Hp) : EX d 84 0 [(0, .inr (.inr a0)), (1, .inl x1)] [] h = if sK h a0 = 11 then bak (EX d 84) 6 [(0, .inr (.inr a0)), (1, .inl x1)] [] false (cal d 77 [.inr (.inr a0), .inl 21] h) else none := (EX_at bk_Mod_readAtom_0 _ _ _).trans rfl
theorem bk_Mod_readAtom_6 : blk 84 6 = some (((cd_Mod_readAtom.lookup 6).getD ([], 0, []))) := rfl
theorem Mod_readAtom_6 (d : Nat) (a0 : Nat) (x1 : Int) (s0 : Int) (h : Hp) : EX d 84 6 [(0, .inr (.inr a0)), (1, .inl x1)] [.inl s0] h = if (wr s0) = 0 then EX d 84 24 [(0, .inr (.inr a0)), (1, .inl x1)] [] h else EX d 84 9 [(0, .inr (.inr a0))] [] h := (EX_at bk_Mod_readAtom_6 _ _ _).trans rfl
theorem bk_Mod_readAtom_9 : blk 84 9 = some (((cd_Mod_readAtom.lookup 9).getD ([], 0, []))) := rfl
theorem Mod_readAtom_9 (d : Nat) (a0 : Nat) (h : Hp) : EX d 84 9 [(0, .inr (.inr a0))] [] h = if sK h a0 = 11 then if sK h a0 = 11 then bak (EX d 84) 17 [(0, .inr (.inr a0))] [] true (cal d 83 [.inr (.inr a0), .inl (hI h a0 10)] h) else none else none := (EX_at bk_Mod_readAtom_9 _ _ _).trans rfl
theorem bk_Mod_readAtom_17 : blk 84 17 = some (((cd_Mod_readAtom.lookup 17).getD ([], 0, []))) := rfl
theorem Mod_readAtom_17 (d : Nat) (a0 : Nat) (h : Hp) : EX d 84 17 [(0, .inr (.inr a0))] [] h = if sK h a0 = 11 then bak (EX d 84) 21 [] [] true (cal d 76 [.inr (.inr a0)] h) else none := (EX_at bk_Mod_readAtom_17 _ _ _).trans rfl
theorem bk_Mod_readAtom_21 : blk 84 21 = some (((cd_Mod_readAtom.lookup 21).getD ([], 0, []))) := rfl
theorem Mod_readAtom_21 (d : Nat) (h : Hp) : EX d 84 21 [] [] h = EX d 84 153 [] [] h := (EX_at bk_Mod_readAtom_21 _ _ _).trans rfl
theorem bk_Mod_readAtom_24 : blk 84 24 = some (((cd_Mod_readAtom.lookup 24).getD ([], 0, []))) := rfl
theorem Mod_readAtom_24 (d : Nat) (a0 : Nat) (x1 : Int) (h : Hp) : EX d 84 24 [(0, .inr (.inr a0)), (1, .inl x1)] [] h = if sK h a0 = 11 then bak (EX d 84) 29 [(0, .inr (.inr a0)), (1, .inl x1)] [] false (cal d 81 [.inr (.inr a0), .inl 2] h) else none := (EX_at bk_Mod_readAtom_24 _ _ _).trans rfl
theorem bk_Mod_readAtom_29 : blk 84 29 = some (((cd_Mod_readAtom.lookup 29).getD ([], 0, []))) := rfl
theorem Mod_readAtom_29 (d : Nat) (a0 : Nat) (x1 : Int) (s0 : Int) (h : Hp) : EX d 84 29 [(0, .inr (.inr a0)), (1, .inl x1)] [.inl s0] h = if (wr s0) = 0 then EX d 84 42 [(0, .inr (.inr a0)), (1, .inl x1)] [] h else EX d 84 32 [(0, .inr (.inr a0))] [] h := (EX_at bk_Mod_readAtom_29 _ _ _).trans rfl
theorem bk_Mod_readAtom_32 : blk 84 32 = some (((cd_Mod_readAtom.lookup 32).getD ([], 0, []))) := rfl
theorem Mod_readAtom_32 (d : Nat) (a0 : Nat) (h : Hp) : EX d 84 32 [(0, .inr (.inr a0))] [] h = if sK h a0 = 11 then bak (EX d 84) 39 [] [] true (cal d 83 [.inr (.inr a0), .inl 1000] h) else none := (EX_at bk_Mod_readAtom_32 _ _ _).trans rfl
theorem bk_Mod_readAtom_39 : blk 84 39 = some (((cd_Mod_readAtom.lookup 39).getD ([], 0, []))) := rfl
theorem Mod_readAtom_39 (d : Nat) (h : Hp) : EX d 84 39 [] [] h = EX d 84 153 [] [] h := (EX_at bk_Mod_readAtom_39 _ _ _).trans rfl
theorem bk_Mod_readAtom_42 : blk 84 42 = some (((cd_Mod_readAtom.lookup 42).getD ([], 0, []))) := rfl
theorem Mod_readAtom_42 (d : Nat) (a0 : Nat) (x1 : Int) (h : Hp) : EX d 84 42 [(0, .inr (.inr a0)), (1, .inl x1)] [] h = if sK h a0 = 11 then bak (EX d 84) 47 [(0, .inr (.inr a0)), (1, .inl x1)] [] false (cal d 81 [.inr (.inr a0), .inl 4] h) else none := (EX_at bk_Mod_readAtom_42 _ _ _).trans rfl
theorem bk_Mod_readAtom_47 : blk 84 47 = some (((cd_Mod_readAtom.lookup 47).getD ([], 0, []))) := rfl
theorem Mod_readAtom_47 (d : Nat) (a0 : Nat) (x1 : Int) (s0 : Int) (h : Hp) : EX d 84 47 [(0, .inr (.inr a0)), (1, .inl x1)] [.inl s0] h = if (wr s0) = 0 then EX d 84 60 [(0, .inr (.inr a0)), (1, .inl x1)] [] h else EX d 84 50 [(0, .inr (.inr a0))] [] h := (EX_at bk_Mod_readAtom_47 _ _ _).trans rfl
theorem bk_Mod_readAtom_50 : blk 84 50 = some (((cd_Mod_readAtom.lookup 50).getD ([], 0, []))) := rfl
theorem Mod_readAtom_50 (d : Nat) (a0 : Nat) (h : Hp) : EX d 84 50 [(0, .inr (.inr a0))] [] h = if sK h a0 = 11 then bak (EX d 84) 57 [] [] true (cal d 83 [.inr (.inr a0), .inl 1001] h) else none := (EX_at bk_Mod_readAtom_50 _ _ _).trans rfl
theorem bk_Mod_readAtom_57 : blk 84 57 = some (((cd_Mod_readAtom.lookup 57).getD ([], 0, []))) := rfl
theorem Mod_readAtom_57 (d : Nat) (h : Hp) : EX d 84 57 [] [] h = EX d 84 153 [] [] h := (EX_at bk_Mod_readAtom_57 _ _ _).trans rfl
theorem bk_Mod_readAtom_60 : blk 84 60 = some (((cd_Mod_readAtom.lookup 60).getD ([], 0, []))) := rfl
theorem Mod_readAtom_60 (d : Nat) (a0 : Nat) (x1 : Int) (h : Hp) : EX d 84 60 [(0, .inr (.inr a0)), (1, .inl x1)] [] h = if sK h a0 = 11 then if (wr (hI h a0 11)) = 0 then EX d 84 67 [(0, .inr (.inr a0)), (1, .inl x1)] [] h else EX d 84 106 [(0, .inr (.inr a0)), (1, .inl x1)] [] h else none := (EX_at bk_Mod_readAtom_60 _ _ _).trans rfl
theorem bk_Mod_readAtom_67 : blk 84 67 = some (((cd_Mod_readAtom.lookup 67).getD ([], 0, []))) := rfl
theorem Mod_readAtom_67 (d : Nat) (a0 : Nat) (x1 : Int) (h : Hp) : EX d 84 67 [(0, .inr (.inr a0)), (1, .inl x1)] [] h = if sK h a0 = 11 then bak (EX d 84) 81 [(0, .inr (.inr a0)), (1, .inl x1)] [] false (cal d 71 [.inr (.inl (wr (hI h a0 9))), .inr (.inl 14), .inr (.inl 17)] h) else none := (EX_at bk_Mod_readAtom_67 _ _ _).trans rfl
theorem bk_Mod_readAtom_81 : blk 84 81 = some (((cd_Mod_readAtom.lookup 81).getD ([], 0, []))) := rfl
theorem Mod_readAtom_81 (d : Nat) (a0 : Nat) (x1 : Int) (s0 : Int) (h : Hp) : EX d 84 81 [(0, .inr (.inr a0)), (1, .inl x1)] [.inl s0] h = if (wr s0) = 0 then EX d 84 106 [(0, .inr (.inr a0)), (1, .inl x1)] [] h else EX d 84 84 [(0, .inr (.inr a0))] [] h := (EX_at bk_Mod_readAtom_81 _ _ _).trans rfl
theorem bk_Mod_readAtom_84 : blk 84 84 = some (((cd_Mod_readAtom.lookup 84).getD ([], 0, []))) := rfl
theorem Mod_readAtom_84 (d : Nat) (a0 : Nat) (h : Hp) : EX d 84 84 [(0, .inr (.inr a0))] [] h = if sK h a0 = 11 then if sK h a0 = 11 then bak (EX d 84) 99 [(0, .inr (.inr a0))] [] true (cal d 83 [.inr (.inr a0), .inl ((1002 + (hI h a0 9)) - 14)] h) else none else none := (EX_at bk_Mod_readAtom_84 _ _ _).trans rfl
theorem bk_Mod_readAtom_99 : blk 84 99 = some (((cd_Mod_readAtom.lookup 99).getD ([], 0, []))) := rfl
theorem Mod_readAtom_99 (d : Nat) (a0 : Nat) (h : Hp) : EX d 84 99 [(0, .inr (.inr a0))] [] h = if sK h a0 = 11 then bak (EX d 84) 103 [] [] true (cal d 76 [.inr (.inr a0)] h) else none := (EX_at bk_Mod_readAtom_99 _ _ _).trans rfl
theorem bk_Mod_readAtom_103 : blk 84 103 = some (((cd_Mod_readAtom.lookup 103).getD ([], 0, []))) := rfl
theorem Mod_readAtom_103 (d : Nat) (h : Hp) : EX d 84 103 [] [] h = EX d 84 153 [] [] h := (EX_at bk_Mod_readAtom_103 _ _ _).trans rfl
theorem bk_Mod_readAtom_106 : blk 84 106 = some (((cd_Mod_readAtom.lookup 106).getD ([], 0, []))) := rfl
theorem Mod_readAtom_106 (d : Nat) (a0 : Nat) (x1 : Int) (h : Hp) : EX d 84 106 [(0, .inr (.inr a0)), (1, .inl x1)] [] h = if sK h a0 = 11 then bak (EX d 84) 112 [(0, .inr (.inr a0)), (1, .inl x1)] [] false (cal d 77 [.inr (.inr a0), .inl 30] h) else none := (EX_at bk_Mod_readAtom_106 _ _ _).trans rfl
theorem bk_Mod_readAtom_112 : blk 84 112 = some (((cd_Mod_readAtom.lookup 112).getD ([], 0, []))) := rfl
theorem Mod_readAtom_112 (d : Nat) (a0 : Nat) (x1 : Int) (s0 : Int) (h : Hp) : EX d 84 112 [(0, .inr (.inr a0)), (1, .inl x1)] [.inl s0] h = if (wr s0) = 0 then EX d 84 148 [(0, .inr (.inr a0))] [] h else EX d 84 115 [(0, .inr (.inr a0)), (1, .inl x1)] [] h := (EX_at bk_Mod_readAtom_112 _ _ _).trans rfl
theorem bk_Mod_readAtom_115 : blk 84 115 = some (((cd_Mod_readAtom.lookup 115).getD ([], 0, []))) := rfl
theorem Mod_readAtom_115 (d : Nat) (a0 : Nat) (x1 : Int) (h : Hp) : EX d 84 115 [(0, .inr (.inr a0)), (1, .inl x1)] [] h = if sK h a0 = 11 then bak (EX d 84) 120 [(0, .inr (.inr a0)), (1, .inl x1)] [] false (cal d 82 [.inr (.inr a0), .inl x1] h) else none := (EX_at bk_Mod_readAtom_115 _ _ _).trans rfl
theorem bk_Mod_readAtom_120 : blk 84 120 = some (((cd_Mod_readAtom.lookup 120).getD ([], 0, []))) := rfl
theorem Mod_readAtom_120 (d : Nat) (a0 : Nat) (x1 : Int) (s0 : Int) (h : Hp) : EX d 84 120 [(0, .inr (.inr a0)), (1, .inl x1)] [.inl s0] h = if (wr s0) = 0 then EX d 84 123 [] [] h else EX d 84 124 [(0, .inr (.inr a0)), (1, .inl x1)] [] h := (EX_at bk_Mod_readAtom_120 _ _ _).trans rfl
theorem bk_Mod_readAtom_123 : blk 84 123 = some (((cd_Mod_readAtom.lookup 123).getD ([], 0, []))) := rfl
theorem Mod_readAtom_123 (d : Nat) (h : Hp) : EX d 84 123 [] [] h = some (.inl 0, h) := (EX_at bk_Mod_readAtom_123 _ _ _).trans rfl
theorem bk_Mod_readAtom_124 : blk 84 124 = some (((cd_Mod_readAtom.lookup 124).getD ([], 0, []))) := rfl
theorem Mod_readAtom_124 (d : Nat) (a0 : Nat) (x1 : Int) (h : Hp) : EX d 84 124 [(0, .inr (.inr a0)), (1, .inl x1)] [] h = if sK h a0 = 11 then bak (EX d 84) 131 [(0, .inr (.inr a0))] [] true (cal d 86 [.inr (.inr a0), .inl (x1 + 1)] h) else none := (EX_at bk_Mod_readAtom_124 _ _ _).trans rfl
theorem bk_Mod_readAtom_131 : blk 84 131 = some (((cd_Mod_readAtom.lookup 131).getD ([], 0, []))) := rfl
theorem Mod_readAtom_131 (d : Nat) (a0 : Nat) (h : Hp) : EX d 84 131 [(0, .inr (.inr a0))] [] h = if sK h a0 = 11 then bak (EX d 84) 137 [(0, .inr (.inr a0))] [] false (cal d 81 [.inr (.inr a0), .inl 31] h) else none := (EX_at bk_Mod_readAtom_131 _ _ _).trans rfl
theorem bk_Mod_readAtom_137 : blk 84 137 = some (((cd_Mod_readAtom.lookup 137).getD ([], 0, []))) := rfl
theorem Mod_readAtom_137 (d : Nat) (a0 : Nat) (s0 : Int) (h : Hp) : EX d 84 137 [(0, .inr (.inr a0))] [.inl s0] h = if (wr s0) = 0 then EX d 84 140 [(0, .inr (.inr a0))] [] h else EX d 84 153 [] [] h := (EX_at bk_Mod_readAtom_137 _ _ _).trans rfl
theorem bk_Mod_readAtom_140 : blk 84 140 = some (((cd_Mod_readAtom.lookup 140).getD ([], 0, []))) := rfl
theorem Mod_readAtom_140 (d : Nat) (a0 : Nat) (h : Hp) : EX d 84 140 [(0, .inr (.inr a0))] [] h = if sK h a0 = 11 then bak (EX d 84) 145 [] [] true (cal d 78 [.inr (.inr a0), .inl 2] h) else none := (EX_at bk_Mod_readAtom_140 _ _ _).trans rfl
theorem bk_Mod_readAtom_145 : blk 84 145 = some (((cd_Mod_readAtom.lookup 145).getD ([], 0, []))) := rfl
theorem Mod_readAtom_145 (d : Nat) (h : Hp) : EX d 84 145 [] [] h = EX d 84 153 [] [] h := (EX_at bk_Mod_readAtom_145 _ _ _).trans rfl
theorem bk_Mod_readAtom_148 : blk 84 148 = some (((cd_Mod_readAtom.lookup 148).getD ([], 0, []))) := rfl
theorem Mod_readAtom_148 (d : Nat) (a0 : Nat) (h : Hp) : EX d 84 148 [(0, .inr (.inr a0))] [] h = if sK h a0 = 11 then bak (EX d 84) 153 [] [] true (cal d 78 [.inr (.inr a0), .inl 2] h) else none := (EX_at bk_Mod_readAtom_148 _ _ _).trans rfl
theorem bk_Mod_readAtom_153 : blk 84 153 = some (((cd_Mod_readAtom.lookup 153).getD ([], 0, []))) := rfl
theorem Mod_readAtom_153 (d : Nat) (h : Hp) : EX d 84 153 [] [] h = some (.inl 0, h) := (EX_at bk_Mod_readAtom_153 _ _ _).trans rfl
/-! readTerm(I)V of HookOverModel: method 85 -/
theorem bk_Mod_readTerm_0 : blk 85 0 = some (((cd_Mod_readTerm.lookup 0).getD ([], 0, []))) := rfl
theorem Mod_readTerm_0 (d : Nat) (a0 : Nat) (x1 : Int) (h : Hp) : EX d 85 0 [(0, .inr (.inr a0)), (1, .inl x1)] [] h = if sK h a0 = 11 then bak (EX d 85) 5 [(0, .inr (.inr a0)), (1, .inl x1)] [] true (cal d 84 [.inr (.inr a0), .inl x1] h) else none := (EX_at bk_Mod_readTerm_0 _ _ _).trans rfl
theorem bk_Mod_readTerm_5 : blk 85 5 = some (((cd_Mod_readTerm.lookup 5).getD ([], 0, []))) := rfl
theorem Mod_readTerm_5 (d : Nat) (a0 : Nat) (x1 : Int) (h : Hp) : EX d 85 5 [(0, .inr (.inr a0)), (1, .inl x1)] [] h = if sK h a0 = 11 then bak (EX d 85) 11 [(0, .inr (.inr a0)), (1, .inl x1)] [] false (cal d 81 [.inr (.inr a0), .inl 29] h) else none := (EX_at bk_Mod_readTerm_5 _ _ _).trans rfl
theorem bk_Mod_readTerm_11 : blk 85 11 = some (((cd_Mod_readTerm.lookup 11).getD ([], 0, []))) := rfl
theorem Mod_readTerm_11 (d : Nat) (a0 : Nat) (x1 : Int) (s0 : Int) (h : Hp) : EX d 85 11 [(0, .inr (.inr a0)), (1, .inl x1)] [.inl s0] h = if (wr s0) = 0 then EX d 85 29 [] [] h else EX d 85 14 [(0, .inr (.inr a0)), (1, .inl x1)] [] h := (EX_at bk_Mod_readTerm_11 _ _ _).trans rfl
theorem bk_Mod_readTerm_14 : blk 85 14 = some (((cd_Mod_readTerm.lookup 14).getD ([], 0, []))) := rfl
theorem Mod_readTerm_14 (d : Nat) (a0 : Nat) (x1 : Int) (h : Hp) : EX d 85 14 [(0, .inr (.inr a0)), (1, .inl x1)] [] h = if sK h a0 = 11 then bak (EX d 85) 19 [(0, .inr (.inr a0)), (1, .inl x1)] [] true (cal d 84 [.inr (.inr a0), .inl x1] h) else none := (EX_at bk_Mod_readTerm_14 _ _ _).trans rfl
theorem bk_Mod_readTerm_19 : blk 85 19 = some (((cd_Mod_readTerm.lookup 19).getD ([], 0, []))) := rfl
theorem Mod_readTerm_19 (d : Nat) (a0 : Nat) (x1 : Int) (h : Hp) : EX d 85 19 [(0, .inr (.inr a0)), (1, .inl x1)] [] h = if sK h a0 = 11 then bak (EX d 85) 26 [(0, .inr (.inr a0)), (1, .inl x1)] [] true (cal d 83 [.inr (.inr a0), .inl 3002] h) else none := (EX_at bk_Mod_readTerm_19 _ _ _).trans rfl
theorem bk_Mod_readTerm_26 : blk 85 26 = some (((cd_Mod_readTerm.lookup 26).getD ([], 0, []))) := rfl
theorem Mod_readTerm_26 (d : Nat) (a0 : Nat) (x1 : Int) (h : Hp) : EX d 85 26 [(0, .inr (.inr a0)), (1, .inl x1)] [] h = EX d 85 5 [(0, .inr (.inr a0)), (1, .inl x1)] [] h := (EX_at bk_Mod_readTerm_26 _ _ _).trans rfl
theorem bk_Mod_readTerm_29 : blk 85 29 = some (((cd_Mod_readTerm.lookup 29).getD ([], 0, []))) := rfl
theorem Mod_readTerm_29 (d : Nat) (h : Hp) : EX d 85 29 [] [] h = some (.inl 0, h) := (EX_at bk_Mod_readTerm_29 _ _ _).trans rfl
/-! readSum(I)V of HookOverModel: method 86 -/
theorem bk_Mod_readSum_0 : blk 86 0 = some (((cd_Mod_readSum.lookup 0).getD ([], 0, []))) := rfl
theorem Mod_readSum_0 (d : Nat) (a0 : Nat) (x1 : Int) (h : Hp) : EX d 86 0 [(0, .inr (.inr a0)), (1, .inl x1)] [] h = if sK h a0 = 11 then bak (EX d 86) 5 [(0, .inr (.inr a0)), (1, .inl x1)] [] true (cal d 85 [.inr (.inr a0), .inl x1] h) else none := (EX_at bk_Mod_readSum_0 _ _ _).trans rfl
theorem bk_Mod_readSum_5 : blk 86 5 = some (((cd_Mod_readSum.lookup 5).getD ([], 0, []))) := rfl
theorem Mod_readSum_5 (d : Nat) (a0 : Nat) (x1 : Int) (h : Hp) : EX d 86 5 [(0, .inr (.inr a0)), (1, .inl x1)] [] h = if sK h a0 = 11 then bak (EX d 86) 11 [(0, .inr (.inr a0)), (1, .inl x1)] [] false (cal d 77 [.inr (.inr a0), .inl 27] h) else none := (EX_at bk_Mod_readSum_5 _ _ _).trans rfl
theorem bk_Mod_readSum_11 : blk 86 11 = some (((cd_Mod_readSum.lookup 11).getD ([], 0, []))) := rfl
theorem Mod_readSum_11 (d : Nat) (a0 : Nat) (x1 : Int) (s0 : Int) (h : Hp) : EX d 86 11 [(0, .inr (.inr a0)), (1, .inl x1)] [.inl s0] h = if (wr s0) = 0 then EX d 86 14 [(0, .inr (.inr a0)), (1, .inl x1)] [] h else EX d 86 23 [(0, .inr (.inr a0)), (1, .inl x1)] [] h := (EX_at bk_Mod_readSum_11 _ _ _).trans rfl
theorem bk_Mod_readSum_14 : blk 86 14 = some (((cd_Mod_readSum.lookup 14).getD ([], 0, []))) := rfl
theorem Mod_readSum_14 (d : Nat) (a0 : Nat) (x1 : Int) (h : Hp) : EX d 86 14 [(0, .inr (.inr a0)), (1, .inl x1)] [] h = if sK h a0 = 11 then bak (EX d 86) 20 [(0, .inr (.inr a0)), (1, .inl x1)] [] false (cal d 77 [.inr (.inr a0), .inl 28] h) else none := (EX_at bk_Mod_readSum_14 _ _ _).trans rfl
theorem bk_Mod_readSum_20 : blk 86 20 = some (((cd_Mod_readSum.lookup 20).getD ([], 0, []))) := rfl
theorem Mod_readSum_20 (d : Nat) (a0 : Nat) (x1 : Int) (s0 : Int) (h : Hp) : EX d 86 20 [(0, .inr (.inr a0)), (1, .inl x1)] [.inl s0] h = if (wr s0) = 0 then EX d 86 59 [] [] h else EX d 86 23 [(0, .inr (.inr a0)), (1, .inl x1)] [] h := (EX_at bk_Mod_readSum_20 _ _ _).trans rfl
theorem bk_Mod_readSum_23 : blk 86 23 = some (((cd_Mod_readSum.lookup 23).getD ([], 0, []))) := rfl
theorem Mod_readSum_23 (d : Nat) (a0 : Nat) (x1 : Int) (h : Hp) : EX d 86 23 [(0, .inr (.inr a0)), (1, .inl x1)] [] h = if sK h a0 = 11 then if (wr (hI h a0 9)) = 27 then EX d 86 32 [(0, .inr (.inr a0)), (1, .inl x1)] [] h else EX d 86 38 [(0, .inr (.inr a0)), (1, .inl x1)] [] h else none := (EX_at bk_Mod_readSum_23 _ _ _).trans rfl
theorem bk_Mod_readSum_32 : blk 86 32 = some (((cd_Mod_readSum.lookup 32).getD ([], 0, []))) := rfl
theorem Mod_readSum_32 (d : Nat) (a0 : Nat) (x1 : Int) (h : Hp) : EX d 86 32 [(0, .inr (.inr a0)), (1, .inl x1)] [] h = EX d 86 41 [(0, .inr (.inr a0)), (1, .inl x1)] [.inl 3000] h := (EX_at bk_Mod_readSum_32 _ _ _).trans rfl
theorem bk_Mod_readSum_38 : blk 86 38 = some (((cd_Mod_readSum.lookup 38).getD ([], 0, []))) := rfl
theorem Mod_readSum_38 (d : Nat) (a0 : Nat) (x1 : Int) (h : Hp) : EX d 86 38 [(0, .inr (.inr a0)), (1, .inl x1)] [] h = EX d 86 41 [(0, .inr (.inr a0)), (1, .inl x1)] [.inl 3001] h := (EX_at bk_Mod_readSum_38 _ _ _).trans rfl
theorem bk_Mod_readSum_41 : blk 86 41 = some (((cd_Mod_readSum.lookup 41).getD ([], 0, []))) := rfl
theorem Mod_readSum_41 (d : Nat) (a0 : Nat) (x1 : Int) (s0 : Int) (h : Hp) : EX d 86 41 [(0, .inr (.inr a0)), (1, .inl x1)] [.inl s0] h = if sK h a0 = 11 then bak (EX d 86) 46 [(0, .inr (.inr a0)), (1, .inl x1), (2, .inl s0)] [] true (cal d 76 [.inr (.inr a0)] h) else none := (EX_at bk_Mod_readSum_41 _ _ _).trans rfl
theorem bk_Mod_readSum_46 : blk 86 46 = some (((cd_Mod_readSum.lookup 46).getD ([], 0, []))) := rfl
theorem Mod_readSum_46 (d : Nat) (a0 : Nat) (x1 : Int) (x2 : Int) (h : Hp) : EX d 86 46 [(0, .inr (.inr a0)), (1, .inl x1), (2, .inl x2)] [] h = if sK h a0 = 11 then bak (EX d 86) 51 [(0, .inr (.inr a0)), (1, .inl x1), (2, .inl x2)] [] true (cal d 85 [.inr (.inr a0), .inl x1] h) else none := (EX_at bk_Mod_readSum_46 _ _ _).trans rfl
theorem bk_Mod_readSum_51 : blk 86 51 = some (((cd_Mod_readSum.lookup 51).getD ([], 0, []))) := rfl
theorem Mod_readSum_51 (d : Nat) (a0 : Nat) (x1 : Int) (x2 : Int) (h : Hp) : EX d 86 51 [(0, .inr (.inr a0)), (1, .inl x1), (2, .inl x2)] [] h = if sK h a0 = 11 then bak (EX d 86) 56 [(0, .inr (.inr a0)), (1, .inl x1)] [] true (cal d 83 [.inr (.inr a0), .inl x2] h) else none := (EX_at bk_Mod_readSum_51 _ _ _).trans rfl
theorem bk_Mod_readSum_56 : blk 86 56 = some (((cd_Mod_readSum.lookup 56).getD ([], 0, []))) := rfl
theorem Mod_readSum_56 (d : Nat) (a0 : Nat) (x1 : Int) (h : Hp) : EX d 86 56 [(0, .inr (.inr a0)), (1, .inl x1)] [] h = EX d 86 5 [(0, .inr (.inr a0)), (1, .inl x1)] [] h := (EX_at bk_Mod_readSum_56 _ _ _).trans rfl
theorem bk_Mod_readSum_59 : blk 86 59 = some (((cd_Mod_readSum.lookup 59).getD ([], 0, []))) := rfl
theorem Mod_readSum_59 (d : Nat) (h : Hp) : EX d 86 59 [] [] h = some (.inl 0, h) := (EX_at bk_Mod_readSum_59 _ _ _).trans rfl
/-! readUnit(I)V of HookOverModel: method 87 -/
theorem bk_Mod_readUnit_0 : blk 87 0 = some (((cd_Mod_readUnit.lookup 0).getD ([], 0, []))) := rfl
theorem Mod_readUnit_0 (d : Nat) (a0 : Nat) (x1 : Int) (h : Hp) : EX d 87 0 [(0, .inr (.inr a0)), (1, .inl x1)] [] h = if sK h a0 = 11 then bak (EX d 87) 6 [(0, .inr (.inr a0)), (1, .inl x1)] [] false (cal d 77 [.inr (.inr a0), .inl 13] h) else none := (EX_at bk_Mod_readUnit_0 _ _ _).trans rfl
theorem bk_Mod_readUnit_6 : blk 87 6 = some (((cd_Mod_readUnit.lookup 6).getD ([], 0, []))) := rfl
theorem Mod_readUnit_6 (d : Nat) (a0 : Nat) (x1 : Int) (s0 : Int) (h : Hp) : EX d 87 6 [(0, .inr (.inr a0)), (1, .inl x1)] [.inl s0] h = if (wr s0) = 0 then EX d 87 33 [(0, .inr (.inr a0)), (1, .inl x1)] [] h else EX d 87 9 [(0, .inr (.inr a0)), (1, .inl x1)] [] h := (EX_at bk_Mod_readUnit_6 _ _ _).trans rfl
theorem bk_Mod_readUnit_9 : blk 87 9 = some (((cd_Mod_readUnit.lookup 9).getD ([], 0, []))) := rfl
theorem Mod_readUnit_9 (d : Nat) (a0 : Nat) (x1 : Int) (h : Hp) : EX d 87 9 [(0, .inr (.inr a0)), (1, .inl x1)] [] h = if sK h a0 = 11 then bak (EX d 87) 14 [(0, .inr (.inr a0)), (1, .inl x1)] [] false (cal d 82 [.inr (.inr a0), .inl x1] h) else none := (EX_at bk_Mod_readUnit_9 _ _ _).trans rfl
theorem bk_Mod_readUnit_14 : blk 87 14 = some (((cd_Mod_readUnit.lookup 14).getD ([], 0, []))) := rfl
theorem Mod_readUnit_14 (d : Nat) (a0 : Nat) (x1 : Int) (s0 : Int) (h : Hp) : EX d 87 14 [(0, .inr (.inr a0)), (1, .inl x1)] [.inl s0] h = if (wr s0) = 0 then EX d 87 17 [] [] h else EX d 87 18 [(0, .inr (.inr a0)), (1, .inl x1)] [] h := (EX_at bk_Mod_readUnit_14 _ _ _).trans rfl
theorem bk_Mod_readUnit_17 : blk 87 17 = some (((cd_Mod_readUnit.lookup 17).getD ([], 0, []))) := rfl
theorem Mod_readUnit_17 (d : Nat) (h : Hp) : EX d 87 17 [] [] h = some (.inl 0, h) := (EX_at bk_Mod_readUnit_17 _ _ _).trans rfl
theorem bk_Mod_readUnit_18 : blk 87 18 = some (((cd_Mod_readUnit.lookup 18).getD ([], 0, []))) := rfl
theorem Mod_readUnit_18 (d : Nat) (a0 : Nat) (x1 : Int) (h : Hp) : EX d 87 18 [(0, .inr (.inr a0)), (1, .inl x1)] [] h = if sK h a0 = 11 then bak (EX d 87) 25 [(0, .inr (.inr a0))] [] true (cal d 87 [.inr (.inr a0), .inl (x1 + 1)] h) else none := (EX_at bk_Mod_readUnit_18 _ _ _).trans rfl
theorem bk_Mod_readUnit_25 : blk 87 25 = some (((cd_Mod_readUnit.lookup 25).getD ([], 0, []))) := rfl
theorem Mod_readUnit_25 (d : Nat) (a0 : Nat) (h : Hp) : EX d 87 25 [(0, .inr (.inr a0))] [] h = if sK h a0 = 11 then bak (EX d 87) 32 [] [] true (cal d 83 [.inr (.inr a0), .inl 3008] h) else none := (EX_at bk_Mod_readUnit_25 _ _ _).trans rfl
theorem bk_Mod_readUnit_32 : blk 87 32 = some (((cd_Mod_readUnit.lookup 32).getD ([], 0, []))) := rfl
theorem Mod_readUnit_32 (d : Nat) (h : Hp) : EX d 87 32 [] [] h = some (.inl 0, h) := (EX_at bk_Mod_readUnit_32 _ _ _).trans rfl
theorem bk_Mod_readUnit_33 : blk 87 33 = some (((cd_Mod_readUnit.lookup 33).getD ([], 0, []))) := rfl
theorem Mod_readUnit_33 (d : Nat) (a0 : Nat) (x1 : Int) (h : Hp) : EX d 87 33 [(0, .inr (.inr a0)), (1, .inl x1)] [] h = if sK h a0 = 11 then bak (EX d 87) 39 [(0, .inr (.inr a0)), (1, .inl x1)] [] false (cal d 77 [.inr (.inr a0), .inl 32] h) else none := (EX_at bk_Mod_readUnit_33 _ _ _).trans rfl
theorem bk_Mod_readUnit_39 : blk 87 39 = some (((cd_Mod_readUnit.lookup 39).getD ([], 0, []))) := rfl
theorem Mod_readUnit_39 (d : Nat) (a0 : Nat) (x1 : Int) (s0 : Int) (h : Hp) : EX d 87 39 [(0, .inr (.inr a0)), (1, .inl x1)] [.inl s0] h = if (wr s0) = 0 then EX d 87 73 [(0, .inr (.inr a0)), (1, .inl x1)] [] h else EX d 87 42 [(0, .inr (.inr a0)), (1, .inl x1)] [] h := (EX_at bk_Mod_readUnit_39 _ _ _).trans rfl
theorem bk_Mod_readUnit_42 : blk 87 42 = some (((cd_Mod_readUnit.lookup 42).getD ([], 0, []))) := rfl
theorem Mod_readUnit_42 (d : Nat) (a0 : Nat) (x1 : Int) (h : Hp) : EX d 87 42 [(0, .inr (.inr a0)), (1, .inl x1)] [] h = if sK h a0 = 11 then bak (EX d 87) 47 [(0, .inr (.inr a0)), (1, .inl x1)] [] false (cal d 82 [.inr (.inr a0), .inl x1] h) else none := (EX_at bk_Mod_readUnit_42 _ _ _).trans rfl
theorem bk_Mod_readUnit_47 : blk 87 47 = some (((cd_Mod_readUnit.lookup 47).getD ([], 0, []))) := rfl
theorem Mod_readUnit_47 (d : Nat) (a0 : Nat) (x1 : Int) (s0 : Int) (h : Hp) : EX d 87 47 [(0, .inr (.inr a0)), (1, .inl x1)] [.inl s0] h = if (wr s0) = 0 then EX d 87 50 [] [] h else EX d 87 51 [(0, .inr (.inr a0)), (1, .inl x1)] [] h := (EX_at bk_Mod_readUnit_47 _ _ _).trans rfl
theorem bk_Mod_readUnit_50 : blk 87 50 = some (((cd_Mod_readUnit.lookup 50).getD ([], 0, []))) := rfl
theorem Mod_readUnit_50 (d : Nat) (h : Hp) : EX d 87 50 [] [] h = some (.inl 0, h) := (EX_at bk_Mod_readUnit_50 _ _ _).trans rfl
theorem bk_Mod_readUnit_51 : blk 87 51 = some (((cd_Mod_readUnit.lookup 51).getD ([], 0, []))) := rfl
theorem Mod_readUnit_51 (d : Nat) (a0 : Nat) (x1 : Int) (h : Hp) : EX d 87 51 [(0, .inr (.inr a0)), (1, .inl x1)] [] h = if sK h a0 = 11 then bak (EX d 87) 58 [(0, .inr (.inr a0))] [] true (cal d 89 [.inr (.inr a0), .inl (x1 + 1)] h) else none := (EX_at bk_Mod_readUnit_51 _ _ _).trans rfl
theorem bk_Mod_readUnit_58 : blk 87 58 = some (((cd_Mod_readUnit.lookup 58).getD ([], 0, []))) := rfl
theorem Mod_readUnit_58 (d : Nat) (a0 : Nat) (h : Hp) : EX d 87 58 [(0, .inr (.inr a0))] [] h = if sK h a0 = 11 then bak (EX d 87) 64 [(0, .inr (.inr a0))] [] false (cal d 81 [.inr (.inr a0), .inl 33] h) else none := (EX_at bk_Mod_readUnit_58 _ _ _).trans rfl
theorem bk_Mod_readUnit_64 : blk 87 64 = some (((cd_Mod_readUnit.lookup 64).getD ([], 0, []))) := rfl
theorem Mod_readUnit_64 (d : Nat) (a0 : Nat) (s0 : Int) (h : Hp) : EX d 87 64 [(0, .inr (.inr a0))] [.inl s0] h = if (wr s0) = 0 then EX d 87 67 [(0, .inr (.inr a0))] [] h else EX d 87 72 [] [] h := (EX_at bk_Mod_readUnit_64 _ _ _).trans rfl
theorem bk_Mod_readUnit_67 : blk 87 67 = some (((cd_Mod_readUnit.lookup 67).getD ([], 0, []))) := rfl
theorem Mod_readUnit_67 (d : Nat) (a0 : Nat) (h : Hp) : EX d 87 67 [(0, .inr (.inr a0))] [] h = if sK h a0 = 11 then bak (EX d 87) 72 [] [] true (cal d 78 [.inr (.inr a0), .inl 2] h) else none := (EX_at bk_Mod_readUnit_67 _ _ _).trans rfl
theorem bk_Mod_readUnit_72 : blk 87 72 = some (((cd_Mod_readUnit.lookup 72).getD ([], 0, []))) := rfl
theorem Mod_readUnit_72 (d : Nat) (h : Hp) : EX d 87 72 [] [] h = some (.inl 0, h) := (EX_at bk_Mod_readUnit_72 _ _ _).trans rfl
theorem bk_Mod_readUnit_73 : blk 87 73 = some (((cd_Mod_readUnit.lookup 73).getD ([], 0, []))) := rfl
theorem Mod_readUnit_73 (d : Nat) (a0 : Nat) (x1 : Int) (h : Hp) : EX d 87 73 [(0, .inr (.inr a0)), (1, .inl x1)] [] h = if sK h a0 = 11 then bak (EX d 87) 78 [(0, .inr (.inr a0)), (1, .inl x1)] [] true (cal d 86 [.inr (.inr a0), .inl x1] h) else none := (EX_at bk_Mod_readUnit_73 _ _ _).trans rfl
theorem bk_Mod_readUnit_78 : blk 87 78 = some (((cd_Mod_readUnit.lookup 78).getD ([], 0, []))) := rfl
theorem Mod_readUnit_78 (d : Nat) (a0 : Nat) (x1 : Int) (h : Hp) : EX d 87 78 [(0, .inr (.inr a0)), (1, .inl x1)] [] h = if sK h a0 = 11 then bak (EX d 87) 84 [(0, .inr (.inr a0)), (1, .inl x1)] [] false (cal d 77 [.inr (.inr a0), .inl 34] h) else none := (EX_at bk_Mod_readUnit_78 _ _ _).trans rfl
theorem bk_Mod_readUnit_84 : blk 87 84 = some (((cd_Mod_readUnit.lookup 84).getD ([], 0, []))) := rfl
theorem Mod_readUnit_84 (d : Nat) (a0 : Nat) (x1 : Int) (s0 : Int) (h : Hp) : EX d 87 84 [(0, .inr (.inr a0)), (1, .inl x1)] [.inl s0] h = if (wr s0) = 0 then EX d 87 93 [(0, .inr (.inr a0)), (1, .inl x1)] [] h else EX d 87 87 [(0, .inr (.inr a0)), (1, .inl x1)] [] h := (EX_at bk_Mod_readUnit_84 _ _ _).trans rfl
theorem bk_Mod_readUnit_87 : blk 87 87 = some (((cd_Mod_readUnit.lookup 87).getD ([], 0, []))) := rfl
theorem Mod_readUnit_87 (d : Nat) (a0 : Nat) (x1 : Int) (h : Hp) : EX d 87 87 [(0, .inr (.inr a0)), (1, .inl x1)] [] h = EX d 87 111 [(0, .inr (.inr a0)), (1, .inl x1)] [.inl 3003] h := (EX_at bk_Mod_readUnit_87 _ _ _).trans rfl
theorem bk_Mod_readUnit_93 : blk 87 93 = some (((cd_Mod_readUnit.lookup 93).getD ([], 0, []))) := rfl
theorem Mod_readUnit_93 (d : Nat) (a0 : Nat) (x1 : Int) (h : Hp) : EX d 87 93 [(0, .inr (.inr a0)), (1, .inl x1)] [] h = if sK h a0 = 11 then bak (EX d 87) 99 [(0, .inr (.inr a0)), (1, .inl x1)] [] false (cal d 77 [.inr (.inr a0), .inl 35] h) else none := (EX_at bk_Mod_readUnit_93 _ _ _).trans rfl
theorem bk_Mod_readUnit_99 : blk 87 99 = some (((cd_Mod_readUnit.lookup 99).getD ([], 0, []))) := rfl
theorem Mod_readUnit_99 (d : Nat) (a0 : Nat) (x1 : Int) (s0 : Int) (h : Hp) : EX d 87 99 [(0, .inr (.inr a0)), (1, .inl x1)] [.inl s0] h = if (wr s0) = 0 then EX d 87 108 [(0, .inr (.inr a0)), (1, .inl x1)] [] h else EX d 87 102 [(0, .inr (.inr a0)), (1, .inl x1)] [] h := (EX_at bk_Mod_readUnit_99 _ _ _).trans rfl
theorem bk_Mod_readUnit_102 : blk 87 102 = some (((cd_Mod_readUnit.lookup 102).getD ([], 0, []))) := rfl
theorem Mod_readUnit_102 (d : Nat) (a0 : Nat) (x1 : Int) (h : Hp) : EX d 87 102 [(0, .inr (.inr a0)), (1, .inl x1)] [] h = EX d 87 111 [(0, .inr (.inr a0)), (1, .inl x1)] [.inl 3004] h := (EX_at bk_Mod_readUnit_102 _ _ _).trans rfl
theorem bk_Mod_readUnit_108 : blk 87 108 = some (((cd_Mod_readUnit.lookup 108).getD ([], 0, []))) := rfl
theorem Mod_readUnit_108 (d : Nat) (a0 : Nat) (x1 : Int) (h : Hp) : EX d 87 108 [(0, .inr (.inr a0)), (1, .inl x1)] [] h = EX d 87 111 [(0, .inr (.inr a0)), (1, .inl x1)] [.inl 3005] h := (EX_at bk_Mod_readUnit_108 _ _ _).trans rfl
theorem bk_Mod_readUnit_111 : blk 87 111 = some (((cd_Mod_readUnit.lookup 111).getD ([], 0, []))) := rfl
theorem Mod_readUnit_111 (d : Nat) (a0 : Nat) (x1 : Int) (s0 : Int) (h : Hp) : EX d 87 111 [(0, .inr (.inr a0)), (1, .inl x1)] [.inl s0] h = if sK h a0 = 11 then bak (EX d 87) 118 [(0, .inr (.inr a0)), (1, .inl x1), (2, .inl s0)] [] false (cal d 77 [.inr (.inr a0), .inl 34] h) else none := (EX_at bk_Mod_readUnit_111 _ _ _).trans rfl
theorem bk_Mod_readUnit_118 : blk 87 118 = some (((cd_Mod_readUnit.lookup 118).getD ([], 0, []))) := rfl
theorem Mod_readUnit_118 (d : Nat) (a0 : Nat) (x1 : Int) (x2 : Int) (s0 : Int) (h : Hp) : EX d 87 118 [(0, .inr (.inr a0)), (1, .inl x1), (2, .inl x2)] [.inl s0] h = if (wr s0) = 0 then EX d 87 121 [(0, .inr (.inr a0)), (1, .inl x1), (2, .inl x2)] [] h else EX d 87 139 [(0, .inr (.inr a0)), (1, .inl x1), (2, .inl x2)] [] h := (EX_at bk_Mod_readUnit_118 _ _ _).trans rfl
theorem bk_Mod_readUnit_121 : blk 87 121 = some (((cd_Mod_readUnit.lookup 121).getD ([], 0, []))) := rfl
theorem Mod_readUnit_121 (d : Nat) (a0 : Nat) (x1 : Int) (x2 : Int) (h : Hp) : EX d 87 121 [(0, .inr (.inr a0)), (1, .inl x1), (2, .inl x2)] [] h = if sK h a0 = 11 then bak (EX d 87) 127 [(0, .inr (.inr a0)), (1, .inl x1), (2, .inl x2)] [] false (cal d 77 [.inr (.inr a0), .inl 35] h) else none := (EX_at bk_Mod_readUnit_121 _ _ _).trans rfl
theorem bk_Mod_readUnit_127 : blk 87 127 = some (((cd_Mod_readUnit.lookup 127).getD ([], 0, []))) := rfl
theorem Mod_readUnit_127 (d : Nat) (a0 : Nat) (x1 : Int) (x2 : Int) (s0 : Int) (h : Hp) : EX d 87 127 [(0, .inr (.inr a0)), (1, .inl x1), (2, .inl x2)] [.inl s0] h = if (wr s0) = 0 then EX d 87 130 [(0, .inr (.inr a0)), (1, .inl x1), (2, .inl x2)] [] h else EX d 87 139 [(0, .inr (.inr a0)), (1, .inl x1), (2, .inl x2)] [] h := (EX_at bk_Mod_readUnit_127 _ _ _).trans rfl
theorem bk_Mod_readUnit_130 : blk 87 130 = some (((cd_Mod_readUnit.lookup 130).getD ([], 0, []))) := rfl
theorem Mod_readUnit_130 (d : Nat) (a0 : Nat) (x1 : Int) (x2 : Int) (h : Hp) : EX d 87 130 [(0, .inr (.inr a0)), (1, .inl x1), (2, .inl x2)] [] h = if sK h a0 = 11 then bak (EX d 87) 136 [(0, .inr (.inr a0)), (1, .inl x1), (2, .inl x2)] [] false (cal d 77 [.inr (.inr a0), .inl 36] h) else none := (EX_at bk_Mod_readUnit_130 _ _ _).trans rfl
theorem bk_Mod_readUnit_136 : blk 87 136 = some (((cd_Mod_readUnit.lookup 136).getD ([], 0, []))) := rfl
theorem Mod_readUnit_136 (d : Nat) (a0 : Nat) (x1 : Int) (x2 : Int) (s0 : Int) (h : Hp) : EX d 87 136 [(0, .inr (.inr a0)), (1, .inl x1), (2, .inl x2)] [.inl s0] h = if (wr s0) = 0 then EX d 87 146 [(0, .inr (.inr a0)), (1, .inl x1), (2, .inl x2)] [] h else EX d 87 139 [(0, .inr (.inr a0)), (1, .inl x1), (2, .inl x2)] [] h := (EX_at bk_Mod_readUnit_136 _ _ _).trans rfl
theorem bk_Mod_readUnit_139 : blk 87 139 = some (((cd_Mod_readUnit.lookup 139).getD ([], 0, []))) := rfl
theorem Mod_readUnit_139 (d : Nat) (a0 : Nat) (x1 : Int) (x2 : Int) (h : Hp) : EX d 87 139 [(0, .inr (.inr a0)), (1, .inl x1), (2, .inl x2)] [] h = if sK h a0 = 11 then bak (EX d 87) 143 [(0, .inr (.inr a0)), (1, .inl x1), (2, .inl x2)] [] true (cal d 76 [.inr (.inr a0)] h) else none := (EX_at bk_Mod_readUnit_139 _ _ _).trans rfl
theorem bk_Mod_readUnit_143 : blk 87 143 = some (((cd_Mod_readUnit.lookup 143).getD ([], 0, []))) := rfl
theorem Mod_readUnit_143 (d : Nat) (a0 : Nat) (x1 : Int) (x2 : Int) (h : Hp) : EX d 87 143 [(0, .inr (.inr a0)), (1, .inl x1), (2, .inl x2)] [] h = EX d 87 151 [(0, .inr (.inr a0)), (1, .inl x1), (2, .inl x2)] [] h := (EX_at bk_Mod_readUnit_143 _ _ _).trans rfl
theorem bk_Mod_readUnit_146 : blk 87 146 = some (((cd_Mod_readUnit.lookup 146).getD ([], 0, []))) := rfl
theorem Mod_readUnit_146 (d : Nat) (a0 : Nat) (x1 : Int) (x2 : Int) (h : Hp) : EX d 87 146 [(0, .inr (.inr a0)), (1, .inl x1), (2, .inl x2)] [] h = if sK h a0 = 11 then bak (EX d 87) 151 [(0, .inr (.inr a0)), (1, .inl x1), (2, .inl x2)] [] true (cal d 78 [.inr (.inr a0), .inl 2] h) else none := (EX_at bk_Mod_readUnit_146 _ _ _).trans rfl
theorem bk_Mod_readUnit_151 : blk 87 151 = some (((cd_Mod_readUnit.lookup 151).getD ([], 0, []))) := rfl
theorem Mod_readUnit_151 (d : Nat) (a0 : Nat) (x1 : Int) (x2 : Int) (h : Hp) : EX d 87 151 [(0, .inr (.inr a0)), (1, .inl x1), (2, .inl x2)] [] h = if sK h a0 = 11 then bak (EX d 87) 156 [(0, .inr (.inr a0)), (2, .inl x2)] [] true (cal d 86 [.inr (.inr a0), .inl x1] h) else none := (EX_at bk_Mod_readUnit_151 _ _ _).trans rfl
theorem bk_Mod_readUnit_156 : blk 87 156 = some (((cd_Mod_readUnit.lookup 156).getD ([], 0, []))) := rfl
theorem Mod_readUnit_156 (d : Nat) (a0 : Nat) (x2 : Int) (h : Hp) : EX d 87 156 [(0, .inr (.inr a0)), (2, .inl x2)] [] h = if sK h a0 = 11 then bak (EX d 87) 161 [] [] true (cal d 83 [.inr (.inr a0), .inl x2] h) else none := (EX_at bk_Mod_readUnit_156 _ _ _).trans rfl
theorem bk_Mod_readUnit_161 : blk 87 161 = some (((cd_Mod_readUnit.lookup 161).getD ([], 0, []))) := rfl
theorem Mod_readUnit_161 (d : Nat) (h : Hp) : EX d 87 161 [] [] h = some (.inl 0, h) := (EX_at bk_Mod_readUnit_161 _ _ _).trans rfl
/-! readBoth(I)V of HookOverModel: method 88 -/
theorem bk_Mod_readBoth_0 : blk 88 0 = some (((cd_Mod_readBoth.lookup 0).getD ([], 0, []))) := rfl
theorem Mod_readBoth_0 (d : Nat) (a0 : Nat) (x1 : Int) (h : Hp) : EX d 88 0 [(0, .inr (.inr a0)), (1, .inl x1)] [] h = if sK h a0 = 11 then bak (EX d 88) 5 [(0, .inr (.inr a0)), (1, .inl x1)] [] true (cal d 87 [.inr (.inr a0), .inl x1] h) else none := (EX_at bk_Mod_readBoth_0 _ _ _).trans rfl
theorem bk_Mod_readBoth_5 : blk 88 5 = some (((cd_Mod_readBoth.lookup 5).getD ([], 0, []))) := rfl
theorem Mod_readBoth_5 (d : Nat) (a0 : Nat) (x1 : Int) (h : Hp) : EX d 88 5 [(0, .inr (.inr a0)), (1, .inl x1)] [] h = if sK h a0 = 11 then bak (EX d 88) 11 [(0, .inr (.inr a0)), (1, .inl x1)] [] false (cal d 81 [.inr (.inr a0), .inl 12] h) else none := (EX_at bk_Mod_readBoth_5 _ _ _).trans rfl
theorem bk_Mod_readBoth_11 : blk 88 11 = some (((cd_Mod_readBoth.lookup 11).getD ([], 0, []))) := rfl
theorem Mod_readBoth_11 (d : Nat) (a0 : Nat) (x1 : Int) (s0 : Int) (h : Hp) : EX d 88 11 [(0, .inr (.inr a0)), (1, .inl x1)] [.inl s0] h = if (wr s0) = 0 then EX d 88 29 [] [] h else EX d 88 14 [(0, .inr (.inr a0)), (1, .inl x1)] [] h := (EX_at bk_Mod_readBoth_11 _ _ _).trans rfl
theorem bk_Mod_readBoth_14 : blk 88 14 = some (((cd_Mod_readBoth.lookup 14).getD ([], 0, []))) := rfl
theorem Mod_readBoth_14 (d : Nat) (a0 : Nat) (x1 : Int) (h : Hp) : EX d 88 14 [(0, .inr (.inr a0)), (1, .inl x1)] [] h = if sK h a0 = 11 then bak (EX d 88) 19 [(0, .inr (.inr a0)), (1, .inl x1)] [] true (cal d 87 [.inr (.inr a0), .inl x1] h) else none := (EX_at bk_Mod_readBoth_14 _ _ _).trans rfl
theorem bk_Mod_readBoth_19 : blk 88 19 = some (((cd_Mod_readBoth.lookup 19).getD ([], 0, []))) := rfl
theorem Mod_readBoth_19 (d : Nat) (a0 : Nat) (x1 : Int) (h : Hp) : EX d 88 19 [(0, .inr (.inr a0)), (1, .inl x1)] [] h = if sK h a0 = 11 then bak (EX d 88) 26 [(0, .inr (.inr a0)), (1, .inl x1)] [] true (cal d 83 [.inr (.inr a0), .inl 3006] h) else none := (EX_at bk_Mod_readBoth_19 _ _ _).trans rfl
theorem bk_Mod_readBoth_26 : blk 88 26 = some (((cd_Mod_readBoth.lookup 26).getD ([], 0, []))) := rfl
theorem Mod_readBoth_26 (d : Nat) (a0 : Nat) (x1 : Int) (h : Hp) : EX d 88 26 [(0, .inr (.inr a0)), (1, .inl x1)] [] h = EX d 88 5 [(0, .inr (.inr a0)), (1, .inl x1)] [] h := (EX_at bk_Mod_readBoth_26 _ _ _).trans rfl
theorem bk_Mod_readBoth_29 : blk 88 29 = some (((cd_Mod_readBoth.lookup 29).getD ([], 0, []))) := rfl
theorem Mod_readBoth_29 (d : Nat) (h : Hp) : EX d 88 29 [] [] h = some (.inl 0, h) := (EX_at bk_Mod_readBoth_29 _ _ _).trans rfl
/-! readTruth(I)V of HookOverModel: method 89 -/
theorem bk_Mod_readTruth_0 : blk 89 0 = some (((cd_Mod_readTruth.lookup 0).getD ([], 0, []))) := rfl
theorem Mod_readTruth_0 (d : Nat) (a0 : Nat) (x1 : Int) (h : Hp) : EX d 89 0 [(0, .inr (.inr a0)), (1, .inl x1)] [] h = if sK h a0 = 11 then bak (EX d 89) 5 [(0, .inr (.inr a0)), (1, .inl x1)] [] true (cal d 88 [.inr (.inr a0), .inl x1] h) else none := (EX_at bk_Mod_readTruth_0 _ _ _).trans rfl
theorem bk_Mod_readTruth_5 : blk 89 5 = some (((cd_Mod_readTruth.lookup 5).getD ([], 0, []))) := rfl
theorem Mod_readTruth_5 (d : Nat) (a0 : Nat) (x1 : Int) (h : Hp) : EX d 89 5 [(0, .inr (.inr a0)), (1, .inl x1)] [] h = if sK h a0 = 11 then bak (EX d 89) 11 [(0, .inr (.inr a0)), (1, .inl x1)] [] false (cal d 81 [.inr (.inr a0), .inl 11] h) else none := (EX_at bk_Mod_readTruth_5 _ _ _).trans rfl
theorem bk_Mod_readTruth_11 : blk 89 11 = some (((cd_Mod_readTruth.lookup 11).getD ([], 0, []))) := rfl
theorem Mod_readTruth_11 (d : Nat) (a0 : Nat) (x1 : Int) (s0 : Int) (h : Hp) : EX d 89 11 [(0, .inr (.inr a0)), (1, .inl x1)] [.inl s0] h = if (wr s0) = 0 then EX d 89 29 [] [] h else EX d 89 14 [(0, .inr (.inr a0)), (1, .inl x1)] [] h := (EX_at bk_Mod_readTruth_11 _ _ _).trans rfl
theorem bk_Mod_readTruth_14 : blk 89 14 = some (((cd_Mod_readTruth.lookup 14).getD ([], 0, []))) := rfl
theorem Mod_readTruth_14 (d : Nat) (a0 : Nat) (x1 : Int) (h : Hp) : EX d 89 14 [(0, .inr (.inr a0)), (1, .inl x1)] [] h = if sK h a0 = 11 then bak (EX d 89) 19 [(0, .inr (.inr a0)), (1, .inl x1)] [] true (cal d 88 [.inr (.inr a0), .inl x1] h) else none := (EX_at bk_Mod_readTruth_14 _ _ _).trans rfl
theorem bk_Mod_readTruth_19 : blk 89 19 = some (((cd_Mod_readTruth.lookup 19).getD ([], 0, []))) := rfl
theorem Mod_readTruth_19 (d : Nat) (a0 : Nat) (x1 : Int) (h : Hp) : EX d 89 19 [(0, .inr (.inr a0)), (1, .inl x1)] [] h = if sK h a0 = 11 then bak (EX d 89) 26 [(0, .inr (.inr a0)), (1, .inl x1)] [] true (cal d 83 [.inr (.inr a0), .inl 3007] h) else none := (EX_at bk_Mod_readTruth_19 _ _ _).trans rfl
theorem bk_Mod_readTruth_26 : blk 89 26 = some (((cd_Mod_readTruth.lookup 26).getD ([], 0, []))) := rfl
theorem Mod_readTruth_26 (d : Nat) (a0 : Nat) (x1 : Int) (h : Hp) : EX d 89 26 [(0, .inr (.inr a0)), (1, .inl x1)] [] h = EX d 89 5 [(0, .inr (.inr a0)), (1, .inl x1)] [] h := (EX_at bk_Mod_readTruth_26 _ _ _).trans rfl
theorem bk_Mod_readTruth_29 : blk 89 29 = some (((cd_Mod_readTruth.lookup 29).getD ([], 0, []))) := rfl
theorem Mod_readTruth_29 (d : Nat) (h : Hp) : EX d 89 29 [] [] h = some (.inl 0, h) := (EX_at bk_Mod_readTruth_29 _ _ _).trans rfl
/-! readLaw()V of HookOverModel: method 90 -/
theorem bk_Mod_readLaw_0 : blk 90 0 = some (((cd_Mod_readLaw.lookup 0).getD ([], 0, []))) := rfl
theorem Mod_readLaw_0 (d : Nat) (a0 : Nat) (h : Hp) : EX d 90 0 [(0, .inr (.inr a0))] [] h = if sK h a0 = 11 then bak (EX d 90) 4 [(0, .inr (.inr a0))] [] true (cal d 76 [.inr (.inr a0)] h) else none := (EX_at bk_Mod_readLaw_0 _ _ _).trans rfl
theorem bk_Mod_readLaw_4 : blk 90 4 = some (((cd_Mod_readLaw.lookup 4).getD ([], 0, []))) := rfl
theorem Mod_readLaw_4 (d : Nat) (a0 : Nat) (h : Hp) : EX d 90 4 [(0, .inr (.inr a0))] [] h = if sK h a0 = 11 then bak (EX d 90) 10 [(0, .inr (.inr a0))] [] false (cal d 81 [.inr (.inr a0), .inl 26] h) else none := (EX_at bk_Mod_readLaw_4 _ _ _).trans rfl
theorem bk_Mod_readLaw_10 : blk 90 10 = some (((cd_Mod_readLaw.lookup 10).getD ([], 0, []))) := rfl
theorem Mod_readLaw_10 (d : Nat) (a0 : Nat) (s0 : Int) (h : Hp) : EX d 90 10 [(0, .inr (.inr a0))] [.inl s0] h = if (wr s0) = 0 then EX d 90 13 [(0, .inr (.inr a0))] [] h else EX d 90 18 [(0, .inr (.inr a0))] [] h := (EX_at bk_Mod_readLaw_10 _ _ _).trans rfl
theorem bk_Mod_readLaw_13 : blk 90 13 = some (((cd_Mod_readLaw.lookup 13).getD ([], 0, []))) := rfl
theorem Mod_readLaw_13 (d : Nat) (a0 : Nat) (h : Hp) : EX d 90 13 [(0, .inr (.inr a0))] [] h = if sK h a0 = 11 then bak (EX d 90) 18 [(0, .inr (.inr a0))] [] true (cal d 78 [.inr (.inr a0), .inl 2] h) else none := (EX_at bk_Mod_readLaw_13 _ _ _).trans rfl
theorem bk_Mod_readLaw_18 : blk 90 18 = some (((cd_Mod_readLaw.lookup 18).getD ([], 0, []))) := rfl
theorem Mod_readLaw_18 (d : Nat) (a0 : Nat) (h : Hp) : EX d 90 18 [(0, .inr (.inr a0))] [] h = if sK h a0 = 11 then if okx h (hR h a0 4) 20 214 then EX d 90 27 [(0, .inr (.inr a0))] [] (pI h (hR h a0 4) 214 0) else none else none := (EX_at bk_Mod_readLaw_18 _ _ _).trans rfl
theorem bk_Mod_readLaw_27 : blk 90 27 = some (((cd_Mod_readLaw.lookup 27).getD ([], 0, []))) := rfl
theorem Mod_readLaw_27 (d : Nat) (a0 : Nat) (h : Hp) : EX d 90 27 [(0, .inr (.inr a0))] [] h = if sK h a0 = 11 then bak (EX d 90) 32 [(0, .inr (.inr a0))] [] true (cal d 89 [.inr (.inr a0), .inl 0] h) else none := (EX_at bk_Mod_readLaw_27 _ _ _).trans rfl
theorem bk_Mod_readLaw_32 : blk 90 32 = some (((cd_Mod_readLaw.lookup 32).getD ([], 0, []))) := rfl
theorem Mod_readLaw_32 (d : Nat) (a0 : Nat) (h : Hp) : EX d 90 32 [(0, .inr (.inr a0))] [] h = if sK h a0 = 11 then if (wr (hI h a0 11)) = 0 then EX d 90 39 [(0, .inr (.inr a0))] [] h else EX d 90 47 [] [] h else none := (EX_at bk_Mod_readLaw_32 _ _ _).trans rfl
theorem bk_Mod_readLaw_39 : blk 90 39 = some (((cd_Mod_readLaw.lookup 39).getD ([], 0, []))) := rfl
theorem Mod_readLaw_39 (d : Nat) (a0 : Nat) (h : Hp) : EX d 90 39 [(0, .inr (.inr a0))] [] h = if sK h a0 = 11 then if okx h (hR h a0 4) 20 9 then EX d 90 47 [] [] (pI h (hR h a0 4) 9 1) else none else none := (EX_at bk_Mod_readLaw_39 _ _ _).trans rfl
theorem bk_Mod_readLaw_47 : blk 90 47 = some (((cd_Mod_readLaw.lookup 47).getD ([], 0, []))) := rfl
theorem Mod_readLaw_47 (d : Nat) (h : Hp) : EX d 90 47 [] [] h = some (.inl 0, h) := (EX_at bk_Mod_readLaw_47 _ _ _).trans rfl
/-! readChair()V of HookOverModel: method 91 -/
theorem bk_Mod_readChair_0 : blk 91 0 = some (((cd_Mod_readChair.lookup 0).getD ([], 0, []))) := rfl
theorem Mod_readChair_0 (d : Nat) (a0 : Nat) (h : Hp) : EX d 91 0 [(0, .inr (.inr a0))] [] h = if sK h a0 = 11 then bak (EX d 91) 7 [(0, .inr (.inr a0))] [] false (cal d 79 [.inr (.inr a0), .inl 0, .inl 9] h) else none := (EX_at bk_Mod_readChair_0 _ _ _).trans rfl
theorem bk_Mod_readChair_7 : blk 91 7 = some (((cd_Mod_readChair.lookup 7).getD ([], 0, []))) := rfl
theorem Mod_readChair_7 (d : Nat) (a0 : Nat) (s0 : Int) (h : Hp) : EX d 91 7 [(0, .inr (.inr a0))] [.inl s0] h = if sK h a0 = 11 then bak (EX d 91) 15 [(0, .inr (.inr a0)), (1, .inl s0)] [] false (cal d 79 [.inr (.inr a0), .inl 0, .inl 99] h) else none := (EX_at bk_Mod_readChair_7 _ _ _).trans rfl
theorem bk_Mod_readChair_15 : blk 91 15 = some (((cd_Mod_readChair.lookup 15).getD ([], 0, []))) := rfl
theorem Mod_readChair_15 (d : Nat) (a0 : Nat) (x1 : Int) (s0 : Int) (h : Hp) : EX d 91 15 [(0, .inr (.inr a0)), (1, .inl x1)] [.inl s0] h = if sK h a0 = 11 then bak (EX d 91) 23 [(0, .inr (.inr a0)), (1, .inl x1), (2, .inl s0)] [] false (cal d 79 [.inr (.inr a0), .inl 1, .inl 99] h) else none := (EX_at bk_Mod_readChair_15 _ _ _).trans rfl
theorem bk_Mod_readChair_23 : blk 91 23 = some (((cd_Mod_readChair.lookup 23).getD ([], 0, []))) := rfl
theorem Mod_readChair_23 (d : Nat) (a0 : Nat) (x1 : Int) (x2 : Int) (s0 : Int) (h : Hp) : EX d 91 23 [(0, .inr (.inr a0)), (1, .inl x1), (2, .inl x2)] [.inl s0] h = if sK h a0 = 11 then if (wr (hI h a0 11)) = 0 then EX d 91 32 [(0, .inr (.inr a0)), (1, .inl x1), (2, .inl x2), (3, .inl s0)] [] h else EX d 91 31 [] [] h else none := (EX_at bk_Mod_readChair_23 _ _ _).trans rfl
theorem bk_Mod_readChair_31 : blk 91 31 = some (((cd_Mod_readChair.lookup 31).getD ([], 0, []))) := rfl
theorem Mod_readChair_31 (d : Nat) (h : Hp) : EX d 91 31 [] [] h = some (.inl 0, h) := (EX_at bk_Mod_readChair_31 _ _ _).trans rfl
theorem bk_Mod_readChair_32 : blk 91 32 = some (((cd_Mod_readChair.lookup 32).getD ([], 0, []))) := rfl
theorem Mod_readChair_32 (d : Nat) (a0 : Nat) (x1 : Int) (x2 : Int) (x3 : Int) (h : Hp) : EX d 91 32 [(0, .inr (.inr a0)), (1, .inl x1), (2, .inl x2), (3, .inl x3)] [] h = if sK h a0 = 11 then if okx h (hR h a0 4) 20 3 then EX d 91 39 [(0, .inr (.inr a0)), (2, .inl x2), (3, .inl x3)] [] (pI h (hR h a0 4) 3 x1) else none else none := (EX_at bk_Mod_readChair_32 _ _ _).trans rfl
theorem bk_Mod_readChair_39 : blk 91 39 = some (((cd_Mod_readChair.lookup 39).getD ([], 0, []))) := rfl
theorem Mod_readChair_39 (d : Nat) (a0 : Nat) (x2 : Int) (x3 : Int) (h : Hp) : EX d 91 39 [(0, .inr (.inr a0)), (2, .inl x2), (3, .inl x3)] [] h = if sK h a0 = 11 then if okx h (hR h a0 4) 20 4 then EX d 91 46 [(0, .inr (.inr a0)), (3, .inl x3)] [] (pI h (hR h a0 4) 4 x2) else none else none := (EX_at bk_Mod_readChair_39 _ _ _).trans rfl
theorem bk_Mod_readChair_46 : blk 91 46 = some (((cd_Mod_readChair.lookup 46).getD ([], 0, []))) := rfl
theorem Mod_readChair_46 (d : Nat) (a0 : Nat) (x3 : Int) (h : Hp) : EX d 91 46 [(0, .inr (.inr a0)), (3, .inl x3)] [] h = if sK h a0 = 11 then if okx h (hR h a0 4) 20 5 then EX d 91 53 [] [] (pI h (hR h a0 4) 5 x3) else none else none := (EX_at bk_Mod_readChair_46 _ _ _).trans rfl
theorem bk_Mod_readChair_53 : blk 91 53 = some (((cd_Mod_readChair.lookup 53).getD ([], 0, []))) := rfl
theorem Mod_readChair_53 (d : Nat) (h : Hp) : EX d 91 53 [] [] h = some (.inl 0, h) := (EX_at bk_Mod_readChair_53 _ _ _).trans rfl
/-! readSlip()V of HookOverModel: method 92 -/
theorem bk_Mod_readSlip_0 : blk 92 0 = some (((cd_Mod_readSlip.lookup 0).getD ([], 0, []))) := rfl
theorem Mod_readSlip_0 (d : Nat) (a0 : Nat) (h : Hp) : EX d 92 0 [(0, .inr (.inr a0))] [] h = if sK h a0 = 11 then bak (EX d 92) 7 [(0, .inr (.inr a0))] [] false (cal d 79 [.inr (.inr a0), .inl 0, .inl 9] h) else none := (EX_at bk_Mod_readSlip_0 _ _ _).trans rfl
theorem bk_Mod_readSlip_7 : blk 92 7 = some (((cd_Mod_readSlip.lookup 7).getD ([], 0, []))) := rfl
theorem Mod_readSlip_7 (d : Nat) (a0 : Nat) (s0 : Int) (h : Hp) : EX d 92 7 [(0, .inr (.inr a0))] [.inl s0] h = if sK h a0 = 11 then bak (EX d 92) 16 [(0, .inr (.inr a0)), (1, .inl s0)] [] false (cal d 79 [.inr (.inr a0), .inl 0, .inl 999] h) else none := (EX_at bk_Mod_readSlip_7 _ _ _).trans rfl
theorem bk_Mod_readSlip_16 : blk 92 16 = some (((cd_Mod_readSlip.lookup 16).getD ([], 0, []))) := rfl
theorem Mod_readSlip_16 (d : Nat) (a0 : Nat) (x1 : Int) (s0 : Int) (h : Hp) : EX d 92 16 [(0, .inr (.inr a0)), (1, .inl x1)] [.inl s0] h = if sK h a0 = 11 then if (wr (hI h a0 11)) = 0 then EX d 92 25 [(0, .inr (.inr a0)), (1, .inl x1), (2, .inl s0)] [] h else EX d 92 24 [] [] h else none := (EX_at bk_Mod_readSlip_16 _ _ _).trans rfl
theorem bk_Mod_readSlip_24 : blk 92 24 = some (((cd_Mod_readSlip.lookup 24).getD ([], 0, []))) := rfl
theorem Mod_readSlip_24 (d : Nat) (h : Hp) : EX d 92 24 [] [] h = some (.inl 0, h) := (EX_at bk_Mod_readSlip_24 _ _ _).trans rfl
theorem bk_Mod_readSlip_25 : blk 92 25 = some (((cd_Mod_readSlip.lookup 25).getD ([], 0, []))) := rfl
theorem Mod_readSlip_25 (d : Nat) (a0 : Nat) (x1 : Int) (x2 : Int) (h : Hp) : EX d 92 25 [(0, .inr (.inr a0)), (1, .inl x1), (2, .inl x2)] [] h = if sK h a0 = 11 then if okx h (hR h a0 4) 20 7 then EX d 92 33 [(0, .inr (.inr a0)), (2, .inl x2)] [] (pI h (hR h a0 4) 7 x1) else none else none := (EX_at bk_Mod_readSlip_25 _ _ _).trans rfl
theorem bk_Mod_readSlip_33 : blk 92 33 = some (((cd_Mod_readSlip.lookup 33).getD ([], 0, []))) := rfl
theorem Mod_readSlip_33 (d : Nat) (a0 : Nat) (x2 : Int) (h : Hp) : EX d 92 33 [(0, .inr (.inr a0)), (2, .inl x2)] [] h = if sK h a0 = 11 then if okx h (hR h a0 4) 20 8 then EX d 92 41 [] [] (pI h (hR h a0 4) 8 x2) else none else none := (EX_at bk_Mod_readSlip_33 _ _ _).trans rfl
theorem bk_Mod_readSlip_41 : blk 92 41 = some (((cd_Mod_readSlip.lookup 41).getD ([], 0, []))) := rfl
theorem Mod_readSlip_41 (d : Nat) (h : Hp) : EX d 92 41 [] [] h = some (.inl 0, h) := (EX_at bk_Mod_readSlip_41 _ _ _).trans rfl
/-! isHung()Z of HookOverModel: method 93 -/
theorem bk_Mod_isHung_0 : blk 93 0 = some (((cd_Mod_isHung.lookup 0).getD ([], 0, []))) := rfl
theorem Mod_isHung_0 (d : Nat) (a0 : Nat) (h : Hp) : EX d 93 0 [(0, .inr (.inr a0))] [] h = if sK h a0 = 11 then if okx h (hR h a0 4) 20 1 then if 0 < (wr (hI h (hR h a0 4) 1)) then EX d 93 9 [(0, .inr (.inr a0))] [] h else EX d 93 22 [] [] h else none else none := (EX_at bk_Mod_isHung_0 _ _ _).trans rfl
theorem bk_Mod_isHung_9 : blk 93 9 = some (((cd_Mod_isHung.lookup 9).getD ([], 0, []))) := rfl
theorem Mod_isHung_9 (d : Nat) (a0 : Nat) (h : Hp) : EX d 93 9 [(0, .inr (.inr a0))] [] h = if sK h a0 = 11 then if okx h (hR h a0 4) 20 2 then if 0 < (wr (hI h (hR h a0 4) 2)) then EX d 93 18 [] [] h else EX d 93 22 [] [] h else none else none := (EX_at bk_Mod_isHung_9 _ _ _).trans rfl
theorem bk_Mod_isHung_18 : blk 93 18 = some (((cd_Mod_isHung.lookup 18).getD ([], 0, []))) := rfl
theorem Mod_isHung_18 (d : Nat) (h : Hp) : EX d 93 18 [] [] h = EX d 93 23 [] [.inl 1] h := (EX_at bk_Mod_isHung_18 _ _ _).trans rfl
theorem bk_Mod_isHung_22 : blk 93 22 = some (((cd_Mod_isHung.lookup 22).getD ([], 0, []))) := rfl
theorem Mod_isHung_22 (d : Nat) (h : Hp) : EX d 93 22 [] [] h = EX d 93 23 [] [.inl 0] h := (EX_at bk_Mod_isHung_22 _ _ _).trans rfl
theorem bk_Mod_isHung_23 : blk 93 23 = some (((cd_Mod_isHung.lookup 23).getD ([], 0, []))) := rfl
theorem Mod_isHung_23 (d : Nat) (s0 : Int) (h : Hp) : EX d 93 23 [] [.inl s0] h = if ((s0 : Int) = 0 ∨ (s0 : Int) = 1) then some (.inl s0, h) else none := (EX_at bk_Mod_isHung_23 _ _ _).trans rfl
/-! readMark(II)V of HookOverModel: method 94 -/
theorem bk_Mod_readMark_0 : blk 94 0 = some (((cd_Mod_readMark.lookup 0).getD ([], 0, []))) := rfl
theorem Mod_readMark_0 (d : Nat) (a0 : Nat) (x1 : Int) (x2 : Int) (h : Hp) : EX d 94 0 [(0, .inr (.inr a0)), (1, .inl x1), (2, .inl x2)] [] h = if sK h a0 = 11 then bak (EX d 94) 8 [(0, .inr (.inr a0)), (2, .inl x2)] [] false (cal d 79 [.inr (.inr a0), .inl 0, .inl (x1 - 1)] h) else none := (EX_at bk_Mod_readMark_0 _ _ _).trans rfl
theorem bk_Mod_readMark_8 : blk 94 8 = some (((cd_Mod_readMark.lookup 8).getD ([], 0, []))) := rfl
theorem Mod_readMark_8 (d : Nat) (a0 : Nat) (x2 : Int) (s0 : Int) (h : Hp) : EX d 94 8 [(0, .inr (.inr a0)), (2, .inl x2)] [.inl s0] h = if sK h a0 = 11 then bak (EX d 94) 14 [(0, .inr (.inr a0)), (2, .inl x2), (3, .inl s0)] [] false (cal d 81 [.inr (.inr a0), .inl 3] h) else none := (EX_at bk_Mod_readMark_8 _ _ _).trans rfl
theorem bk_Mod_readMark_14 : blk 94 14 = some (((cd_Mod_readMark.lookup 14).getD ([], 0, []))) := rfl
theorem Mod_readMark_14 (d : Nat) (a0 : Nat) (x2 : Int) (x3 : Int) (s0 : Int) (h : Hp) : EX d 94 14 [(0, .inr (.inr a0)), (2, .inl x2), (3, .inl x3)] [.inl s0] h = if (wr s0) = 0 then EX d 94 17 [(0, .inr (.inr a0)), (2, .inl x2), (3, .inl x3)] [] h else EX d 94 22 [(0, .inr (.inr a0)), (2, .inl x2), (3, .inl x3)] [] h := (EX_at bk_Mod_readMark_14 _ _ _).trans rfl
theorem bk_Mod_readMark_17 : blk 94 17 = some (((cd_Mod_readMark.lookup 17).getD ([], 0, []))) := rfl
theorem Mod_readMark_17 (d : Nat) (a0 : Nat) (x2 : Int) (x3 : Int) (h : Hp) : EX d 94 17 [(0, .inr (.inr a0)), (2, .inl x2), (3, .inl x3)] [] h = if sK h a0 = 11 then bak (EX d 94) 22 [(0, .inr (.inr a0)), (2, .inl x2), (3, .inl x3)] [] true (cal d 78 [.inr (.inr a0), .inl 2] h) else none := (EX_at bk_Mod_readMark_17 _ _ _).trans rfl
theorem bk_Mod_readMark_22 : blk 94 22 = some (((cd_Mod_readMark.lookup 22).getD ([], 0, []))) := rfl
theorem Mod_readMark_22 (d : Nat) (a0 : Nat) (x2 : Int) (x3 : Int) (h : Hp) : EX d 94 22 [(0, .inr (.inr a0)), (2, .inl x2), (3, .inl x3)] [] h = if sK h a0 = 11 then bak (EX d 94) 29 [(0, .inr (.inr a0)), (2, .inl x2), (3, .inl x3)] [] false (cal d 79 [.inr (.inr a0), .inl 0, .inl 99] h) else none := (EX_at bk_Mod_readMark_22 _ _ _).trans rfl
theorem bk_Mod_readMark_29 : blk 94 29 = some (((cd_Mod_readMark.lookup 29).getD ([], 0, []))) := rfl
theorem Mod_readMark_29 (d : Nat) (a0 : Nat) (x2 : Int) (x3 : Int) (s0 : Int) (h : Hp) : EX d 94 29 [(0, .inr (.inr a0)), (2, .inl x2), (3, .inl x3)] [.inl s0] h = if sK h a0 = 11 then if (wr (hI h a0 11)) = 0 then EX d 94 38 [(0, .inr (.inr a0)), (2, .inl x2), (3, .inl x3), (4, .inl s0)] [] h else EX d 94 48 [] [] h else none := (EX_at bk_Mod_readMark_29 _ _ _).trans rfl
theorem bk_Mod_readMark_38 : blk 94 38 = some (((cd_Mod_readMark.lookup 38).getD ([], 0, []))) := rfl
theorem Mod_readMark_38 (d : Nat) (a0 : Nat) (x2 : Int) (x3 : Int) (x4 : Int) (h : Hp) : EX d 94 38 [(0, .inr (.inr a0)), (2, .inl x2), (3, .inl x3), (4, .inl x4)] [] h = if sK h a0 = 11 then if okx h (hR h a0 4) 20 (x2 + x3) then EX d 94 48 [] [] (pI h (hR h a0 4) (ix (x2 + x3)) x4) else none else none := (EX_at bk_Mod_readMark_38 _ _ _).trans rfl
theorem bk_Mod_readMark_48 : blk 94 48 = some (((cd_Mod_readMark.lookup 48).getD ([], 0, []))) := rfl
theorem Mod_readMark_48 (d : Nat) (h : Hp) : EX d 94 48 [] [] h = some (.inl 0, h) := (EX_at bk_Mod_readMark_48 _ _ _).trans rfl
/-! hookAt([II)I of HookOverModel: method 95 -/
theorem bk_Mod_hookAt_0 : blk 95 0 = some (((cd_Mod_hookAt.lookup 0).getD ([], 0, []))) := rfl
theorem Mod_hookAt_0 (d : Nat) (a0 : Nat) (x1 : Int) (h : Hp) : EX d 95 0 [(0, .inr (.inr a0)), (1, .inl x1)] [] h = EX d 95 2 [(0, .inr (.inr a0)), (1, .inl x1), (2, .inl 0)] [] h := (EX_at bk_Mod_hookAt_0 _ _ _).trans rfl
theorem bk_Mod_hookAt_2 : blk 95 2 = some (((cd_Mod_hookAt.lookup 2).getD ([], 0, []))) := rfl
theorem Mod_hookAt_2 (d : Nat) (a0 : Nat) (x1 : Int) (x2 : Int) (h : Hp) : EX d 95 2 [(0, .inr (.inr a0)), (1, .inl x1), (2, .inl x2)] [] h = if okx h a0 20 1 then if (wr x2) < (wr (hI h a0 1)) then EX d 95 9 [(0, .inr (.inr a0)), (1, .inl x1), (2, .inl x2)] [] h else EX d 95 27 [] [] h else none := (EX_at bk_Mod_hookAt_2 _ _ _).trans rfl
theorem bk_Mod_hookAt_9 : blk 95 9 = some (((cd_Mod_hookAt.lookup 9).getD ([], 0, []))) := rfl
theorem Mod_hookAt_9 (d : Nat) (a0 : Nat) (x1 : Int) (x2 : Int) (h : Hp) : EX d 95 9 [(0, .inr (.inr a0)), (1, .inl x1), (2, .inl x2)] [] h = if okx h a0 20 (61 + x2) then if (wr (hI h a0 (ix (61 + x2)))) = (wr x1) then EX d 95 19 [(2, .inl x2)] [] h else EX d 95 21 [(0, .inr (.inr a0)), (1, .inl x1), (2, .inl x2)] [] h else none := (EX_at bk_Mod_hookAt_9 _ _ _).trans rfl
theorem bk_Mod_hookAt_19 : blk 95 19 = some (((cd_Mod_hookAt.lookup 19).getD ([], 0, []))) := rfl
theorem Mod_hookAt_19 (d : Nat) (x2 : Int) (h : Hp) : EX d 95 19 [(2, .inl x2)] [] h = some (.inl x2, h) := (EX_at bk_Mod_hookAt_19 _ _ _).trans rfl
theorem bk_Mod_hookAt_21 : blk 95 21 = some (((cd_Mod_hookAt.lookup 21).getD ([], 0, []))) := rfl
theorem Mod_hookAt_21 (d : Nat) (a0 : Nat) (x1 : Int) (x2 : Int) (h : Hp) : EX d 95 21 [(0, .inr (.inr a0)), (1, .inl x1), (2, .inl x2)] [] h = EX d 95 2 [(0, .inr (.inr a0)), (1, .inl x1), (2, .inl (x2 + 1))] [] h := (EX_at bk_Mod_hookAt_21 _ _ _).trans rfl
theorem bk_Mod_hookAt_27 : blk 95 27 = some (((cd_Mod_hookAt.lookup 27).getD ([], 0, []))) := rfl
theorem Mod_hookAt_27 (d : Nat) (h : Hp) : EX d 95 27 [] [] h = some (.inl (-1), h) := (EX_at bk_Mod_hookAt_27 _ _ _).trans rfl
/-! isIn(JI)Z of HookOverModel: method 96 -/
theorem bk_Mod_isIn_0 : blk 96 0 = some (((cd_Mod_isIn.lookup 0).getD ([], 0, []))) := rfl
theorem Mod_isIn_0 (d : Nat) (y0 : Int) (x2 : Int) (h : Hp) : EX d 96 0 [(0, .inr (.inl y0)), (2, .inl x2)] [] h = if (wr (lCmp (lAnd (lShr y0 x2) 1) 1)) = 0 then EX d 96 10 [] [] h else EX d 96 14 [] [] h := (EX_at bk_Mod_isIn_0 _ _ _).trans rfl
theorem bk_Mod_isIn_10 : blk 96 10 = some (((cd_Mod_isIn.lookup 10).getD ([], 0, []))) := rfl
theorem Mod_isIn_10 (d : Nat) (h : Hp) : EX d 96 10 [] [] h = EX d 96 15 [] [.inl 1] h := (EX_at bk_Mod_isIn_10 _ _ _).trans rfl
theorem bk_Mod_isIn_14 : blk 96 14 = some (((cd_Mod_isIn.lookup 14).getD ([], 0, []))) := rfl
theorem Mod_isIn_14 (d : Nat) (h : Hp) : EX d 96 14 [] [] h = EX d 96 15 [] [.inl 0] h := (EX_at bk_Mod_isIn_14 _ _ _).trans rfl
theorem bk_Mod_isIn_15 : blk 96 15 = some (((cd_Mod_isIn.lookup 15).getD ([], 0, []))) := rfl
theorem Mod_isIn_15 (d : Nat) (s0 : Int) (h : Hp) : EX d 96 15 [] [.inl s0] h = if ((s0 : Int) = 0 ∨ (s0 : Int) = 1) then some (.inl s0, h) else none := (EX_at bk_Mod_isIn_15 _ _ _).trans rfl
/-! sag([IIIII)I of HookOverModel: method 97 -/
theorem bk_Mod_sag_0 : blk 97 0 = some (((cd_Mod_sag.lookup 0).getD ([], 0, []))) := rfl
theorem Mod_sag_0 (d : Nat) (a0 : Nat) (x1 : Int) (x2 : Int) (x3 : Int) (x4 : Int) (h : Hp) : EX d 97 0 [(0, .inr (.inr a0)), (1, .inl x1), (2, .inl x2), (3, .inl x3), (4, .inl x4)] [] h = EX d 97 6 [(0, .inr (.inr a0)), (2, .inl x2), (3, .inl x3), (4, .inl x4), (5, .inl 0), (6, .inl x1)] [] h := (EX_at bk_Mod_sag_0 _ _ _).trans rfl
theorem bk_Mod_sag_6 : blk 97 6 = some (((cd_Mod_sag.lookup 6).getD ([], 0, []))) := rfl
theorem Mod_sag_6 (d : Nat) (a0 : Nat) (x2 : Int) (x3 : Int) (x4 : Int) (x5 : Int) (x6 : Int) (h : Hp) : EX d 97 6 [(0, .inr (.inr a0)), (2, .inl x2), (3, .inl x3), (4, .inl x4), (5, .inl x5), (6, .inl x6)] [] h = if (wr x6) < (wr x3) then EX d 97 12 [(0, .inr (.inr a0)), (2, .inl x2), (3, .inl x3), (4, .inl x4), (5, .inl x5), (6, .inl x6)] [] h else EX d 97 30 [(0, .inr (.inr a0)), (2, .inl x2), (4, .inl x4), (5, .inl x5)] [] h := (EX_at bk_Mod_sag_6 _ _ _).trans rfl
theorem bk_Mod_sag_12 : blk 97 12 = some (((cd_Mod_sag.lookup 12).getD ([], 0, []))) := rfl
theorem Mod_sag_12 (d : Nat) (a0 : Nat) (x2 : Int) (x3 : Int) (x4 : Int) (x5 : Int) (x6 : Int) (h : Hp) : EX d 97 12 [(0, .inr (.inr a0)), (2, .inl x2), (3, .inl x3), (4, .inl x4), (5, .inl x5), (6, .inl x6)] [] h = if okx h a0 20 (11 + x6) then EX d 97 6 [(0, .inr (.inr a0)), (2, .inl x2), (3, .inl x3), (4, .inl x4), (5, .inl (x5 + (hI h a0 (ix (11 + x6))))), (6, .inl (x6 + 1))] [] h else none := (EX_at bk_Mod_sag_12 _ _ _).trans rfl
theorem bk_Mod_sag_30 : blk 97 30 = some (((cd_Mod_sag.lookup 30).getD ([], 0, []))) := rfl
theorem Mod_sag_30 (d : Nat) (a0 : Nat) (x2 : Int) (x4 : Int) (x5 : Int) (h : Hp) : EX d 97 30 [(0, .inr (.inr a0)), (2, .inl x2), (4, .inl x4), (5, .inl x5)] [] h = EX d 97 33 [(0, .inr (.inr a0)), (4, .inl x4), (5, .inl x5), (6, .inl x2)] [] h := (EX_at bk_Mod_sag_30 _ _ _).trans rfl
theorem bk_Mod_sag_33 : blk 97 33 = some (((cd_Mod_sag.lookup 33).getD ([], 0, []))) := rfl
theorem Mod_sag_33 (d : Nat) (a0 : Nat) (x4 : Int) (x5 : Int) (x6 : Int) (h : Hp) : EX d 97 33 [(0, .inr (.inr a0)), (4, .inl x4), (5, .inl x5), (6, .inl x6)] [] h = if (wr x6) < (wr x4) then EX d 97 40 [(0, .inr (.inr a0)), (4, .inl x4), (5, .inl x5), (6, .inl x6)] [] h else EX d 97 58 [(5, .inl x5)] [] h := (EX_at bk_Mod_sag_33 _ _ _).trans rfl
theorem bk_Mod_sag_40 : blk 97 40 = some (((cd_Mod_sag.lookup 40).getD ([], 0, []))) := rfl
theorem Mod_sag_40 (d : Nat) (a0 : Nat) (x4 : Int) (x5 : Int) (x6 : Int) (h : Hp) : EX d 97 40 [(0, .inr (.inr a0)), (4, .inl x4), (5, .inl x5), (6, .inl x6)] [] h = if okx h a0 20 (23 + x6) then EX d 97 33 [(0, .inr (.inr a0)), (4, .inl x4), (5, .inl (x5 - (hI h a0 (ix (23 + x6))))), (6, .inl (x6 + 1))] [] h else none := (EX_at bk_Mod_sag_40 _ _ _).trans rfl
theorem bk_Mod_sag_58 : blk 97 58 = some (((cd_Mod_sag.lookup 58).getD ([], 0, []))) := rfl
theorem Mod_sag_58 (d : Nat) (x5 : Int) (h : Hp) : EX d 97 58 [(5, .inl x5)] [] h = some (.inl x5, h) := (EX_at bk_Mod_sag_58 _ _ _).trans rfl
/-! whyNot([III)I of HookOverModel: method 98 -/
theorem bk_Mod_whyNot_0 : blk 98 0 = some (((cd_Mod_whyNot.lookup 0).getD ([], 0, []))) := rfl
theorem Mod_whyNot_0 (d : Nat) (a0 : Nat) (x1 : Int) (x2 : Int) (h : Hp) : EX d 98 0 [(0, .inr (.inr a0)), (1, .inl x1), (2, .inl x2)] [] h = if okx h a0 20 1 then bak (EX d 98) 12 [(0, .inr (.inr a0)), (1, .inl x1), (2, .inl x2)] [] false (cal d 71 [.inr (.inl (wr x1)), .inr (.inl 0), .inr (.inl (wr ((hI h a0 1) - 1)))] h) else none := (EX_at bk_Mod_whyNot_0 _ _ _).trans rfl
theorem bk_Mod_whyNot_12 : blk 98 12 = some (((cd_Mod_whyNot.lookup 12).getD ([], 0, []))) := rfl
theorem Mod_whyNot_12 (d : Nat) (a0 : Nat) (x1 : Int) (x2 : Int) (s0 : Int) (h : Hp) : EX d 98 12 [(0, .inr (.inr a0)), (1, .inl x1), (2, .inl x2)] [.inl s0] h = if (wr s0) = 0 then EX d 98 30 [] [] h else EX d 98 15 [(0, .inr (.inr a0)), (1, .inl x1), (2, .inl x2)] [] h := (EX_at bk_Mod_whyNot_12 _ _ _).trans rfl
theorem bk_Mod_whyNot_15 : blk 98 15 = some (((cd_Mod_whyNot.lookup 15).getD ([], 0, []))) := rfl
theorem Mod_whyNot_15 (d : Nat) (a0 : Nat) (x1 : Int) (x2 : Int) (h : Hp) : EX d 98 15 [(0, .inr (.inr a0)), (1, .inl x1), (2, .inl x2)] [] h = if okx h a0 20 2 then bak (EX d 98) 27 [(0, .inr (.inr a0)), (1, .inl x1), (2, .inl x2)] [] false (cal d 71 [.inr (.inl (wr x2)), .inr (.inl 0), .inr (.inl (wr ((hI h a0 2) - 1)))] h) else none := (EX_at bk_Mod_whyNot_15 _ _ _).trans rfl
theorem bk_Mod_whyNot_27 : blk 98 27 = some (((cd_Mod_whyNot.lookup 27).getD ([], 0, []))) := rfl
theorem Mod_whyNot_27 (d : Nat) (a0 : Nat) (x1 : Int) (x2 : Int) (s0 : Int) (h : Hp) : EX d 98 27 [(0, .inr (.inr a0)), (1, .inl x1), (2, .inl x2)] [.inl s0] h = if (wr s0) = 0 then EX d 98 30 [] [] h else EX d 98 32 [(0, .inr (.inr a0)), (1, .inl x1), (2, .inl x2)] [] h := (EX_at bk_Mod_whyNot_27 _ _ _).trans rfl
theorem bk_Mod_whyNot_30 : blk 98 30 = some (((cd_Mod_whyNot.lookup 30).getD ([], 0, []))) := rfl
theorem Mod_whyNot_30 (d : Nat) (h : Hp) : EX d 98 30 [] [] h = some (.inl 1, h) := (EX_at bk_Mod_whyNot_30 _ _ _).trans rfl
theorem bk_Mod_whyNot_32 : blk 98 32 = some (((cd_Mod_whyNot.lookup 32).getD ([], 0, []))) := rfl
theorem Mod_whyNot_32 (d : Nat) (a0 : Nat) (x1 : Int) (x2 : Int) (h : Hp) : EX d 98 32 [(0, .inr (.inr a0)), (1, .inl x1), (2, .inl x2)] [] h = if okx h a0 20 (61 + x1) then if (wr (hI h a0 (ix (61 + x1)))) = (-1) then EX d 98 42 [(0, .inr (.inr a0)), (1, .inl x1), (2, .inl x2)] [] h else EX d 98 63 [] [] h else none := (EX_at bk_Mod_whyNot_32 _ _ _).trans rfl
theorem bk_Mod_whyNot_42 : blk 98 42 = some (((cd_Mod_whyNot.lookup 42).getD ([], 0, []))) := rfl
theorem Mod_whyNot_42 (d : Nat) (a0 : Nat) (x1 : Int) (x2 : Int) (h : Hp) : EX d 98 42 [(0, .inr (.inr a0)), (1, .inl x1), (2, .inl x2)] [] h = bak (EX d 98) 47 [(0, .inr (.inr a0)), (1, .inl x1), (2, .inl x2)] [] false (cal d 95 [.inr (.inr a0), .inl x2] h) := (EX_at bk_Mod_whyNot_42 _ _ _).trans rfl
theorem bk_Mod_whyNot_47 : blk 98 47 = some (((cd_Mod_whyNot.lookup 47).getD ([], 0, []))) := rfl
theorem Mod_whyNot_47 (d : Nat) (a0 : Nat) (x1 : Int) (x2 : Int) (s0 : Int) (h : Hp) : EX d 98 47 [(0, .inr (.inr a0)), (1, .inl x1), (2, .inl x2)] [.inl s0] h = if (wr s0) = (-1) then EX d 98 51 [(0, .inr (.inr a0)), (1, .inl x1), (2, .inl x2)] [] h else EX d 98 63 [] [] h := (EX_at bk_Mod_whyNot_47 _ _ _).trans rfl
theorem bk_Mod_whyNot_51 : blk 98 51 = some (((cd_Mod_whyNot.lookup 51).getD ([], 0, []))) := rfl
theorem Mod_whyNot_51 (d : Nat) (a0 : Nat) (x1 : Int) (x2 : Int) (h : Hp) : EX d 98 51 [(0, .inr (.inr a0)), (1, .inl x1), (2, .inl x2)] [] h = if okx h a0 20 10 then bak (EX d 98) 60 [(0, .inr (.inr a0)), (1, .inl x1), (2, .inl x2)] [] false (cal d 96 [.inr (.inl (wr (hI h a0 10))), .inl x2] h) else none := (EX_at bk_Mod_whyNot_51 _ _ _).trans rfl
theorem bk_Mod_whyNot_60 : blk 98 60 = some (((cd_Mod_whyNot.lookup 60).getD ([], 0, []))) := rfl
theorem Mod_whyNot_60 (d : Nat) (a0 : Nat) (x1 : Int) (x2 : Int) (s0 : Int) (h : Hp) : EX d 98 60 [(0, .inr (.inr a0)), (1, .inl x1), (2, .inl x2)] [.inl s0] h = if (wr s0) = 0 then EX d 98 65 [(0, .inr (.inr a0)), (1, .inl x1), (2, .inl x2)] [] h else EX d 98 63 [] [] h := (EX_at bk_Mod_whyNot_60 _ _ _).trans rfl
theorem bk_Mod_whyNot_63 : blk 98 63 = some (((cd_Mod_whyNot.lookup 63).getD ([], 0, []))) := rfl
theorem Mod_whyNot_63 (d : Nat) (h : Hp) : EX d 98 63 [] [] h = some (.inl 2, h) := (EX_at bk_Mod_whyNot_63 _ _ _).trans rfl
theorem bk_Mod_whyNot_65 : blk 98 65 = some (((cd_Mod_whyNot.lookup 65).getD ([], 0, []))) := rfl
theorem Mod_whyNot_65 (d : Nat) (a0 : Nat) (x1 : Int) (x2 : Int) (h : Hp) : EX d 98 65 [(0, .inr (.inr a0)), (1, .inl x1), (2, .inl x2)] [] h = EX d 98 73 [(0, .inr (.inr a0)), (1, .inl x1), (2, .inl x2), (3, .inl (-1)), (4, .inl (-1)), (5, .inl 0)] [] h := (EX_at bk_Mod_whyNot_65 _ _ _).trans rfl
theorem bk_Mod_whyNot_73 : blk 98 73 = some (((cd_Mod_whyNot.lookup 73).getD ([], 0, []))) := rfl
theorem Mod_whyNot_73 (d : Nat) (a0 : Nat) (x1 : Int) (x2 : Int) (x3 : Int) (x4 : Int) (x5 : Int) (h : Hp) : EX d 98 73 [(0, .inr (.inr a0)), (1, .inl x1), (2, .inl x2), (3, .inl x3), (4, .inl x4), (5, .inl x5)] [] h = if okx h a0 20 1 then if (wr x5) < (wr (hI h a0 1)) then EX d 98 81 [(0, .inr (.inr a0)), (1, .inl x1), (2, .inl x2), (3, .inl x3), (4, .inl x4), (5, .inl x5)] [] h else EX d 98 156 [(0, .inr (.inr a0)), (1, .inl x1), (2, .inl x2), (3, .inl x3), (4, .inl x4)] [] h else none := (EX_at bk_Mod_whyNot_73 _ _ _).trans rfl
theorem bk_Mod_whyNot_81 : blk 98 81 = some (((cd_Mod_whyNot.lookup 81).getD ([], 0, []))) := rfl
theorem Mod_whyNot_81 (d : Nat) (a0 : Nat) (x1 : Int) (x2 : Int) (x3 : Int) (x4 : Int) (x5 : Int) (h : Hp) : EX d 98 81 [(0, .inr (.inr a0)), (1, .inl x1), (2, .inl x2), (3, .inl x3), (4, .inl x4), (5, .inl x5)] [] h = if okx h a0 20 (61 + x5) then if (wr (hI h a0 (ix (61 + x5)))) = (-1) then EX d 98 92 [(0, .inr (.inr a0)), (1, .inl x1), (2, .inl x2), (3, .inl x3), (4, .inl x4), (5, .inl x5)] [] h else EX d 98 95 [(0, .inr (.inr a0)), (1, .inl x1), (2, .inl x2), (3, .inl x3), (4, .inl x4), (5, .inl x5)] [] h else none := (EX_at bk_Mod_whyNot_81 _ _ _).trans rfl
theorem bk_Mod_whyNot_92 : blk 98 92 = some (((cd_Mod_whyNot.lookup 92).getD ([], 0, []))) := rfl
theorem Mod_whyNot_92 (d : Nat) (a0 : Nat) (x1 : Int) (x2 : Int) (x3 : Int) (x4 : Int) (x5 : Int) (h : Hp) : EX d 98 92 [(0, .inr (.inr a0)), (1, .inl x1), (2, .inl x2), (3, .inl x3), (4, .inl x4), (5, .inl x5)] [] h = EX d 98 150 [(0, .inr (.inr a0)), (1, .inl x1), (2, .inl x2), (3, .inl x3), (4, .inl x4), (5, .inl x5)] [] h := (EX_at bk_Mod_whyNot_92 _ _ _).trans rfl
theorem bk_Mod_whyNot_95 : blk 98 95 = some (((cd_Mod_whyNot.lookup 95).getD ([], 0, []))) := rfl
theorem Mod_whyNot_95 (d : Nat) (a0 : Nat) (x1 : Int) (x2 : Int) (x3 : Int) (x4 : Int) (x5 : Int) (h : Hp) : EX d 98 95 [(0, .inr (.inr a0)), (1, .inl x1), (2, .inl x2), (3, .inl x3), (4, .inl x4), (5, .inl x5)] [] h = if (wr x5) < (wr x1) then EX d 98 101 [(0, .inr (.inr a0)), (1, .inl x1), (2, .inl x2), (3, .inl x3), (4, .inl x4), (5, .inl x5)] [] h else EX d 98 115 [(0, .inr (.inr a0)), (1, .inl x1), (2, .inl x2), (3, .inl x3), (4, .inl x4), (5, .inl x5)] [] h := (EX_at bk_Mod_whyNot_95 _ _ _).trans rfl
theorem bk_Mod_whyNot_101 : blk 98 101 = some (((cd_Mod_whyNot.lookup 101).getD ([], 0, []))) := rfl
theorem Mod_whyNot_101 (d : Nat) (a0 : Nat) (x1 : Int) (x2 : Int) (x3 : Int) (x4 : Int) (x5 : Int) (h : Hp) : EX d 98 101 [(0, .inr (.inr a0)), (1, .inl x1), (2, .inl x2), (3, .inl x3), (4, .inl x4), (5, .inl x5)] [] h = if okx h a0 20 (61 + x5) then if (wr x2) < (wr (hI h a0 (ix (61 + x5)))) then EX d 98 112 [] [] h else EX d 98 128 [(0, .inr (.inr a0)), (1, .inl x1), (2, .inl x2), (3, .inl x3), (4, .inl x4), (5, .inl x5)] [] h else none := (EX_at bk_Mod_whyNot_101 _ _ _).trans rfl
theorem bk_Mod_whyNot_112 : blk 98 112 = some (((cd_Mod_whyNot.lookup 112).getD ([], 0, []))) := rfl
theorem Mod_whyNot_112 (d : Nat) (h : Hp) : EX d 98 112 [] [] h = EX d 98 126 [] [] h := (EX_at bk_Mod_whyNot_112 _ _ _).trans rfl
theorem bk_Mod_whyNot_115 : blk 98 115 = some (((cd_Mod_whyNot.lookup 115).getD ([], 0, []))) := rfl
theorem Mod_whyNot_115 (d : Nat) (a0 : Nat) (x1 : Int) (x2 : Int) (x3 : Int) (x4 : Int) (x5 : Int) (h : Hp) : EX d 98 115 [(0, .inr (.inr a0)), (1, .inl x1), (2, .inl x2), (3, .inl x3), (4, .inl x4), (5, .inl x5)] [] h = if okx h a0 20 (61 + x5) then if (wr (hI h a0 (ix (61 + x5)))) < (wr x2) then EX d 98 126 [] [] h else EX d 98 128 [(0, .inr (.inr a0)), (1, .inl x1), (2, .inl x2), (3, .inl x3), (4, .inl x4), (5, .inl x5)] [] h else none := (EX_at bk_Mod_whyNot_115 _ _ _).trans rfl
theorem bk_Mod_whyNot_126 : blk 98 126 = some (((cd_Mod_whyNot.lookup 126).getD ([], 0, []))) := rfl
theorem Mod_whyNot_126 (d : Nat) (h : Hp) : EX d 98 126 [] [] h = some (.inl 3, h) := (EX_at bk_Mod_whyNot_126 _ _ _).trans rfl
theorem bk_Mod_whyNot_128 : blk 98 128 = some (((cd_Mod_whyNot.lookup 128).getD ([], 0, []))) := rfl
theorem Mod_whyNot_128 (d : Nat) (a0 : Nat) (x1 : Int) (x2 : Int) (x3 : Int) (x4 : Int) (x5 : Int) (h : Hp) : EX d 98 128 [(0, .inr (.inr a0)), (1, .inl x1), (2, .inl x2), (3, .inl x3), (4, .inl x4), (5, .inl x5)] [] h = if (wr x5) < (wr x1) then EX d 98 134 [(0, .inr (.inr a0)), (1, .inl x1), (2, .inl x2), (4, .inl x4), (5, .inl x5)] [] h else EX d 98 140 [(0, .inr (.inr a0)), (1, .inl x1), (2, .inl x2), (3, .inl x3), (4, .inl x4), (5, .inl x5)] [] h := (EX_at bk_Mod_whyNot_128 _ _ _).trans rfl
theorem bk_Mod_whyNot_134 : blk 98 134 = some (((cd_Mod_whyNot.lookup 134).getD ([], 0, []))) := rfl
theorem Mod_whyNot_134 (d : Nat) (a0 : Nat) (x1 : Int) (x2 : Int) (x4 : Int) (x5 : Int) (h : Hp) : EX d 98 134 [(0, .inr (.inr a0)), (1, .inl x1), (2, .inl x2), (4, .inl x4), (5, .inl x5)] [] h = EX d 98 150 [(0, .inr (.inr a0)), (1, .inl x1), (2, .inl x2), (3, .inl x5), (4, .inl x4), (5, .inl x5)] [] h := (EX_at bk_Mod_whyNot_134 _ _ _).trans rfl
theorem bk_Mod_whyNot_140 : blk 98 140 = some (((cd_Mod_whyNot.lookup 140).getD ([], 0, []))) := rfl
theorem Mod_whyNot_140 (d : Nat) (a0 : Nat) (x1 : Int) (x2 : Int) (x3 : Int) (x4 : Int) (x5 : Int) (h : Hp) : EX d 98 140 [(0, .inr (.inr a0)), (1, .inl x1), (2, .inl x2), (3, .inl x3), (4, .inl x4), (5, .inl x5)] [] h = if (wr x4) = (-1) then EX d 98 146 [(0, .inr (.inr a0)), (1, .inl x1), (2, .inl x2), (3, .inl x3), (5, .inl x5)] [] h else EX d 98 150 [(0, .inr (.inr a0)), (1, .inl x1), (2, .inl x2), (3, .inl x3), (4, .inl x4), (5, .inl x5)] [] h := (EX_at bk_Mod_whyNot_140 _ _ _).trans rfl
theorem bk_Mod_whyNot_146 : blk 98 146 = some (((cd_Mod_whyNot.lookup 146).getD ([], 0, []))) := rfl
theorem Mod_whyNot_146 (d : Nat) (a0 : Nat) (x1 : Int) (x2 : Int) (x3 : Int) (x5 : Int) (h : Hp) : EX d 98 146 [(0, .inr (.inr a0)), (1, .inl x1), (2, .inl x2), (3, .inl x3), (5, .inl x5)] [] h = EX d 98 150 [(0, .inr (.inr a0)), (1, .inl x1), (2, .inl x2), (3, .inl x3), (4, .inl x5), (5, .inl x5)] [] h := (EX_at bk_Mod_whyNot_146 _ _ _).trans rfl
theorem bk_Mod_whyNot_150 : blk 98 150 = some (((cd_Mod_whyNot.lookup 150).getD ([], 0, []))) := rfl
theorem Mod_whyNot_150 (d : Nat) (a0 : Nat) (x1 : Int) (x2 : Int) (x3 : Int) (x4 : Int) (x5 : Int) (h : Hp) : EX d 98 150 [(0, .inr (.inr a0)), (1, .inl x1), (2, .inl x2), (3, .inl x3), (4, .inl x4), (5, .inl x5)] [] h = EX d 98 73 [(0, .inr (.inr a0)), (1, .inl x1), (2, .inl x2), (3, .inl x3), (4, .inl x4), (5, .inl (x5 + 1))] [] h := (EX_at bk_Mod_whyNot_150 _ _ _).trans rfl
theorem bk_Mod_whyNot_156 : blk 98 156 = some (((cd_Mod_whyNot.lookup 156).getD ([], 0, []))) := rfl
theorem Mod_whyNot_156 (d : Nat) (a0 : Nat) (x1 : Int) (x2 : Int) (x3 : Int) (x4 : Int) (h : Hp) : EX d 98 156 [(0, .inr (.inr a0)), (1, .inl x1), (2, .inl x2), (3, .inl x3), (4, .inl x4)] [] h = if (wr x3) = (-1) then EX d 98 179 [(0, .inr (.inr a0)), (1, .inl x1), (2, .inl x2), (4, .inl x4)] [] h else EX d 98 161 [(0, .inr (.inr a0)), (1, .inl x1), (2, .inl x2), (3, .inl x3), (4, .inl x4)] [] h := (EX_at bk_Mod_whyNot_156 _ _ _).trans rfl
theorem bk_Mod_whyNot_161 : blk 98 161 = some (((cd_Mod_whyNot.lookup 161).getD ([], 0, []))) := rfl
theorem Mod_whyNot_161 (d : Nat) (a0 : Nat) (x1 : Int) (x2 : Int) (x3 : Int) (x4 : Int) (h : Hp) : EX d 98 161 [(0, .inr (.inr a0)), (1, .inl x1), (2, .inl x2), (3, .inl x3), (4, .inl x4)] [] h = if okx h a0 20 (61 + x3) then bak (EX d 98) 174 [(0, .inr (.inr a0)), (1, .inl x1), (2, .inl x2), (4, .inl x4)] [] false (cal d 97 [.inr (.inr a0), .inl x3, .inl (hI h a0 (ix (61 + x3))), .inl x1, .inl x2] h) else none := (EX_at bk_Mod_whyNot_161 _ _ _).trans rfl
theorem bk_Mod_whyNot_174 : blk 98 174 = some (((cd_Mod_whyNot.lookup 174).getD ([], 0, []))) := rfl
theorem Mod_whyNot_174 (d : Nat) (a0 : Nat) (x1 : Int) (x2 : Int) (x4 : Int) (s0 : Int) (h : Hp) : EX d 98 174 [(0, .inr (.inr a0)), (1, .inl x1), (2, .inl x2), (4, .inl x4)] [.inl s0] h = if (wr s0) < 0 then EX d 98 177 [] [] h else EX d 98 179 [(0, .inr (.inr a0)), (1, .inl x1), (2, .inl x2), (4, .inl x4)] [] h := (EX_at bk_Mod_whyNot_174 _ _ _).trans rfl
theorem bk_Mod_whyNot_177 : blk 98 177 = some (((cd_Mod_whyNot.lookup 177).getD ([], 0, []))) := rfl
theorem Mod_whyNot_177 (d : Nat) (h : Hp) : EX d 98 177 [] [] h = some (.inl 4, h) := (EX_at bk_Mod_whyNot_177 _ _ _).trans rfl
theorem bk_Mod_whyNot_179 : blk 98 179 = some (((cd_Mod_whyNot.lookup 179).getD ([], 0, []))) := rfl
theorem Mod_whyNot_179 (d : Nat) (a0 : Nat) (x1 : Int) (x2 : Int) (x4 : Int) (h : Hp) : EX d 98 179 [(0, .inr (.inr a0)), (1, .inl x1), (2, .inl x2), (4, .inl x4)] [] h = if (wr x4) = (-1) then EX d 98 207 [] [] h else EX d 98 185 [(0, .inr (.inr a0)), (1, .inl x1), (2, .inl x2), (4, .inl x4)] [] h := (EX_at bk_Mod_whyNot_179 _ _ _).trans rfl
theorem bk_Mod_whyNot_185 : blk 98 185 = some (((cd_Mod_whyNot.lookup 185).getD ([], 0, []))) := rfl
theorem Mod_whyNot_185 (d : Nat) (a0 : Nat) (x1 : Int) (x2 : Int) (x4 : Int) (h : Hp) : EX d 98 185 [(0, .inr (.inr a0)), (1, .inl x1), (2, .inl x2), (4, .inl x4)] [] h = if okx h a0 20 (61 + x4) then bak (EX d 98) 200 [] [] false (cal d 97 [.inr (.inr a0), .inl x1, .inl x2, .inl x4, .inl (hI h a0 (ix (61 + x4)))] h) else none := (EX_at bk_Mod_whyNot_185 _ _ _).trans rfl
theorem bk_Mod_whyNot_200 : blk 98 200 = some (((cd_Mod_whyNot.lookup 200).getD ([], 0, []))) := rfl
theorem Mod_whyNot_200 (d : Nat) (s0 : Int) (h : Hp) : EX d 98 200 [] [.inl s0] h = if (wr s0) < 0 then EX d 98 203 [] [] h else EX d 98 207 [] [] h := (EX_at bk_Mod_whyNot_200 _ _ _).trans rfl
theorem bk_Mod_whyNot_203 : blk 98 203 = some (((cd_Mod_whyNot.lookup 203).getD ([], 0, []))) := rfl
theorem Mod_whyNot_203 (d : Nat) (h : Hp) : EX d 98 203 [] [] h = EX d 98 208 [] [.inl 4] h := (EX_at bk_Mod_whyNot_203 _ _ _).trans rfl
theorem bk_Mod_whyNot_207 : blk 98 207 = some (((cd_Mod_whyNot.lookup 207).getD ([], 0, []))) := rfl
theorem Mod_whyNot_207 (d : Nat) (h : Hp) : EX d 98 207 [] [] h = EX d 98 208 [] [.inl 0] h := (EX_at bk_Mod_whyNot_207 _ _ _).trans rfl
theorem bk_Mod_whyNot_208 : blk 98 208 = some (((cd_Mod_whyNot.lookup 208).getD ([], 0, []))) := rfl
theorem Mod_whyNot_208 (d : Nat) (s0 : Int) (h : Hp) : EX d 98 208 [] [.inl s0] h = some (.inl s0, h) := (EX_at bk_Mod_whyNot_208 _ _ _).trans rfl
/-! readJoin()V of HookOverModel: method 99 -/
theorem bk_Mod_readJoin_0 : blk 99 0 = some (((cd_Mod_readJoin.lookup 0).getD ([], 0, []))) := rfl
theorem Mod_readJoin_0 (d : Nat) (a0 : Nat) (h : Hp) : EX d 99 0 [(0, .inr (.inr a0))] [] h = if sK h a0 = 11 then if okx h (hR h a0 4) 20 1 then if sK h a0 = 11 then bak (EX d 99) 13 [(0, .inr (.inr a0))] [] false (cal d 79 [.inr (.inr a0), .inl 0, .inl ((hI h (hR h a0 4) 1) - 1)] h) else none else none else none := (EX_at bk_Mod_readJoin_0 _ _ _).trans rfl
theorem bk_Mod_readJoin_13 : blk 99 13 = some (((cd_Mod_readJoin.lookup 13).getD ([], 0, []))) := rfl
theorem Mod_readJoin_13 (d : Nat) (a0 : Nat) (s0 : Int) (h : Hp) : EX d 99 13 [(0, .inr (.inr a0))] [.inl s0] h = if sK h a0 = 11 then if (wr (hI h a0 11)) = 0 then EX d 99 21 [(0, .inr (.inr a0)), (1, .inl s0)] [] h else EX d 99 71 [(0, .inr (.inr a0)), (1, .inl s0)] [] h else none := (EX_at bk_Mod_readJoin_13 _ _ _).trans rfl
theorem bk_Mod_readJoin_21 : blk 99 21 = some (((cd_Mod_readJoin.lookup 21).getD ([], 0, []))) := rfl
theorem Mod_readJoin_21 (d : Nat) (a0 : Nat) (x1 : Int) (h : Hp) : EX d 99 21 [(0, .inr (.inr a0)), (1, .inl x1)] [] h = if sK h a0 = 11 then bak (EX d 99) 27 [(0, .inr (.inr a0)), (1, .inl x1)] [] false (cal d 77 [.inr (.inr a0), .inl 21] h) else none := (EX_at bk_Mod_readJoin_21 _ _ _).trans rfl
theorem bk_Mod_readJoin_27 : blk 99 27 = some (((cd_Mod_readJoin.lookup 27).getD ([], 0, []))) := rfl
theorem Mod_readJoin_27 (d : Nat) (a0 : Nat) (x1 : Int) (s0 : Int) (h : Hp) : EX d 99 27 [(0, .inr (.inr a0)), (1, .inl x1)] [.inl s0] h = if (wr s0) = 0 then EX d 99 71 [(0, .inr (.inr a0)), (1, .inl x1)] [] h else EX d 99 30 [(0, .inr (.inr a0)), (1, .inl x1)] [] h := (EX_at bk_Mod_readJoin_27 _ _ _).trans rfl
theorem bk_Mod_readJoin_30 : blk 99 30 = some (((cd_Mod_readJoin.lookup 30).getD ([], 0, []))) := rfl
theorem Mod_readJoin_30 (d : Nat) (a0 : Nat) (x1 : Int) (h : Hp) : EX d 99 30 [(0, .inr (.inr a0)), (1, .inl x1)] [] h = if sK h a0 = 11 then if sK h a0 = 11 then if okx h (hR h a0 4) 20 2 then bak (EX d 99) 48 [(0, .inr (.inr a0)), (1, .inl x1)] [] false (cal d 71 [.inr (.inl (wr (hI h a0 10))), .inr (.inl 0), .inr (.inl (wr ((hI h (hR h a0 4) 2) - 1)))] h) else none else none else none := (EX_at bk_Mod_readJoin_30 _ _ _).trans rfl
theorem bk_Mod_readJoin_48 : blk 99 48 = some (((cd_Mod_readJoin.lookup 48).getD ([], 0, []))) := rfl
theorem Mod_readJoin_48 (d : Nat) (a0 : Nat) (x1 : Int) (s0 : Int) (h : Hp) : EX d 99 48 [(0, .inr (.inr a0)), (1, .inl x1)] [.inl s0] h = if (wr s0) = 0 then EX d 99 66 [(0, .inr (.inr a0)), (1, .inl x1)] [] h else EX d 99 51 [(0, .inr (.inr a0)), (1, .inl x1)] [] h := (EX_at bk_Mod_readJoin_48 _ _ _).trans rfl
theorem bk_Mod_readJoin_51 : blk 99 51 = some (((cd_Mod_readJoin.lookup 51).getD ([], 0, []))) := rfl
theorem Mod_readJoin_51 (d : Nat) (a0 : Nat) (x1 : Int) (h : Hp) : EX d 99 51 [(0, .inr (.inr a0)), (1, .inl x1)] [] h = if sK h a0 = 11 then if sK h a0 = 11 then bak (EX d 99) 63 [(0, .inr (.inr a0)), (1, .inl x1)] [] false (cal d 98 [.inr (.inr (hR h a0 4)), .inl x1, .inl (hI h a0 10)] h) else none else none := (EX_at bk_Mod_readJoin_51 _ _ _).trans rfl
theorem bk_Mod_readJoin_63 : blk 99 63 = some (((cd_Mod_readJoin.lookup 63).getD ([], 0, []))) := rfl
theorem Mod_readJoin_63 (d : Nat) (a0 : Nat) (x1 : Int) (s0 : Int) (h : Hp) : EX d 99 63 [(0, .inr (.inr a0)), (1, .inl x1)] [.inl s0] h = if (wr s0) = 0 then EX d 99 71 [(0, .inr (.inr a0)), (1, .inl x1)] [] h else EX d 99 66 [(0, .inr (.inr a0)), (1, .inl x1)] [] h := (EX_at bk_Mod_readJoin_63 _ _ _).trans rfl
theorem bk_Mod_readJoin_66 : blk 99 66 = some (((cd_Mod_readJoin.lookup 66).getD ([], 0, []))) := rfl
theorem Mod_readJoin_66 (d : Nat) (a0 : Nat) (x1 : Int) (h : Hp) : EX d 99 66 [(0, .inr (.inr a0)), (1, .inl x1)] [] h = if sK h a0 = 11 then bak (EX d 99) 71 [(0, .inr (.inr a0)), (1, .inl x1)] [] true (cal d 78 [.inr (.inr a0), .inl 3] h) else none := (EX_at bk_Mod_readJoin_66 _ _ _).trans rfl
theorem bk_Mod_readJoin_71 : blk 99 71 = some (((cd_Mod_readJoin.lookup 71).getD ([], 0, []))) := rfl
theorem Mod_readJoin_71 (d : Nat) (a0 : Nat) (x1 : Int) (h : Hp) : EX d 99 71 [(0, .inr (.inr a0)), (1, .inl x1)] [] h = if sK h a0 = 11 then if okx h (hR h a0 4) 20 2 then if sK h a0 = 11 then bak (EX d 99) 84 [(0, .inr (.inr a0)), (1, .inl x1)] [] false (cal d 79 [.inr (.inr a0), .inl 0, .inl ((hI h (hR h a0 4) 2) - 1)] h) else none else none else none := (EX_at bk_Mod_readJoin_71 _ _ _).trans rfl
theorem bk_Mod_readJoin_84 : blk 99 84 = some (((cd_Mod_readJoin.lookup 84).getD ([], 0, []))) := rfl
theorem Mod_readJoin_84 (d : Nat) (a0 : Nat) (x1 : Int) (s0 : Int) (h : Hp) : EX d 99 84 [(0, .inr (.inr a0)), (1, .inl x1)] [.inl s0] h = if sK h a0 = 11 then if (wr (hI h a0 11)) = 0 then EX d 99 92 [(0, .inr (.inr a0)), (1, .inl x1), (2, .inl s0)] [] h else EX d 99 102 [] [] h else none := (EX_at bk_Mod_readJoin_84 _ _ _).trans rfl
theorem bk_Mod_readJoin_92 : blk 99 92 = some (((cd_Mod_readJoin.lookup 92).getD ([], 0, []))) := rfl
theorem Mod_readJoin_92 (d : Nat) (a0 : Nat) (x1 : Int) (x2 : Int) (h : Hp) : EX d 99 92 [(0, .inr (.inr a0)), (1, .inl x1), (2, .inl x2)] [] h = if sK h a0 = 11 then if okx h (hR h a0 4) 20 (61 + x1) then EX d 99 102 [] [] (pI h (hR h a0 4) (ix (61 + x1)) x2) else none else none := (EX_at bk_Mod_readJoin_92 _ _ _).trans rfl
theorem bk_Mod_readJoin_102 : blk 99 102 = some (((cd_Mod_readJoin.lookup 102).getD ([], 0, []))) := rfl
theorem Mod_readJoin_102 (d : Nat) (h : Hp) : EX d 99 102 [] [] h = some (.inl 0, h) := (EX_at bk_Mod_readJoin_102 _ _ _).trans rfl
/-! readLine()V of HookOverModel: method 100 -/
theorem bk_Mod_readLine_0 : blk 100 0 = some (((cd_Mod_readLine.lookup 0).getD ([], 0, []))) := rfl
theorem Mod_readLine_0 (d : Nat) (a0 : Nat) (h : Hp) : EX d 100 0 [(0, .inr (.inr a0))] [] h = if sK h a0 = 11 then bak (EX d 100) 5 [(0, .inr (.inr a0))] [] false (cal d 77 [.inr (.inr a0), .inl 0] h) else none := (EX_at bk_Mod_readLine_0 _ _ _).trans rfl
theorem bk_Mod_readLine_5 : blk 100 5 = some (((cd_Mod_readLine.lookup 5).getD ([], 0, []))) := rfl
theorem Mod_readLine_5 (d : Nat) (a0 : Nat) (s0 : Int) (h : Hp) : EX d 100 5 [(0, .inr (.inr a0))] [.inl s0] h = if (wr s0) = 0 then EX d 100 38 [(0, .inr (.inr a0))] [] h else EX d 100 8 [(0, .inr (.inr a0))] [] h := (EX_at bk_Mod_readLine_5 _ _ _).trans rfl
theorem bk_Mod_readLine_8 : blk 100 8 = some (((cd_Mod_readLine.lookup 8).getD ([], 0, []))) := rfl
theorem Mod_readLine_8 (d : Nat) (a0 : Nat) (h : Hp) : EX d 100 8 [(0, .inr (.inr a0))] [] h = if sK h a0 = 11 then if okx h (hR h a0 4) 20 2 then if (wr (hI h (hR h a0 4) 2)) = 0 then EX d 100 17 [(0, .inr (.inr a0))] [] h else EX d 100 38 [(0, .inr (.inr a0))] [] h else none else none := (EX_at bk_Mod_readLine_8 _ _ _).trans rfl
theorem bk_Mod_readLine_17 : blk 100 17 = some (((cd_Mod_readLine.lookup 17).getD ([], 0, []))) := rfl
theorem Mod_readLine_17 (d : Nat) (a0 : Nat) (h : Hp) : EX d 100 17 [(0, .inr (.inr a0))] [] h = if sK h a0 = 11 then bak (EX d 100) 21 [(0, .inr (.inr a0))] [] true (cal d 76 [.inr (.inr a0)] h) else none := (EX_at bk_Mod_readLine_17 _ _ _).trans rfl
theorem bk_Mod_readLine_21 : blk 100 21 = some (((cd_Mod_readLine.lookup 21).getD ([], 0, []))) := rfl
theorem Mod_readLine_21 (d : Nat) (a0 : Nat) (h : Hp) : EX d 100 21 [(0, .inr (.inr a0))] [] h = if sK h a0 = 11 then if sK h a0 = 11 then bak (EX d 100) 33 [] [.inl 1, .inl 2, .inr (.inr (hR h a0 4))] false (cal d 80 [.inr (.inr a0), .inl 23] h) else none else none := (EX_at bk_Mod_readLine_21 _ _ _).trans rfl
theorem bk_Mod_readLine_33 : blk 100 33 = some (((cd_Mod_readLine.lookup 33).getD ([], 0, []))) := rfl
theorem Mod_readLine_33 (d : Nat) (r0 : Nat) (s1 : Int) (s2 : Int) (s3 : Int) (h : Hp) : EX d 100 33 [] [.inl s3, .inl s2, .inl s1, .inr (.inr r0)] h = if okx h r0 20 s1 then EX d 100 35 [] [] (pI h r0 (ix s1) (s2 + s3)) else none := (EX_at bk_Mod_readLine_33 _ _ _).trans rfl
theorem bk_Mod_readLine_35 : blk 100 35 = some (((cd_Mod_readLine.lookup 35).getD ([], 0, []))) := rfl
theorem Mod_readLine_35 (d : Nat) (h : Hp) : EX d 100 35 [] [] h = EX d 100 277 [] [] h := (EX_at bk_Mod_readLine_35 _ _ _).trans rfl
theorem bk_Mod_readLine_38 : blk 100 38 = some (((cd_Mod_readLine.lookup 38).getD ([], 0, []))) := rfl
theorem Mod_readLine_38 (d : Nat) (a0 : Nat) (h : Hp) : EX d 100 38 [(0, .inr (.inr a0))] [] h = if sK h a0 = 11 then bak (EX d 100) 43 [(0, .inr (.inr a0))] [] false (cal d 77 [.inr (.inr a0), .inl 1] h) else none := (EX_at bk_Mod_readLine_38 _ _ _).trans rfl
theorem bk_Mod_readLine_43 : blk 100 43 = some (((cd_Mod_readLine.lookup 43).getD ([], 0, []))) := rfl
theorem Mod_readLine_43 (d : Nat) (a0 : Nat) (s0 : Int) (h : Hp) : EX d 100 43 [(0, .inr (.inr a0))] [.inl s0] h = if (wr s0) = 0 then EX d 100 76 [(0, .inr (.inr a0))] [] h else EX d 100 46 [(0, .inr (.inr a0))] [] h := (EX_at bk_Mod_readLine_43 _ _ _).trans rfl
theorem bk_Mod_readLine_46 : blk 100 46 = some (((cd_Mod_readLine.lookup 46).getD ([], 0, []))) := rfl
theorem Mod_readLine_46 (d : Nat) (a0 : Nat) (h : Hp) : EX d 100 46 [(0, .inr (.inr a0))] [] h = if sK h a0 = 11 then if okx h (hR h a0 4) 20 1 then if (wr (hI h (hR h a0 4) 1)) = 0 then EX d 100 55 [(0, .inr (.inr a0))] [] h else EX d 100 76 [(0, .inr (.inr a0))] [] h else none else none := (EX_at bk_Mod_readLine_46 _ _ _).trans rfl
theorem bk_Mod_readLine_55 : blk 100 55 = some (((cd_Mod_readLine.lookup 55).getD ([], 0, []))) := rfl
theorem Mod_readLine_55 (d : Nat) (a0 : Nat) (h : Hp) : EX d 100 55 [(0, .inr (.inr a0))] [] h = if sK h a0 = 11 then bak (EX d 100) 59 [(0, .inr (.inr a0))] [] true (cal d 76 [.inr (.inr a0)] h) else none := (EX_at bk_Mod_readLine_55 _ _ _).trans rfl
theorem bk_Mod_readLine_59 : blk 100 59 = some (((cd_Mod_readLine.lookup 59).getD ([], 0, []))) := rfl
theorem Mod_readLine_59 (d : Nat) (a0 : Nat) (h : Hp) : EX d 100 59 [(0, .inr (.inr a0))] [] h = if sK h a0 = 11 then if sK h a0 = 11 then bak (EX d 100) 71 [] [.inl 1, .inl 1, .inr (.inr (hR h a0 4))] false (cal d 80 [.inr (.inr a0), .inl 11] h) else none else none := (EX_at bk_Mod_readLine_59 _ _ _).trans rfl
theorem bk_Mod_readLine_71 : blk 100 71 = some (((cd_Mod_readLine.lookup 71).getD ([], 0, []))) := rfl
theorem Mod_readLine_71 (d : Nat) (r0 : Nat) (s1 : Int) (s2 : Int) (s3 : Int) (h : Hp) : EX d 100 71 [] [.inl s3, .inl s2, .inl s1, .inr (.inr r0)] h = if okx h r0 20 s1 then EX d 100 73 [] [] (pI h r0 (ix s1) (s2 + s3)) else none := (EX_at bk_Mod_readLine_71 _ _ _).trans rfl
theorem bk_Mod_readLine_73 : blk 100 73 = some (((cd_Mod_readLine.lookup 73).getD ([], 0, []))) := rfl
theorem Mod_readLine_73 (d : Nat) (h : Hp) : EX d 100 73 [] [] h = EX d 100 277 [] [] h := (EX_at bk_Mod_readLine_73 _ _ _).trans rfl
theorem bk_Mod_readLine_76 : blk 100 76 = some (((cd_Mod_readLine.lookup 76).getD ([], 0, []))) := rfl
theorem Mod_readLine_76 (d : Nat) (a0 : Nat) (h : Hp) : EX d 100 76 [(0, .inr (.inr a0))] [] h = if sK h a0 = 11 then bak (EX d 100) 82 [(0, .inr (.inr a0))] [] false (cal d 77 [.inr (.inr a0), .inl 6] h) else none := (EX_at bk_Mod_readLine_76 _ _ _).trans rfl
theorem bk_Mod_readLine_82 : blk 100 82 = some (((cd_Mod_readLine.lookup 82).getD ([], 0, []))) := rfl
theorem Mod_readLine_82 (d : Nat) (a0 : Nat) (s0 : Int) (h : Hp) : EX d 100 82 [(0, .inr (.inr a0))] [.inl s0] h = if (wr s0) = 0 then EX d 100 92 [(0, .inr (.inr a0))] [] h else EX d 100 85 [(0, .inr (.inr a0))] [] h := (EX_at bk_Mod_readLine_82 _ _ _).trans rfl
theorem bk_Mod_readLine_85 : blk 100 85 = some (((cd_Mod_readLine.lookup 85).getD ([], 0, []))) := rfl
theorem Mod_readLine_85 (d : Nat) (a0 : Nat) (h : Hp) : EX d 100 85 [(0, .inr (.inr a0))] [] h = if sK h a0 = 11 then bak (EX d 100) 89 [] [] true (cal d 90 [.inr (.inr a0)] h) else none := (EX_at bk_Mod_readLine_85 _ _ _).trans rfl
theorem bk_Mod_readLine_89 : blk 100 89 = some (((cd_Mod_readLine.lookup 89).getD ([], 0, []))) := rfl
theorem Mod_readLine_89 (d : Nat) (h : Hp) : EX d 100 89 [] [] h = EX d 100 277 [] [] h := (EX_at bk_Mod_readLine_89 _ _ _).trans rfl
theorem bk_Mod_readLine_92 : blk 100 92 = some (((cd_Mod_readLine.lookup 92).getD ([], 0, []))) := rfl
theorem Mod_readLine_92 (d : Nat) (a0 : Nat) (h : Hp) : EX d 100 92 [(0, .inr (.inr a0))] [] h = if sK h a0 = 11 then bak (EX d 100) 98 [(0, .inr (.inr a0))] [] false (cal d 81 [.inr (.inr a0), .inl 7] h) else none := (EX_at bk_Mod_readLine_92 _ _ _).trans rfl
theorem bk_Mod_readLine_98 : blk 100 98 = some (((cd_Mod_readLine.lookup 98).getD ([], 0, []))) := rfl
theorem Mod_readLine_98 (d : Nat) (a0 : Nat) (s0 : Int) (h : Hp) : EX d 100 98 [(0, .inr (.inr a0))] [.inl s0] h = if (wr s0) = 0 then EX d 100 108 [(0, .inr (.inr a0))] [] h else EX d 100 101 [(0, .inr (.inr a0))] [] h := (EX_at bk_Mod_readLine_98 _ _ _).trans rfl
theorem bk_Mod_readLine_101 : blk 100 101 = some (((cd_Mod_readLine.lookup 101).getD ([], 0, []))) := rfl
theorem Mod_readLine_101 (d : Nat) (a0 : Nat) (h : Hp) : EX d 100 101 [(0, .inr (.inr a0))] [] h = if sK h a0 = 11 then bak (EX d 100) 105 [] [] true (cal d 91 [.inr (.inr a0)] h) else none := (EX_at bk_Mod_readLine_101 _ _ _).trans rfl
theorem bk_Mod_readLine_105 : blk 100 105 = some (((cd_Mod_readLine.lookup 105).getD ([], 0, []))) := rfl
theorem Mod_readLine_105 (d : Nat) (h : Hp) : EX d 100 105 [] [] h = EX d 100 277 [] [] h := (EX_at bk_Mod_readLine_105 _ _ _).trans rfl
theorem bk_Mod_readLine_108 : blk 100 108 = some (((cd_Mod_readLine.lookup 108).getD ([], 0, []))) := rfl
theorem Mod_readLine_108 (d : Nat) (a0 : Nat) (h : Hp) : EX d 100 108 [(0, .inr (.inr a0))] [] h = if sK h a0 = 11 then bak (EX d 100) 114 [(0, .inr (.inr a0))] [] false (cal d 81 [.inr (.inr a0), .inl 8] h) else none := (EX_at bk_Mod_readLine_108 _ _ _).trans rfl
theorem bk_Mod_readLine_114 : blk 100 114 = some (((cd_Mod_readLine.lookup 114).getD ([], 0, []))) := rfl
theorem Mod_readLine_114 (d : Nat) (a0 : Nat) (s0 : Int) (h : Hp) : EX d 100 114 [(0, .inr (.inr a0))] [.inl s0] h = if (wr s0) = 0 then EX d 100 134 [(0, .inr (.inr a0))] [] h else EX d 100 117 [(0, .inr (.inr a0))] [] h := (EX_at bk_Mod_readLine_114 _ _ _).trans rfl
theorem bk_Mod_readLine_117 : blk 100 117 = some (((cd_Mod_readLine.lookup 117).getD ([], 0, []))) := rfl
theorem Mod_readLine_117 (d : Nat) (a0 : Nat) (h : Hp) : EX d 100 117 [(0, .inr (.inr a0))] [] h = if sK h a0 = 11 then if sK h a0 = 11 then bak (EX d 100) 130 [] [.inl 6, .inr (.inr (hR h a0 4))] false (cal d 79 [.inr (.inr a0), .inl 2, .inl 6] h) else none else none := (EX_at bk_Mod_readLine_117 _ _ _).trans rfl
theorem bk_Mod_readLine_130 : blk 100 130 = some (((cd_Mod_readLine.lookup 130).getD ([], 0, []))) := rfl
theorem Mod_readLine_130 (d : Nat) (r0 : Nat) (s1 : Int) (s2 : Int) (h : Hp) : EX d 100 130 [] [.inl s2, .inl s1, .inr (.inr r0)] h = if okx h r0 20 s1 then EX d 100 131 [] [] (pI h r0 (ix s1) s2) else none := (EX_at bk_Mod_readLine_130 _ _ _).trans rfl
theorem bk_Mod_readLine_131 : blk 100 131 = some (((cd_Mod_readLine.lookup 131).getD ([], 0, []))) := rfl
theorem Mod_readLine_131 (d : Nat) (h : Hp) : EX d 100 131 [] [] h = EX d 100 277 [] [] h := (EX_at bk_Mod_readLine_131 _ _ _).trans rfl
theorem bk_Mod_readLine_134 : blk 100 134 = some (((cd_Mod_readLine.lookup 134).getD ([], 0, []))) := rfl
theorem Mod_readLine_134 (d : Nat) (a0 : Nat) (h : Hp) : EX d 100 134 [(0, .inr (.inr a0))] [] h = if sK h a0 = 11 then bak (EX d 100) 140 [(0, .inr (.inr a0))] [] false (cal d 81 [.inr (.inr a0), .inl 9] h) else none := (EX_at bk_Mod_readLine_134 _ _ _).trans rfl
theorem bk_Mod_readLine_140 : blk 100 140 = some (((cd_Mod_readLine.lookup 140).getD ([], 0, []))) := rfl
theorem Mod_readLine_140 (d : Nat) (a0 : Nat) (s0 : Int) (h : Hp) : EX d 100 140 [(0, .inr (.inr a0))] [.inl s0] h = if (wr s0) = 0 then EX d 100 150 [(0, .inr (.inr a0))] [] h else EX d 100 143 [(0, .inr (.inr a0))] [] h := (EX_at bk_Mod_readLine_140 _ _ _).trans rfl
theorem bk_Mod_readLine_143 : blk 100 143 = some (((cd_Mod_readLine.lookup 143).getD ([], 0, []))) := rfl
theorem Mod_readLine_143 (d : Nat) (a0 : Nat) (h : Hp) : EX d 100 143 [(0, .inr (.inr a0))] [] h = if sK h a0 = 11 then bak (EX d 100) 147 [] [] true (cal d 92 [.inr (.inr a0)] h) else none := (EX_at bk_Mod_readLine_143 _ _ _).trans rfl
theorem bk_Mod_readLine_147 : blk 100 147 = some (((cd_Mod_readLine.lookup 147).getD ([], 0, []))) := rfl
theorem Mod_readLine_147 (d : Nat) (h : Hp) : EX d 100 147 [] [] h = EX d 100 277 [] [] h := (EX_at bk_Mod_readLine_147 _ _ _).trans rfl
theorem bk_Mod_readLine_150 : blk 100 150 = some (((cd_Mod_readLine.lookup 150).getD ([], 0, []))) := rfl
theorem Mod_readLine_150 (d : Nat) (a0 : Nat) (h : Hp) : EX d 100 150 [(0, .inr (.inr a0))] [] h = if sK h a0 = 11 then bak (EX d 100) 154 [(0, .inr (.inr a0))] [] false (cal d 93 [.inr (.inr a0)] h) else none := (EX_at bk_Mod_readLine_150 _ _ _).trans rfl
theorem bk_Mod_readLine_154 : blk 100 154 = some (((cd_Mod_readLine.lookup 154).getD ([], 0, []))) := rfl
theorem Mod_readLine_154 (d : Nat) (a0 : Nat) (s0 : Int) (h : Hp) : EX d 100 154 [(0, .inr (.inr a0))] [.inl s0] h = if (wr s0) = 0 then EX d 100 157 [(0, .inr (.inr a0))] [] h else EX d 100 165 [(0, .inr (.inr a0))] [] h := (EX_at bk_Mod_readLine_154 _ _ _).trans rfl
theorem bk_Mod_readLine_157 : blk 100 157 = some (((cd_Mod_readLine.lookup 157).getD ([], 0, []))) := rfl
theorem Mod_readLine_157 (d : Nat) (a0 : Nat) (h : Hp) : EX d 100 157 [(0, .inr (.inr a0))] [] h = if sK h a0 = 11 then bak (EX d 100) 162 [] [] true (cal d 78 [.inr (.inr a0), .inl 2] h) else none := (EX_at bk_Mod_readLine_157 _ _ _).trans rfl
theorem bk_Mod_readLine_162 : blk 100 162 = some (((cd_Mod_readLine.lookup 162).getD ([], 0, []))) := rfl
theorem Mod_readLine_162 (d : Nat) (h : Hp) : EX d 100 162 [] [] h = EX d 100 277 [] [] h := (EX_at bk_Mod_readLine_162 _ _ _).trans rfl
theorem bk_Mod_readLine_165 : blk 100 165 = some (((cd_Mod_readLine.lookup 165).getD ([], 0, []))) := rfl
theorem Mod_readLine_165 (d : Nat) (a0 : Nat) (h : Hp) : EX d 100 165 [(0, .inr (.inr a0))] [] h = if sK h a0 = 11 then bak (EX d 100) 170 [(0, .inr (.inr a0))] [] false (cal d 81 [.inr (.inr a0), .inl 2] h) else none := (EX_at bk_Mod_readLine_165 _ _ _).trans rfl
theorem bk_Mod_readLine_170 : blk 100 170 = some (((cd_Mod_readLine.lookup 170).getD ([], 0, []))) := rfl
theorem Mod_readLine_170 (d : Nat) (a0 : Nat) (s0 : Int) (h : Hp) : EX d 100 170 [(0, .inr (.inr a0))] [.inl s0] h = if (wr s0) = 0 then EX d 100 188 [(0, .inr (.inr a0))] [] h else EX d 100 173 [(0, .inr (.inr a0))] [] h := (EX_at bk_Mod_readLine_170 _ _ _).trans rfl
theorem bk_Mod_readLine_173 : blk 100 173 = some (((cd_Mod_readLine.lookup 173).getD ([], 0, []))) := rfl
theorem Mod_readLine_173 (d : Nat) (a0 : Nat) (h : Hp) : EX d 100 173 [(0, .inr (.inr a0))] [] h = if sK h a0 = 11 then if okx h (hR h a0 4) 20 1 then if sK h a0 = 11 then bak (EX d 100) 185 [] [] true (cal d 94 [.inr (.inr a0), .inl (hI h (hR h a0 4) 1), .inl 35] h) else none else none else none := (EX_at bk_Mod_readLine_173 _ _ _).trans rfl
theorem bk_Mod_readLine_185 : blk 100 185 = some (((cd_Mod_readLine.lookup 185).getD ([], 0, []))) := rfl
theorem Mod_readLine_185 (d : Nat) (h : Hp) : EX d 100 185 [] [] h = EX d 100 277 [] [] h := (EX_at bk_Mod_readLine_185 _ _ _).trans rfl
theorem bk_Mod_readLine_188 : blk 100 188 = some (((cd_Mod_readLine.lookup 188).getD ([], 0, []))) := rfl
theorem Mod_readLine_188 (d : Nat) (a0 : Nat) (h : Hp) : EX d 100 188 [(0, .inr (.inr a0))] [] h = if sK h a0 = 11 then bak (EX d 100) 193 [(0, .inr (.inr a0))] [] false (cal d 81 [.inr (.inr a0), .inl 4] h) else none := (EX_at bk_Mod_readLine_188 _ _ _).trans rfl
theorem bk_Mod_readLine_193 : blk 100 193 = some (((cd_Mod_readLine.lookup 193).getD ([], 0, []))) := rfl
theorem Mod_readLine_193 (d : Nat) (a0 : Nat) (s0 : Int) (h : Hp) : EX d 100 193 [(0, .inr (.inr a0))] [.inl s0] h = if (wr s0) = 0 then EX d 100 211 [(0, .inr (.inr a0))] [] h else EX d 100 196 [(0, .inr (.inr a0))] [] h := (EX_at bk_Mod_readLine_193 _ _ _).trans rfl
theorem bk_Mod_readLine_196 : blk 100 196 = some (((cd_Mod_readLine.lookup 196).getD ([], 0, []))) := rfl
theorem Mod_readLine_196 (d : Nat) (a0 : Nat) (h : Hp) : EX d 100 196 [(0, .inr (.inr a0))] [] h = if sK h a0 = 11 then if okx h (hR h a0 4) 20 2 then if sK h a0 = 11 then bak (EX d 100) 208 [] [] true (cal d 94 [.inr (.inr a0), .inl (hI h (hR h a0 4) 2), .inl 47] h) else none else none else none := (EX_at bk_Mod_readLine_196 _ _ _).trans rfl
theorem bk_Mod_readLine_208 : blk 100 208 = some (((cd_Mod_readLine.lookup 208).getD ([], 0, []))) := rfl
theorem Mod_readLine_208 (d : Nat) (h : Hp) : EX d 100 208 [] [] h = EX d 100 277 [] [] h := (EX_at bk_Mod_readLine_208 _ _ _).trans rfl
theorem bk_Mod_readLine_211 : blk 100 211 = some (((cd_Mod_readLine.lookup 211).getD ([], 0, []))) := rfl
theorem Mod_readLine_211 (d : Nat) (a0 : Nat) (h : Hp) : EX d 100 211 [(0, .inr (.inr a0))] [] h = if sK h a0 = 11 then bak (EX d 100) 216 [(0, .inr (.inr a0))] [] false (cal d 81 [.inr (.inr a0), .inl 5] h) else none := (EX_at bk_Mod_readLine_211 _ _ _).trans rfl
theorem bk_Mod_readLine_216 : blk 100 216 = some (((cd_Mod_readLine.lookup 216).getD ([], 0, []))) := rfl
theorem Mod_readLine_216 (d : Nat) (a0 : Nat) (s0 : Int) (h : Hp) : EX d 100 216 [(0, .inr (.inr a0))] [.inl s0] h = if (wr s0) = 0 then EX d 100 256 [(0, .inr (.inr a0))] [] h else EX d 100 219 [(0, .inr (.inr a0))] [] h := (EX_at bk_Mod_readLine_216 _ _ _).trans rfl
theorem bk_Mod_readLine_219 : blk 100 219 = some (((cd_Mod_readLine.lookup 219).getD ([], 0, []))) := rfl
theorem Mod_readLine_219 (d : Nat) (a0 : Nat) (h : Hp) : EX d 100 219 [(0, .inr (.inr a0))] [] h = if sK h a0 = 11 then if okx h (hR h a0 4) 20 2 then if sK h a0 = 11 then bak (EX d 100) 232 [(0, .inr (.inr a0))] [] false (cal d 79 [.inr (.inr a0), .inl 0, .inl ((hI h (hR h a0 4) 2) - 1)] h) else none else none else none := (EX_at bk_Mod_readLine_219 _ _ _).trans rfl
theorem bk_Mod_readLine_232 : blk 100 232 = some (((cd_Mod_readLine.lookup 232).getD ([], 0, []))) := rfl
theorem Mod_readLine_232 (d : Nat) (a0 : Nat) (s0 : Int) (h : Hp) : EX d 100 232 [(0, .inr (.inr a0))] [.inl s0] h = if sK h a0 = 11 then if (wr (hI h a0 11)) = 0 then EX d 100 240 [(0, .inr (.inr a0)), (1, .inl s0)] [] h else EX d 100 253 [] [] h else none := (EX_at bk_Mod_readLine_232 _ _ _).trans rfl
theorem bk_Mod_readLine_240 : blk 100 240 = some (((cd_Mod_readLine.lookup 240).getD ([], 0, []))) := rfl
theorem Mod_readLine_240 (d : Nat) (a0 : Nat) (x1 : Int) (h : Hp) : EX d 100 240 [(0, .inr (.inr a0)), (1, .inl x1)] [] h = if sK h a0 = 11 then if okx h (hR h a0 4) 20 10 then if okx h (hR h a0 4) 20 10 then EX d 100 253 [] [] (pI h (hR h a0 4) 10 (bOr (hI h (hR h a0 4) 10) (bShl 1 x1))) else none else none else none := (EX_at bk_Mod_readLine_240 _ _ _).trans rfl
theorem bk_Mod_readLine_253 : blk 100 253 = some (((cd_Mod_readLine.lookup 253).getD ([], 0, []))) := rfl
theorem Mod_readLine_253 (d : Nat) (h : Hp) : EX d 100 253 [] [] h = EX d 100 277 [] [] h := (EX_at bk_Mod_readLine_253 _ _ _).trans rfl
theorem bk_Mod_readLine_256 : blk 100 256 = some (((cd_Mod_readLine.lookup 256).getD ([], 0, []))) := rfl
theorem Mod_readLine_256 (d : Nat) (a0 : Nat) (h : Hp) : EX d 100 256 [(0, .inr (.inr a0))] [] h = if sK h a0 = 11 then bak (EX d 100) 262 [(0, .inr (.inr a0))] [] false (cal d 81 [.inr (.inr a0), .inl 10] h) else none := (EX_at bk_Mod_readLine_256 _ _ _).trans rfl
theorem bk_Mod_readLine_262 : blk 100 262 = some (((cd_Mod_readLine.lookup 262).getD ([], 0, []))) := rfl
theorem Mod_readLine_262 (d : Nat) (a0 : Nat) (s0 : Int) (h : Hp) : EX d 100 262 [(0, .inr (.inr a0))] [.inl s0] h = if (wr s0) = 0 then EX d 100 272 [(0, .inr (.inr a0))] [] h else EX d 100 265 [(0, .inr (.inr a0))] [] h := (EX_at bk_Mod_readLine_262 _ _ _).trans rfl
theorem bk_Mod_readLine_265 : blk 100 265 = some (((cd_Mod_readLine.lookup 265).getD ([], 0, []))) := rfl
theorem Mod_readLine_265 (d : Nat) (a0 : Nat) (h : Hp) : EX d 100 265 [(0, .inr (.inr a0))] [] h = if sK h a0 = 11 then bak (EX d 100) 269 [] [] true (cal d 99 [.inr (.inr a0)] h) else none := (EX_at bk_Mod_readLine_265 _ _ _).trans rfl
theorem bk_Mod_readLine_269 : blk 100 269 = some (((cd_Mod_readLine.lookup 269).getD ([], 0, []))) := rfl
theorem Mod_readLine_269 (d : Nat) (h : Hp) : EX d 100 269 [] [] h = EX d 100 277 [] [] h := (EX_at bk_Mod_readLine_269 _ _ _).trans rfl
theorem bk_Mod_readLine_272 : blk 100 272 = some (((cd_Mod_readLine.lookup 272).getD ([], 0, []))) := rfl
theorem Mod_readLine_272 (d : Nat) (a0 : Nat) (h : Hp) : EX d 100 272 [(0, .inr (.inr a0))] [] h = if sK h a0 = 11 then bak (EX d 100) 277 [] [] true (cal d 78 [.inr (.inr a0), .inl 2] h) else none := (EX_at bk_Mod_readLine_272 _ _ _).trans rfl
theorem bk_Mod_readLine_277 : blk 100 277 = some (((cd_Mod_readLine.lookup 277).getD ([], 0, []))) := rfl
theorem Mod_readLine_277 (d : Nat) (h : Hp) : EX d 100 277 [] [] h = some (.inl 0, h) := (EX_at bk_Mod_readLine_277 _ _ _).trans rfl
/-! window(I)I of HookOverModel: method 101 -/
theorem bk_Mod_window_0 : blk 101 0 = some (((cd_Mod_window.lookup 0).getD ([], 0, []))) := rfl
theorem Mod_window_0 (d : Nat) (a0 : Nat) (x1 : Int) (h : Hp) : EX d 101 0 [(0, .inr (.inr a0)), (1, .inl x1)] [] h = if sK h a0 = 11 then EX d 101 5 [(0, .inr (.inr a0)), (1, .inl x1)] [] (pI h a0 0 0) else none := (EX_at bk_Mod_window_0 _ _ _).trans rfl
theorem bk_Mod_window_5 : blk 101 5 = some (((cd_Mod_window.lookup 5).getD ([], 0, []))) := rfl
theorem Mod_window_5 (d : Nat) (a0 : Nat) (x1 : Int) (h : Hp) : EX d 101 5 [(0, .inr (.inr a0)), (1, .inl x1)] [] h = if sK h a0 = 11 then bak (EX d 101) 16 [(0, .inr (.inr a0)), (1, .inl x1)] [] false (cal d 71 [.inr (.inl (wr x1)), .inr (.inl 0), .inr (.inl (wr (hI h a0 5)))] h) else none := (EX_at bk_Mod_window_5 _ _ _).trans rfl
theorem bk_Mod_window_16 : blk 101 16 = some (((cd_Mod_window.lookup 16).getD ([], 0, []))) := rfl
theorem Mod_window_16 (d : Nat) (a0 : Nat) (x1 : Int) (s0 : Int) (h : Hp) : EX d 101 16 [(0, .inr (.inr a0)), (1, .inl x1)] [.inl s0] h = if (wr s0) = 0 then EX d 101 19 [] [] h else EX d 101 22 [(0, .inr (.inr a0)), (1, .inl x1)] [] h := (EX_at bk_Mod_window_16 _ _ _).trans rfl
theorem bk_Mod_window_19 : blk 101 19 = some (((cd_Mod_window.lookup 19).getD ([], 0, []))) := rfl
theorem Mod_window_19 (d : Nat) (h : Hp) : EX d 101 19 [] [] h = some (.inl (-3), h) := (EX_at bk_Mod_window_19 _ _ _).trans rfl
theorem bk_Mod_window_22 : blk 101 22 = some (((cd_Mod_window.lookup 22).getD ([], 0, []))) := rfl
theorem Mod_window_22 (d : Nat) (a0 : Nat) (x1 : Int) (h : Hp) : EX d 101 22 [(0, .inr (.inr a0)), (1, .inl x1)] [] h = if sK h a0 = 11 then EX d 101 27 [(0, .inr (.inr a0))] [] (pI h a0 8 x1) else none := (EX_at bk_Mod_window_22 _ _ _).trans rfl
theorem bk_Mod_window_27 : blk 101 27 = some (((cd_Mod_window.lookup 27).getD ([], 0, []))) := rfl
theorem Mod_window_27 (d : Nat) (a0 : Nat) (h : Hp) : EX d 101 27 [(0, .inr (.inr a0))] [] h = if sK h a0 = 11 then EX d 101 32 [(0, .inr (.inr a0))] [] (pI h a0 5 0) else none := (EX_at bk_Mod_window_27 _ _ _).trans rfl
theorem bk_Mod_window_32 : blk 101 32 = some (((cd_Mod_window.lookup 32).getD ([], 0, []))) := rfl
theorem Mod_window_32 (d : Nat) (a0 : Nat) (h : Hp) : EX d 101 32 [(0, .inr (.inr a0))] [] h = if sK h a0 = 11 then EX d 101 37 [(0, .inr (.inr a0))] [] (pI h a0 7 0) else none := (EX_at bk_Mod_window_32 _ _ _).trans rfl
theorem bk_Mod_window_37 : blk 101 37 = some (((cd_Mod_window.lookup 37).getD ([], 0, []))) := rfl
theorem Mod_window_37 (d : Nat) (a0 : Nat) (h : Hp) : EX d 101 37 [(0, .inr (.inr a0))] [] h = if sK h a0 = 11 then EX d 101 42 [(0, .inr (.inr a0))] [] (pI h a0 11 0) else none := (EX_at bk_Mod_window_37 _ _ _).trans rfl
theorem bk_Mod_window_42 : blk 101 42 = some (((cd_Mod_window.lookup 42).getD ([], 0, []))) := rfl
theorem Mod_window_42 (d : Nat) (a0 : Nat) (h : Hp) : EX d 101 42 [(0, .inr (.inr a0))] [] h = if sK h a0 = 11 then bak (EX d 101) 49 [(0, .inr (.inr a0))] [] true (cal d 14 [.inr (.inr (hR h a0 4))] h) else none := (EX_at bk_Mod_window_42 _ _ _).trans rfl
theorem bk_Mod_window_49 : blk 101 49 = some (((cd_Mod_window.lookup 49).getD ([], 0, []))) := rfl
theorem Mod_window_49 (d : Nat) (a0 : Nat) (h : Hp) : EX d 101 49 [(0, .inr (.inr a0))] [] h = if sK h a0 = 11 then bak (EX d 101) 53 [(0, .inr (.inr a0))] [] true (cal d 76 [.inr (.inr a0)] h) else none := (EX_at bk_Mod_window_49 _ _ _).trans rfl
theorem bk_Mod_window_53 : blk 101 53 = some (((cd_Mod_window.lookup 53).getD ([], 0, []))) := rfl
theorem Mod_window_53 (d : Nat) (a0 : Nat) (h : Hp) : EX d 101 53 [(0, .inr (.inr a0))] [] h = if sK h a0 = 11 then if (wr (hI h a0 11)) = 0 then EX d 101 60 [(0, .inr (.inr a0))] [] h else EX d 101 100 [(0, .inr (.inr a0))] [] h else none := (EX_at bk_Mod_window_53 _ _ _).trans rfl
theorem bk_Mod_window_60 : blk 101 60 = some (((cd_Mod_window.lookup 60).getD ([], 0, []))) := rfl
theorem Mod_window_60 (d : Nat) (a0 : Nat) (h : Hp) : EX d 101 60 [(0, .inr (.inr a0))] [] h = if sK h a0 = 11 then if (wr (hI h a0 9)) = 22 then EX d 101 100 [(0, .inr (.inr a0))] [] h else EX d 101 69 [(0, .inr (.inr a0))] [] h else none := (EX_at bk_Mod_window_60 _ _ _).trans rfl
theorem bk_Mod_window_69 : blk 101 69 = some (((cd_Mod_window.lookup 69).getD ([], 0, []))) := rfl
theorem Mod_window_69 (d : Nat) (a0 : Nat) (h : Hp) : EX d 101 69 [(0, .inr (.inr a0))] [] h = if sK h a0 = 11 then bak (EX d 101) 73 [(0, .inr (.inr a0))] [] true (cal d 100 [.inr (.inr a0)] h) else none := (EX_at bk_Mod_window_69 _ _ _).trans rfl
theorem bk_Mod_window_73 : blk 101 73 = some (((cd_Mod_window.lookup 73).getD ([], 0, []))) := rfl
theorem Mod_window_73 (d : Nat) (a0 : Nat) (h : Hp) : EX d 101 73 [(0, .inr (.inr a0))] [] h = if sK h a0 = 11 then bak (EX d 101) 79 [(0, .inr (.inr a0))] [] false (cal d 81 [.inr (.inr a0), .inl 25] h) else none := (EX_at bk_Mod_window_73 _ _ _).trans rfl
theorem bk_Mod_window_79 : blk 101 79 = some (((cd_Mod_window.lookup 79).getD ([], 0, []))) := rfl
theorem Mod_window_79 (d : Nat) (a0 : Nat) (s0 : Int) (h : Hp) : EX d 101 79 [(0, .inr (.inr a0))] [.inl s0] h = if (wr s0) = 0 then EX d 101 82 [(0, .inr (.inr a0))] [] h else EX d 101 87 [(0, .inr (.inr a0))] [] h := (EX_at bk_Mod_window_79 _ _ _).trans rfl
theorem bk_Mod_window_82 : blk 101 82 = some (((cd_Mod_window.lookup 82).getD ([], 0, []))) := rfl
theorem Mod_window_82 (d : Nat) (a0 : Nat) (h : Hp) : EX d 101 82 [(0, .inr (.inr a0))] [] h = if sK h a0 = 11 then bak (EX d 101) 87 [(0, .inr (.inr a0))] [] true (cal d 78 [.inr (.inr a0), .inl 2] h) else none := (EX_at bk_Mod_window_82 _ _ _).trans rfl
theorem bk_Mod_window_87 : blk 101 87 = some (((cd_Mod_window.lookup 87).getD ([], 0, []))) := rfl
theorem Mod_window_87 (d : Nat) (a0 : Nat) (h : Hp) : EX d 101 87 [(0, .inr (.inr a0))] [] h = if sK h a0 = 11 then if okx h (hR h a0 4) 20 0 then if okx h (hR h a0 4) 20 0 then EX d 101 97 [(0, .inr (.inr a0))] [] (pI h (hR h a0 4) 0 ((hI h (hR h a0 4) 0) + 1)) else none else none else none := (EX_at bk_Mod_window_87 _ _ _).trans rfl
theorem bk_Mod_window_97 : blk 101 97 = some (((cd_Mod_window.lookup 97).getD ([], 0, []))) := rfl
theorem Mod_window_97 (d : Nat) (a0 : Nat) (h : Hp) : EX d 101 97 [(0, .inr (.inr a0))] [] h = EX d 101 53 [(0, .inr (.inr a0))] [] h := (EX_at bk_Mod_window_97 _ _ _).trans rfl
theorem bk_Mod_window_100 : blk 101 100 = some (((cd_Mod_window.lookup 100).getD ([], 0, []))) := rfl
theorem Mod_window_100 (d : Nat) (a0 : Nat) (h : Hp) : EX d 101 100 [(0, .inr (.inr a0))] [] h = if sK h a0 = 11 then if sK h a0 = 11 then EX d 101 108 [(0, .inr (.inr a0))] [] (pI h a0 13 (hI h a0 11)) else none else none := (EX_at bk_Mod_window_100 _ _ _).trans rfl
theorem bk_Mod_window_108 : blk 101 108 = some (((cd_Mod_window.lookup 108).getD ([], 0, []))) := rfl
theorem Mod_window_108 (d : Nat) (a0 : Nat) (h : Hp) : EX d 101 108 [(0, .inr (.inr a0))] [] h = if sK h a0 = 11 then if (wr (hI h a0 11)) = 0 then EX d 101 116 [(0, .inr (.inr a0))] [.inr (.inr a0)] h else EX d 101 120 [(0, .inr (.inr a0))] [.inr (.inr a0)] h else none := (EX_at bk_Mod_window_108 _ _ _).trans rfl
theorem bk_Mod_window_116 : blk 101 116 = some (((cd_Mod_window.lookup 116).getD ([], 0, []))) := rfl
theorem Mod_window_116 (d : Nat) (a0 : Nat) (r0 : Nat) (h : Hp) : EX d 101 116 [(0, .inr (.inr a0))] [.inr (.inr r0)] h = EX d 101 124 [(0, .inr (.inr a0))] [.inl (-1), .inr (.inr r0)] h := (EX_at bk_Mod_window_116 _ _ _).trans rfl
theorem bk_Mod_window_120 : blk 101 120 = some (((cd_Mod_window.lookup 120).getD ([], 0, []))) := rfl
theorem Mod_window_120 (d : Nat) (a0 : Nat) (r0 : Nat) (h : Hp) : EX d 101 120 [(0, .inr (.inr a0))] [.inr (.inr r0)] h = if sK h a0 = 11 then EX d 101 124 [(0, .inr (.inr a0))] [.inl (hI h a0 12), .inr (.inr r0)] h else none := (EX_at bk_Mod_window_120 _ _ _).trans rfl
theorem bk_Mod_window_124 : blk 101 124 = some (((cd_Mod_window.lookup 124).getD ([], 0, []))) := rfl
theorem Mod_window_124 (d : Nat) (a0 : Nat) (r0 : Nat) (s1 : Int) (h : Hp) : EX d 101 124 [(0, .inr (.inr a0))] [.inl s1, .inr (.inr r0)] h = if sK h r0 = 11 then EX d 101 127 [(0, .inr (.inr a0))] [] (pI h r0 14 s1) else none := (EX_at bk_Mod_window_124 _ _ _).trans rfl
theorem bk_Mod_window_127 : blk 101 127 = some (((cd_Mod_window.lookup 127).getD ([], 0, []))) := rfl
theorem Mod_window_127 (d : Nat) (a0 : Nat) (h : Hp) : EX d 101 127 [(0, .inr (.inr a0))] [] h = if sK h a0 = 11 then if (wr (hI h a0 11)) = 0 then EX d 101 142 [(0, .inr (.inr a0))] [] h else EX d 101 134 [(0, .inr (.inr a0))] [] h else none := (EX_at bk_Mod_window_127 _ _ _).trans rfl
theorem bk_Mod_window_134 : blk 101 134 = some (((cd_Mod_window.lookup 134).getD ([], 0, []))) := rfl
theorem Mod_window_134 (d : Nat) (a0 : Nat) (h : Hp) : EX d 101 134 [(0, .inr (.inr a0))] [] h = if sK h a0 = 11 then some (.inl ((-30) - (hI h a0 11)), h) else none := (EX_at bk_Mod_window_134 _ _ _).trans rfl
theorem bk_Mod_window_142 : blk 101 142 = some (((cd_Mod_window.lookup 142).getD ([], 0, []))) := rfl
theorem Mod_window_142 (d : Nat) (a0 : Nat) (h : Hp) : EX d 101 142 [(0, .inr (.inr a0))] [] h = EX d 101 144 [(0, .inr (.inr a0)), (2, .inl 0)] [] h := (EX_at bk_Mod_window_142 _ _ _).trans rfl
theorem bk_Mod_window_144 : blk 101 144 = some (((cd_Mod_window.lookup 144).getD ([], 0, []))) := rfl
theorem Mod_window_144 (d : Nat) (a0 : Nat) (x2 : Int) (h : Hp) : EX d 101 144 [(0, .inr (.inr a0)), (2, .inl x2)] [] h = if (wr x2) < 1115 then EX d 101 151 [(0, .inr (.inr a0)), (2, .inl x2)] [] h else EX d 101 169 [(0, .inr (.inr a0))] [] h := (EX_at bk_Mod_window_144 _ _ _).trans rfl
theorem bk_Mod_window_151 : blk 101 151 = some (((cd_Mod_window.lookup 151).getD ([], 0, []))) := rfl
theorem Mod_window_151 (d : Nat) (a0 : Nat) (x2 : Int) (h : Hp) : EX d 101 151 [(0, .inr (.inr a0)), (2, .inl x2)] [] h = if sK h a0 = 11 then if sK h a0 = 11 then if okx h (hR h a0 4) 20 x2 then if okx h (hR h a0 1) 20 x2 then EX d 101 163 [(0, .inr (.inr a0)), (2, .inl x2)] [] (pI h (hR h a0 1) (ix x2) (hI h (hR h a0 4) (ix x2))) else none else none else none else none := (EX_at bk_Mod_window_151 _ _ _).trans rfl
theorem bk_Mod_window_163 : blk 101 163 = some (((cd_Mod_window.lookup 163).getD ([], 0, []))) := rfl
theorem Mod_window_163 (d : Nat) (a0 : Nat) (x2 : Int) (h : Hp) : EX d 101 163 [(0, .inr (.inr a0)), (2, .inl x2)] [] h = EX d 101 144 [(0, .inr (.inr a0)), (2, .inl (x2 + 1))] [] h := (EX_at bk_Mod_window_163 _ _ _).trans rfl
theorem bk_Mod_window_169 : blk 101 169 = some (((cd_Mod_window.lookup 169).getD ([], 0, []))) := rfl
theorem Mod_window_169 (d : Nat) (a0 : Nat) (h : Hp) : EX d 101 169 [(0, .inr (.inr a0))] [] h = if sK h a0 = 11 then if okx h (hR h a0 1) 20 0 then some (.inl (hI h (hR h a0 1) 0), h) else none else none := (EX_at bk_Mod_window_169 _ _ _).trans rfl
/-! fault(I)I of HookOverModel: method 103 -/
theorem bk_Mod_fault_0 : blk 103 0 = some (((cd_Mod_fault.lookup 0).getD ([], 0, []))) := rfl
theorem Mod_fault_0 (d : Nat) (a0 : Nat) (x1 : Int) (h : Hp) : EX d 103 0 [(0, .inr (.inr a0)), (1, .inl x1)] [] h = if sK h a0 = 11 then EX d 103 5 [(0, .inr (.inr a0)), (1, .inl x1)] [] (pI h a0 0 0) else none := (EX_at bk_Mod_fault_0 _ _ _).trans rfl
theorem bk_Mod_fault_5 : blk 103 5 = some (((cd_Mod_fault.lookup 5).getD ([], 0, []))) := rfl
theorem Mod_fault_5 (d : Nat) (a0 : Nat) (x1 : Int) (h : Hp) : EX d 103 5 [(0, .inr (.inr a0)), (1, .inl x1)] [] h = if (wr x1) = 0 then EX d 103 9 [(0, .inr (.inr a0))] [] h else EX d 103 16 [(0, .inr (.inr a0)), (1, .inl x1)] [] h := (EX_at bk_Mod_fault_5 _ _ _).trans rfl
theorem bk_Mod_fault_9 : blk 103 9 = some (((cd_Mod_fault.lookup 9).getD ([], 0, []))) := rfl
theorem Mod_fault_9 (d : Nat) (a0 : Nat) (h : Hp) : EX d 103 9 [(0, .inr (.inr a0))] [] h = if sK h a0 = 11 then EX d 103 29 [] [.inl (hI h a0 13)] h else none := (EX_at bk_Mod_fault_9 _ _ _).trans rfl
theorem bk_Mod_fault_16 : blk 103 16 = some (((cd_Mod_fault.lookup 16).getD ([], 0, []))) := rfl
theorem Mod_fault_16 (d : Nat) (a0 : Nat) (x1 : Int) (h : Hp) : EX d 103 16 [(0, .inr (.inr a0)), (1, .inl x1)] [] h = if (wr x1) = 1 then EX d 103 21 [(0, .inr (.inr a0))] [] h else EX d 103 28 [] [] h := (EX_at bk_Mod_fault_16 _ _ _).trans rfl
theorem bk_Mod_fault_21 : blk 103 21 = some (((cd_Mod_fault.lookup 21).getD ([], 0, []))) := rfl
theorem Mod_fault_21 (d : Nat) (a0 : Nat) (h : Hp) : EX d 103 21 [(0, .inr (.inr a0))] [] h = if sK h a0 = 11 then EX d 103 29 [] [.inl (hI h a0 14)] h else none := (EX_at bk_Mod_fault_21 _ _ _).trans rfl
theorem bk_Mod_fault_28 : blk 103 28 = some (((cd_Mod_fault.lookup 28).getD ([], 0, []))) := rfl
theorem Mod_fault_28 (d : Nat) (h : Hp) : EX d 103 28 [] [] h = EX d 103 29 [] [.inl (-1)] h := (EX_at bk_Mod_fault_28 _ _ _).trans rfl
theorem bk_Mod_fault_29 : blk 103 29 = some (((cd_Mod_fault.lookup 29).getD ([], 0, []))) := rfl
theorem Mod_fault_29 (d : Nat) (s0 : Int) (h : Hp) : EX d 103 29 [] [.inl s0] h = some (.inl s0, h) := (EX_at bk_Mod_fault_29 _ _ _).trans rfl
/-! isHook(I)Z of HookOverModel: method 108 -/
theorem bk_Mod_isHook_0 : blk 108 0 = some (((cd_Mod_isHook.lookup 0).getD ([], 0, []))) := rfl
theorem Mod_isHook_0 (d : Nat) (a0 : Nat) (x1 : Int) (h : Hp) : EX d 108 0 [(0, .inr (.inr a0)), (1, .inl x1)] [] h = if sK h a0 = 11 then if okx h (hR h a0 1) 20 1 then bak (EX d 108) 15 [] [] false (cal d 71 [.inr (.inl (wr x1)), .inr (.inl 0), .inr (.inl (wr ((hI h (hR h a0 1) 1) - 1)))] h) else none else none := (EX_at bk_Mod_isHook_0 _ _ _).trans rfl
theorem bk_Mod_isHook_15 : blk 108 15 = some (((cd_Mod_isHook.lookup 15).getD ([], 0, []))) := rfl
theorem Mod_isHook_15 (d : Nat) (s0 : Int) (h : Hp) : EX d 108 15 [] [.inl s0] h = if ((s0 : Int) = 0 ∨ (s0 : Int) = 1) then some (.inl s0, h) else none := (EX_at bk_Mod_isHook_15 _ _ _).trans rfl
/-! nextJoined(I)I of HookOverModel: method 109 -/
theorem bk_Mod_nextJoined_0 : blk 109 0 = some (((cd_Mod_nextJoined.lookup 0).getD ([], 0, []))) := rfl
theorem Mod_nextJoined_0 (d : Nat) (a0 : Nat) (x1 : Int) (h : Hp) : EX d 109 0 [(0, .inr (.inr a0)), (1, .inl x1)] [] h = EX d 109 4 [(0, .inr (.inr a0)), (2, .inl (x1 + 1))] [] h := (EX_at bk_Mod_nextJoined_0 _ _ _).trans rfl
theorem bk_Mod_nextJoined_4 : blk 109 4 = some (((cd_Mod_nextJoined.lookup 4).getD ([], 0, []))) := rfl
theorem Mod_nextJoined_4 (d : Nat) (a0 : Nat) (x2 : Int) (h : Hp) : EX d 109 4 [(0, .inr (.inr a0)), (2, .inl x2)] [] h = if sK h a0 = 11 then if okx h (hR h a0 1) 20 1 then if (wr x2) < (wr (hI h (hR h a0 1) 1)) then EX d 109 14 [(0, .inr (.inr a0)), (2, .inl x2)] [] h else EX d 109 35 [] [] h else none else none := (EX_at bk_Mod_nextJoined_4 _ _ _).trans rfl
theorem bk_Mod_nextJoined_14 : blk 109 14 = some (((cd_Mod_nextJoined.lookup 14).getD ([], 0, []))) := rfl
theorem Mod_nextJoined_14 (d : Nat) (a0 : Nat) (x2 : Int) (h : Hp) : EX d 109 14 [(0, .inr (.inr a0)), (2, .inl x2)] [] h = if sK h a0 = 11 then if okx h (hR h a0 1) 20 (61 + x2) then if (wr (hI h (hR h a0 1) (ix (61 + x2)))) = (-1) then EX d 109 29 [(0, .inr (.inr a0)), (2, .inl x2)] [] h else EX d 109 27 [(2, .inl x2)] [] h else none else none := (EX_at bk_Mod_nextJoined_14 _ _ _).trans rfl
theorem bk_Mod_nextJoined_27 : blk 109 27 = some (((cd_Mod_nextJoined.lookup 27).getD ([], 0, []))) := rfl
theorem Mod_nextJoined_27 (d : Nat) (x2 : Int) (h : Hp) : EX d 109 27 [(2, .inl x2)] [] h = some (.inl x2, h) := (EX_at bk_Mod_nextJoined_27 _ _ _).trans rfl
theorem bk_Mod_nextJoined_29 : blk 109 29 = some (((cd_Mod_nextJoined.lookup 29).getD ([], 0, []))) := rfl
theorem Mod_nextJoined_29 (d : Nat) (a0 : Nat) (x2 : Int) (h : Hp) : EX d 109 29 [(0, .inr (.inr a0)), (2, .inl x2)] [] h = EX d 109 4 [(0, .inr (.inr a0)), (2, .inl (x2 + 1))] [] h := (EX_at bk_Mod_nextJoined_29 _ _ _).trans rfl
theorem bk_Mod_nextJoined_35 : blk 109 35 = some (((cd_Mod_nextJoined.lookup 35).getD ([], 0, []))) := rfl
theorem Mod_nextJoined_35 (d : Nat) (h : Hp) : EX d 109 35 [] [] h = some (.inl (-1), h) := (EX_at bk_Mod_nextJoined_35 _ _ _).trans rfl
/-! sagOf(I)I of HookOverModel: method 110 -/
theorem bk_Mod_sagOf_0 : blk 110 0 = some (((cd_Mod_sagOf.lookup 0).getD ([], 0, []))) := rfl
theorem Mod_sagOf_0 (d : Nat) (a0 : Nat) (x1 : Int) (h : Hp) : EX d 110 0 [(0, .inr (.inr a0)), (1, .inl x1)] [] h = if sK h a0 = 11 then bak (EX d 110) 5 [(0, .inr (.inr a0)), (1, .inl x1)] [] false (cal d 109 [.inr (.inr a0), .inl x1] h) else none := (EX_at bk_Mod_sagOf_0 _ _ _).trans rfl
theorem bk_Mod_sagOf_5 : blk 110 5 = some (((cd_Mod_sagOf.lookup 5).getD ([], 0, []))) := rfl
theorem Mod_sagOf_5 (d : Nat) (a0 : Nat) (x1 : Int) (s0 : Int) (h : Hp) : EX d 110 5 [(0, .inr (.inr a0)), (1, .inl x1)] [.inl s0] h = if sK h a0 = 11 then if okx h (hR h a0 1) 20 (61 + x1) then if (wr (hI h (hR h a0 1) (ix (61 + x1)))) = (-1) then EX d 110 24 [] [] h else EX d 110 19 [(0, .inr (.inr a0)), (1, .inl x1), (2, .inl s0)] [] h else none else none := (EX_at bk_Mod_sagOf_5 _ _ _).trans rfl
theorem bk_Mod_sagOf_19 : blk 110 19 = some (((cd_Mod_sagOf.lookup 19).getD ([], 0, []))) := rfl
theorem Mod_sagOf_19 (d : Nat) (a0 : Nat) (x1 : Int) (x2 : Int) (h : Hp) : EX d 110 19 [(0, .inr (.inr a0)), (1, .inl x1), (2, .inl x2)] [] h = if (wr x2) = (-1) then EX d 110 24 [] [] h else EX d 110 28 [(0, .inr (.inr a0)), (1, .inl x1), (2, .inl x2)] [] h := (EX_at bk_Mod_sagOf_19 _ _ _).trans rfl
theorem bk_Mod_sagOf_24 : blk 110 24 = some (((cd_Mod_sagOf.lookup 24).getD ([], 0, []))) := rfl
theorem Mod_sagOf_24 (d : Nat) (h : Hp) : EX d 110 24 [] [] h = EX d 110 55 [] [.inl (-1)] h := (EX_at bk_Mod_sagOf_24 _ _ _).trans rfl
theorem bk_Mod_sagOf_28 : blk 110 28 = some (((cd_Mod_sagOf.lookup 28).getD ([], 0, []))) := rfl
theorem Mod_sagOf_28 (d : Nat) (a0 : Nat) (x1 : Int) (x2 : Int) (h : Hp) : EX d 110 28 [(0, .inr (.inr a0)), (1, .inl x1), (2, .inl x2)] [] h = if sK h a0 = 11 then if sK h a0 = 11 then if okx h (hR h a0 1) 20 (61 + x1) then if sK h a0 = 11 then if okx h (hR h a0 1) 20 (61 + x2) then bak (EX d 110) 55 [] [] false (cal d 97 [.inr (.inr (hR h a0 1)), .inl x1, .inl (hI h (hR h a0 1) (ix (61 + x1))), .inl x2, .inl (hI h (hR h a0 1) (ix (61 + x2)))] h) else none else none else none else none else none := (EX_at bk_Mod_sagOf_28 _ _ _).trans rfl
theorem bk_Mod_sagOf_55 : blk 110 55 = some (((cd_Mod_sagOf.lookup 55).getD ([], 0, []))) := rfl
theorem Mod_sagOf_55 (d : Nat) (s0 : Int) (h : Hp) : EX d 110 55 [] [.inl s0] h = some (.inl s0, h) := (EX_at bk_Mod_sagOf_55 _ _ _).trans rfl
/-! wordOf(III)I of HookOverModel: method 111 -/
theorem bk_Mod_wordOf_0 : blk 111 0 = some (((cd_Mod_wordOf.lookup 0).getD ([], 0, []))) := rfl
theorem Mod_wordOf_0 (d : Nat) (a0 : Nat) (x1 : Int) (x2 : Int) (x3 : Int) (h : Hp) : EX d 111 0 [(0, .inr (.inr a0)), (1, .inl x1), (2, .inl x2), (3, .inl x3)] [] h = if (wr x1) = 1000 then EX d 111 40 [(0, .inr (.inr a0)), (1, .inl x1), (2, .inl x2), (3, .inl x3)] [] h else if (wr x1) = 1001 then EX d 111 42 [(0, .inr (.inr a0)), (1, .inl x1), (2, .inl x2), (3, .inl x3)] [] h else if (wr x1) = 1002 then EX d 111 44 [(0, .inr (.inr a0)), (1, .inl x1), (2, .inl x2), (3, .inl x3)] [] h else if (wr x1) = 1003 then EX d 111 54 [(0, .inr (.inr a0)), (1, .inl x1), (2, .inl x2), (3, .inl x3)] [] h else if (wr x1) = 1004 then EX d 111 64 [(0, .inr (.inr a0)), (1, .inl x1), (2, .inl x2), (3, .inl x3)] [] h else if (wr x1) = 1005 then EX d 111 71 [(0, .inr (.inr a0)), (1, .inl x1), (2, .inl x2), (3, .inl x3)] [] h else EX d 111 78 [(0, .inr (.inr a0)), (1, .inl x1), (2, .inl x2), (3, .inl x3)] [] h := (EX_at bk_Mod_wordOf_0 _ _ _).trans rfl
theorem bk_Mod_wordOf_40 : blk 111 40 = some (((cd_Mod_wordOf.lookup 40).getD ([], 0, []))) := rfl
theorem Mod_wordOf_40 (d : Nat) (a0 : Nat) (x1 : Int) (x2 : Int) (x3 : Int) (h : Hp) : EX d 111 40 [(0, .inr (.inr a0)), (1, .inl x1), (2, .inl x2), (3, .inl x3)] [] h = some (.inl x2, h) := (EX_at bk_Mod_wordOf_40 _ _ _).trans rfl
theorem bk_Mod_wordOf_42 : blk 111 42 = some (((cd_Mod_wordOf.lookup 42).getD ([], 0, []))) := rfl
theorem Mod_wordOf_42 (d : Nat) (a0 : Nat) (x1 : Int) (x2 : Int) (x3 : Int) (h : Hp) : EX d 111 42 [(0, .inr (.inr a0)), (1, .inl x1), (2, .inl x2), (3, .inl x3)] [] h = some (.inl x3, h) := (EX_at bk_Mod_wordOf_42 _ _ _).trans rfl
theorem bk_Mod_wordOf_44 : blk 111 44 = some (((cd_Mod_wordOf.lookup 44).getD ([], 0, []))) := rfl
theorem Mod_wordOf_44 (d : Nat) (a0 : Nat) (x1 : Int) (x2 : Int) (x3 : Int) (h : Hp) : EX d 111 44 [(0, .inr (.inr a0)), (1, .inl x1), (2, .inl x2), (3, .inl x3)] [] h = if sK h a0 = 11 then if okx h (hR h a0 1) 20 (35 + x2) then some (.inl (hI h (hR h a0 1) (ix (35 + x2))), h) else none else none := (EX_at bk_Mod_wordOf_44 _ _ _).trans rfl
theorem bk_Mod_wordOf_54 : blk 111 54 = some (((cd_Mod_wordOf.lookup 54).getD ([], 0, []))) := rfl
theorem Mod_wordOf_54 (d : Nat) (a0 : Nat) (x1 : Int) (x2 : Int) (x3 : Int) (h : Hp) : EX d 111 54 [(0, .inr (.inr a0)), (1, .inl x1), (2, .inl x2), (3, .inl x3)] [] h = if sK h a0 = 11 then if okx h (hR h a0 1) 20 (47 + x3) then some (.inl (hI h (hR h a0 1) (ix (47 + x3))), h) else none else none := (EX_at bk_Mod_wordOf_54 _ _ _).trans rfl
theorem bk_Mod_wordOf_64 : blk 111 64 = some (((cd_Mod_wordOf.lookup 64).getD ([], 0, []))) := rfl
theorem Mod_wordOf_64 (d : Nat) (a0 : Nat) (x1 : Int) (x2 : Int) (x3 : Int) (h : Hp) : EX d 111 64 [(0, .inr (.inr a0)), (1, .inl x1), (2, .inl x2), (3, .inl x3)] [] h = if sK h a0 = 11 then if okx h (hR h a0 1) 20 1 then some (.inl (hI h (hR h a0 1) 1), h) else none else none := (EX_at bk_Mod_wordOf_64 _ _ _).trans rfl
theorem bk_Mod_wordOf_71 : blk 111 71 = some (((cd_Mod_wordOf.lookup 71).getD ([], 0, []))) := rfl
theorem Mod_wordOf_71 (d : Nat) (a0 : Nat) (x1 : Int) (x2 : Int) (x3 : Int) (h : Hp) : EX d 111 71 [(0, .inr (.inr a0)), (1, .inl x1), (2, .inl x2), (3, .inl x3)] [] h = if sK h a0 = 11 then if okx h (hR h a0 1) 20 2 then some (.inl (hI h (hR h a0 1) 2), h) else none else none := (EX_at bk_Mod_wordOf_71 _ _ _).trans rfl
theorem bk_Mod_wordOf_78 : blk 111 78 = some (((cd_Mod_wordOf.lookup 78).getD ([], 0, []))) := rfl
theorem Mod_wordOf_78 (d : Nat) (a0 : Nat) (x1 : Int) (x2 : Int) (x3 : Int) (h : Hp) : EX d 111 78 [(0, .inr (.inr a0)), (1, .inl x1), (2, .inl x2), (3, .inl x3)] [] h = some (.inl x1, h) := (EX_at bk_Mod_wordOf_78 _ _ _).trans rfl
/-! between(III)I of HookOverModel: method 112 -/
theorem bk_Mod_between_0 : blk 112 0 = some (((cd_Mod_between.lookup 0).getD ([], 0, []))) := rfl
theorem Mod_between_0 (d : Nat) (x0 : Int) (x1 : Int) (x2 : Int) (h : Hp) : EX d 112 0 [(0, .inl x0), (1, .inl x1), (2, .inl x2)] [] h = if 3002 < (wr x0) then EX d 112 74 [(0, .inl x0), (1, .inl x1), (2, .inl x2)] [] h else EX d 112 7 [(0, .inl x0), (1, .inl x1), (2, .inl x2)] [] h := (EX_at bk_Mod_between_0 _ _ _).trans rfl
theorem bk_Mod_between_7 : blk 112 7 = some (((cd_Mod_between.lookup 7).getD ([], 0, []))) := rfl
theorem Mod_between_7 (d : Nat) (x0 : Int) (x1 : Int) (x2 : Int) (h : Hp) : EX d 112 7 [(0, .inl x0), (1, .inl x1), (2, .inl x2)] [] h = if (wr x0) = 3000 then EX d 112 14 [(1, .inl x1), (2, .inl x2)] [] h else EX d 112 22 [(0, .inl x0), (1, .inl x1), (2, .inl x2)] [] h := (EX_at bk_Mod_between_7 _ _ _).trans rfl
theorem bk_Mod_between_14 : blk 112 14 = some (((cd_Mod_between.lookup 14).getD ([], 0, []))) := rfl
theorem Mod_between_14 (d : Nat) (x1 : Int) (x2 : Int) (h : Hp) : EX d 112 14 [(1, .inl x1), (2, .inl x2)] [] h = EX d 112 42 [] [.inr (.inl ((wr x1) + (wr x2)))] h := (EX_at bk_Mod_between_14 _ _ _).trans rfl
theorem bk_Mod_between_22 : blk 112 22 = some (((cd_Mod_between.lookup 22).getD ([], 0, []))) := rfl
theorem Mod_between_22 (d : Nat) (x0 : Int) (x1 : Int) (x2 : Int) (h : Hp) : EX d 112 22 [(0, .inl x0), (1, .inl x1), (2, .inl x2)] [] h = if (wr x0) = 3001 then EX d 112 29 [(1, .inl x1), (2, .inl x2)] [] h else EX d 112 37 [(1, .inl x1), (2, .inl x2)] [] h := (EX_at bk_Mod_between_22 _ _ _).trans rfl
theorem bk_Mod_between_29 : blk 112 29 = some (((cd_Mod_between.lookup 29).getD ([], 0, []))) := rfl
theorem Mod_between_29 (d : Nat) (x1 : Int) (x2 : Int) (h : Hp) : EX d 112 29 [(1, .inl x1), (2, .inl x2)] [] h = EX d 112 42 [] [.inr (.inl ((wr x1) - (wr x2)))] h := (EX_at bk_Mod_between_29 _ _ _).trans rfl
theorem bk_Mod_between_37 : blk 112 37 = some (((cd_Mod_between.lookup 37).getD ([], 0, []))) := rfl
theorem Mod_between_37 (d : Nat) (x1 : Int) (x2 : Int) (h : Hp) : EX d 112 37 [(1, .inl x1), (2, .inl x2)] [] h = EX d 112 42 [] [.inr (.inl ((wr x1) * (wr x2)))] h := (EX_at bk_Mod_between_37 _ _ _).trans rfl
theorem bk_Mod_between_42 : blk 112 42 = some (((cd_Mod_between.lookup 42).getD ([], 0, []))) := rfl
theorem Mod_between_42 (d : Nat) (t0 : Int) (h : Hp) : EX d 112 42 [] [.inr (.inl t0)] h = if 0 < (wr (lCmp t0 1000000)) then EX d 112 51 [] [] h else EX d 112 57 [(3, .inr (.inl t0))] [] h := (EX_at bk_Mod_between_42 _ _ _).trans rfl
theorem bk_Mod_between_51 : blk 112 51 = some (((cd_Mod_between.lookup 51).getD ([], 0, []))) := rfl
theorem Mod_between_51 (d : Nat) (h : Hp) : EX d 112 51 [] [] h = EX d 112 72 [] [.inr (.inl 1000000)] h := (EX_at bk_Mod_between_51 _ _ _).trans rfl
theorem bk_Mod_between_57 : blk 112 57 = some (((cd_Mod_between.lookup 57).getD ([], 0, []))) := rfl
theorem Mod_between_57 (d : Nat) (y3 : Int) (h : Hp) : EX d 112 57 [(3, .inr (.inl y3))] [] h = if (wr (lCmp y3 (-1000000))) < 0 then EX d 112 65 [] [] h else EX d 112 71 [(3, .inr (.inl y3))] [] h := (EX_at bk_Mod_between_57 _ _ _).trans rfl
theorem bk_Mod_between_65 : blk 112 65 = some (((cd_Mod_between.lookup 65).getD ([], 0, []))) := rfl
theorem Mod_between_65 (d : Nat) (h : Hp) : EX d 112 65 [] [] h = EX d 112 72 [] [.inr (.inl (-1000000))] h := (EX_at bk_Mod_between_65 _ _ _).trans rfl
theorem bk_Mod_between_71 : blk 112 71 = some (((cd_Mod_between.lookup 71).getD ([], 0, []))) := rfl
theorem Mod_between_71 (d : Nat) (y3 : Int) (h : Hp) : EX d 112 71 [(3, .inr (.inl y3))] [] h = EX d 112 72 [] [.inr (.inl y3)] h := (EX_at bk_Mod_between_71 _ _ _).trans rfl
theorem bk_Mod_between_72 : blk 112 72 = some (((cd_Mod_between.lookup 72).getD ([], 0, []))) := rfl
theorem Mod_between_72 (d : Nat) (t0 : Int) (h : Hp) : EX d 112 72 [] [.inr (.inl t0)] h = some (.inl t0, h) := (EX_at bk_Mod_between_72 _ _ _).trans rfl
theorem bk_Mod_between_74 : blk 112 74 = some (((cd_Mod_between.lookup 74).getD ([], 0, []))) := rfl
theorem Mod_between_74 (d : Nat) (x0 : Int) (x1 : Int) (x2 : Int) (h : Hp) : EX d 112 74 [(0, .inl x0), (1, .inl x1), (2, .inl x2)] [] h = if (wr x0) = 3003 then EX d 112 81 [(1, .inl x1), (2, .inl x2)] [] h else EX d 112 94 [(0, .inl x0), (1, .inl x1), (2, .inl x2)] [] h := (EX_at bk_Mod_between_74 _ _ _).trans rfl
theorem bk_Mod_between_81 : blk 112 81 = some (((cd_Mod_between.lookup 81).getD ([], 0, []))) := rfl
theorem Mod_between_81 (d : Nat) (x1 : Int) (x2 : Int) (h : Hp) : EX d 112 81 [(1, .inl x1), (2, .inl x2)] [] h = if (wr x1) = (wr x2) then EX d 112 86 [] [] h else EX d 112 90 [] [] h := (EX_at bk_Mod_between_81 _ _ _).trans rfl
theorem bk_Mod_between_86 : blk 112 86 = some (((cd_Mod_between.lookup 86).getD ([], 0, []))) := rfl
theorem Mod_between_86 (d : Nat) (h : Hp) : EX d 112 86 [] [] h = EX d 112 167 [] [.inl 1] h := (EX_at bk_Mod_between_86 _ _ _).trans rfl
theorem bk_Mod_between_90 : blk 112 90 = some (((cd_Mod_between.lookup 90).getD ([], 0, []))) := rfl
theorem Mod_between_90 (d : Nat) (h : Hp) : EX d 112 90 [] [] h = EX d 112 167 [] [.inl 0] h := (EX_at bk_Mod_between_90 _ _ _).trans rfl
theorem bk_Mod_between_94 : blk 112 94 = some (((cd_Mod_between.lookup 94).getD ([], 0, []))) := rfl
theorem Mod_between_94 (d : Nat) (x0 : Int) (x1 : Int) (x2 : Int) (h : Hp) : EX d 112 94 [(0, .inl x0), (1, .inl x1), (2, .inl x2)] [] h = if (wr x0) = 3004 then EX d 112 101 [(1, .inl x1), (2, .inl x2)] [] h else EX d 112 114 [(0, .inl x0), (1, .inl x1), (2, .inl x2)] [] h := (EX_at bk_Mod_between_94 _ _ _).trans rfl
theorem bk_Mod_between_101 : blk 112 101 = some (((cd_Mod_between.lookup 101).getD ([], 0, []))) := rfl
theorem Mod_between_101 (d : Nat) (x1 : Int) (x2 : Int) (h : Hp) : EX d 112 101 [(1, .inl x1), (2, .inl x2)] [] h = if (wr x1) < (wr x2) then EX d 112 106 [] [] h else EX d 112 110 [] [] h := (EX_at bk_Mod_between_101 _ _ _).trans rfl
theorem bk_Mod_between_106 : blk 112 106 = some (((cd_Mod_between.lookup 106).getD ([], 0, []))) := rfl
theorem Mod_between_106 (d : Nat) (h : Hp) : EX d 112 106 [] [] h = EX d 112 167 [] [.inl 1] h := (EX_at bk_Mod_between_106 _ _ _).trans rfl
theorem bk_Mod_between_110 : blk 112 110 = some (((cd_Mod_between.lookup 110).getD ([], 0, []))) := rfl
theorem Mod_between_110 (d : Nat) (h : Hp) : EX d 112 110 [] [] h = EX d 112 167 [] [.inl 0] h := (EX_at bk_Mod_between_110 _ _ _).trans rfl
theorem bk_Mod_between_114 : blk 112 114 = some (((cd_Mod_between.lookup 114).getD ([], 0, []))) := rfl
theorem Mod_between_114 (d : Nat) (x0 : Int) (x1 : Int) (x2 : Int) (h : Hp) : EX d 112 114 [(0, .inl x0), (1, .inl x1), (2, .inl x2)] [] h = if (wr x0) = 3005 then EX d 112 121 [(1, .inl x1), (2, .inl x2)] [] h else EX d 112 134 [(0, .inl x0), (1, .inl x1), (2, .inl x2)] [] h := (EX_at bk_Mod_between_114 _ _ _).trans rfl
theorem bk_Mod_between_121 : blk 112 121 = some (((cd_Mod_between.lookup 121).getD ([], 0, []))) := rfl
theorem Mod_between_121 (d : Nat) (x1 : Int) (x2 : Int) (h : Hp) : EX d 112 121 [(1, .inl x1), (2, .inl x2)] [] h = if (wr x2) < (wr x1) then EX d 112 126 [] [] h else EX d 112 130 [] [] h := (EX_at bk_Mod_between_121 _ _ _).trans rfl
theorem bk_Mod_between_126 : blk 112 126 = some (((cd_Mod_between.lookup 126).getD ([], 0, []))) := rfl
theorem Mod_between_126 (d : Nat) (h : Hp) : EX d 112 126 [] [] h = EX d 112 167 [] [.inl 1] h := (EX_at bk_Mod_between_126 _ _ _).trans rfl
theorem bk_Mod_between_130 : blk 112 130 = some (((cd_Mod_between.lookup 130).getD ([], 0, []))) := rfl
theorem Mod_between_130 (d : Nat) (h : Hp) : EX d 112 130 [] [] h = EX d 112 167 [] [.inl 0] h := (EX_at bk_Mod_between_130 _ _ _).trans rfl
theorem bk_Mod_between_134 : blk 112 134 = some (((cd_Mod_between.lookup 134).getD ([], 0, []))) := rfl
theorem Mod_between_134 (d : Nat) (x0 : Int) (x1 : Int) (x2 : Int) (h : Hp) : EX d 112 134 [(0, .inl x0), (1, .inl x1), (2, .inl x2)] [] h = if (wr x0) = 3006 then EX d 112 141 [(1, .inl x1), (2, .inl x2)] [] h else EX d 112 156 [(1, .inl x1), (2, .inl x2)] [] h := (EX_at bk_Mod_between_134 _ _ _).trans rfl
theorem bk_Mod_between_141 : blk 112 141 = some (((cd_Mod_between.lookup 141).getD ([], 0, []))) := rfl
theorem Mod_between_141 (d : Nat) (x1 : Int) (x2 : Int) (h : Hp) : EX d 112 141 [(1, .inl x1), (2, .inl x2)] [] h = if (wr (x1 + x2)) = 2 then EX d 112 148 [] [] h else EX d 112 152 [] [] h := (EX_at bk_Mod_between_141 _ _ _).trans rfl
theorem bk_Mod_between_148 : blk 112 148 = some (((cd_Mod_between.lookup 148).getD ([], 0, []))) := rfl
theorem Mod_between_148 (d : Nat) (h : Hp) : EX d 112 148 [] [] h = EX d 112 167 [] [.inl 1] h := (EX_at bk_Mod_between_148 _ _ _).trans rfl
theorem bk_Mod_between_152 : blk 112 152 = some (((cd_Mod_between.lookup 152).getD ([], 0, []))) := rfl
theorem Mod_between_152 (d : Nat) (h : Hp) : EX d 112 152 [] [] h = EX d 112 167 [] [.inl 0] h := (EX_at bk_Mod_between_152 _ _ _).trans rfl
theorem bk_Mod_between_156 : blk 112 156 = some (((cd_Mod_between.lookup 156).getD ([], 0, []))) := rfl
theorem Mod_between_156 (d : Nat) (x1 : Int) (x2 : Int) (h : Hp) : EX d 112 156 [(1, .inl x1), (2, .inl x2)] [] h = if 0 < (wr (x1 + x2)) then EX d 112 162 [] [] h else EX d 112 166 [] [] h := (EX_at bk_Mod_between_156 _ _ _).trans rfl
theorem bk_Mod_between_162 : blk 112 162 = some (((cd_Mod_between.lookup 162).getD ([], 0, []))) := rfl
theorem Mod_between_162 (d : Nat) (h : Hp) : EX d 112 162 [] [] h = EX d 112 167 [] [.inl 1] h := (EX_at bk_Mod_between_162 _ _ _).trans rfl
theorem bk_Mod_between_166 : blk 112 166 = some (((cd_Mod_between.lookup 166).getD ([], 0, []))) := rfl
theorem Mod_between_166 (d : Nat) (h : Hp) : EX d 112 166 [] [] h = EX d 112 167 [] [.inl 0] h := (EX_at bk_Mod_between_166 _ _ _).trans rfl
theorem bk_Mod_between_167 : blk 112 167 = some (((cd_Mod_between.lookup 167).getD ([], 0, []))) := rfl
theorem Mod_between_167 (d : Nat) (s0 : Int) (h : Hp) : EX d 112 167 [] [.inl s0] h = if (wr s0) = 0 then EX d 112 176 [] [] h else EX d 112 172 [] [] h := (EX_at bk_Mod_between_167 _ _ _).trans rfl
theorem bk_Mod_between_172 : blk 112 172 = some (((cd_Mod_between.lookup 172).getD ([], 0, []))) := rfl
theorem Mod_between_172 (d : Nat) (h : Hp) : EX d 112 172 [] [] h = EX d 112 177 [] [.inl 1] h := (EX_at bk_Mod_between_172 _ _ _).trans rfl
theorem bk_Mod_between_176 : blk 112 176 = some (((cd_Mod_between.lookup 176).getD ([], 0, []))) := rfl
theorem Mod_between_176 (d : Nat) (h : Hp) : EX d 112 176 [] [] h = EX d 112 177 [] [.inl 0] h := (EX_at bk_Mod_between_176 _ _ _).trans rfl
theorem bk_Mod_between_177 : blk 112 177 = some (((cd_Mod_between.lookup 177).getD ([], 0, []))) := rfl
theorem Mod_between_177 (d : Nat) (s0 : Int) (h : Hp) : EX d 112 177 [] [.inl s0] h = some (.inl s0, h) := (EX_at bk_Mod_between_177 _ _ _).trans rfl
/-! isRight(II)Z of HookOverModel: method 113 -/
theorem bk_Mod_isRight_0 : blk 113 0 = some (((cd_Mod_isRight.lookup 0).getD ([], 0, []))) := rfl
theorem Mod_isRight_0 (d : Nat) (a0 : Nat) (x1 : Int) (x2 : Int) (h : Hp) : EX d 113 0 [(0, .inr (.inr a0)), (1, .inl x1), (2, .inl x2)] [] h = if sK h a0 = 11 then if okx h (hR h a0 1) 20 9 then if (wr (hI h (hR h a0 1) 9)) = 0 then EX d 113 10 [(1, .inl x1), (2, .inl x2)] [] h else EX d 113 21 [(0, .inr (.inr a0)), (1, .inl x1), (2, .inl x2)] [] h else none else none := (EX_at bk_Mod_isRight_0 _ _ _).trans rfl
theorem bk_Mod_isRight_10 : blk 113 10 = some (((cd_Mod_isRight.lookup 10).getD ([], 0, []))) := rfl
theorem Mod_isRight_10 (d : Nat) (x1 : Int) (x2 : Int) (h : Hp) : EX d 113 10 [(1, .inl x1), (2, .inl x2)] [] h = if (wr x1) = (wr x2) then EX d 113 15 [] [] h else EX d 113 19 [] [] h := (EX_at bk_Mod_isRight_10 _ _ _).trans rfl
theorem bk_Mod_isRight_15 : blk 113 15 = some (((cd_Mod_isRight.lookup 15).getD ([], 0, []))) := rfl
theorem Mod_isRight_15 (d : Nat) (h : Hp) : EX d 113 15 [] [] h = EX d 113 20 [] [.inl 1] h := (EX_at bk_Mod_isRight_15 _ _ _).trans rfl
theorem bk_Mod_isRight_19 : blk 113 19 = some (((cd_Mod_isRight.lookup 19).getD ([], 0, []))) := rfl
theorem Mod_isRight_19 (d : Nat) (h : Hp) : EX d 113 19 [] [] h = EX d 113 20 [] [.inl 0] h := (EX_at bk_Mod_isRight_19 _ _ _).trans rfl
theorem bk_Mod_isRight_20 : blk 113 20 = some (((cd_Mod_isRight.lookup 20).getD ([], 0, []))) := rfl
theorem Mod_isRight_20 (d : Nat) (s0 : Int) (h : Hp) : EX d 113 20 [] [.inl s0] h = if ((s0 : Int) = 0 ∨ (s0 : Int) = 1) then some (.inl s0, h) else none := (EX_at bk_Mod_isRight_20 _ _ _).trans rfl
theorem bk_Mod_isRight_21 : blk 113 21 = some (((cd_Mod_isRight.lookup 21).getD ([], 0, []))) := rfl
theorem Mod_isRight_21 (d : Nat) (a0 : Nat) (x1 : Int) (x2 : Int) (h : Hp) : EX d 113 21 [(0, .inr (.inr a0)), (1, .inl x1), (2, .inl x2)] [] h = EX d 113 26 [(0, .inr (.inr a0)), (1, .inl x1), (2, .inl x2), (3, .inl 0), (4, .inl 0)] [] h := (EX_at bk_Mod_isRight_21 _ _ _).trans rfl
theorem bk_Mod_isRight_26 : blk 113 26 = some (((cd_Mod_isRight.lookup 26).getD ([], 0, []))) := rfl
theorem Mod_isRight_26 (d : Nat) (a0 : Nat) (x1 : Int) (x2 : Int) (x3 : Int) (x4 : Int) (h : Hp) : EX d 113 26 [(0, .inr (.inr a0)), (1, .inl x1), (2, .inl x2), (3, .inl x3), (4, .inl x4)] [] h = if sK h a0 = 11 then if okx h (hR h a0 1) 20 214 then if (wr x4) < (wr (hI h (hR h a0 1) 214)) then EX d 113 39 [(0, .inr (.inr a0)), (1, .inl x1), (2, .inl x2), (3, .inl x3), (4, .inl x4)] [] h else EX d 113 145 [(0, .inr (.inr a0))] [] h else none else none := (EX_at bk_Mod_isRight_26 _ _ _).trans rfl
theorem bk_Mod_isRight_39 : blk 113 39 = some (((cd_Mod_isRight.lookup 39).getD ([], 0, []))) := rfl
theorem Mod_isRight_39 (d : Nat) (a0 : Nat) (x1 : Int) (x2 : Int) (x3 : Int) (x4 : Int) (h : Hp) : EX d 113 39 [(0, .inr (.inr a0)), (1, .inl x1), (2, .inl x2), (3, .inl x3), (4, .inl x4)] [] h = if sK h a0 = 11 then if okx h (hR h a0 1) 20 (215 + x4) then if (wr (hI h (hR h a0 1) (ix (215 + x4)))) < 3000 then EX d 113 60 [(0, .inr (.inr a0)), (1, .inl x1), (2, .inl x2), (3, .inl x3), (4, .inl x4), (5, .inl (hI h (hR h a0 1) (ix (215 + x4))))] [] h else EX d 113 80 [(0, .inr (.inr a0)), (1, .inl x1), (2, .inl x2), (3, .inl x3), (4, .inl x4), (5, .inl (hI h (hR h a0 1) (ix (215 + x4))))] [] h else none else none := (EX_at bk_Mod_isRight_39 _ _ _).trans rfl
theorem bk_Mod_isRight_60 : blk 113 60 = some (((cd_Mod_isRight.lookup 60).getD ([], 0, []))) := rfl
theorem Mod_isRight_60 (d : Nat) (a0 : Nat) (x1 : Int) (x2 : Int) (x3 : Int) (x4 : Int) (x5 : Int) (h : Hp) : EX d 113 60 [(0, .inr (.inr a0)), (1, .inl x1), (2, .inl x2), (3, .inl x3), (4, .inl x4), (5, .inl x5)] [] h = if sK h a0 = 11 then if sK h a0 = 11 then bak (EX d 113) 73 [(0, .inr (.inr a0)), (1, .inl x1), (2, .inl x2), (3, .inl x3), (4, .inl x4)] [.inl x3, .inr (.inr (hR h a0 15))] false (cal d 111 [.inr (.inr a0), .inl x5, .inl x1, .inl x2] h) else none else none := (EX_at bk_Mod_isRight_60 _ _ _).trans rfl
theorem bk_Mod_isRight_73 : blk 113 73 = some (((cd_Mod_isRight.lookup 73).getD ([], 0, []))) := rfl
theorem Mod_isRight_73 (d : Nat) (a0 : Nat) (x1 : Int) (x2 : Int) (x3 : Int) (x4 : Int) (r0 : Nat) (s1 : Int) (s2 : Int) (h : Hp) : EX d 113 73 [(0, .inr (.inr a0)), (1, .inl x1), (2, .inl x2), (3, .inl x3), (4, .inl x4)] [.inl s2, .inl s1, .inr (.inr r0)] h = if okx h r0 20 s1 then EX d 113 74 [(0, .inr (.inr a0)), (1, .inl x1), (2, .inl x2), (3, .inl x3), (4, .inl x4)] [] (pI h r0 (ix s1) s2) else none := (EX_at bk_Mod_isRight_73 _ _ _).trans rfl
theorem bk_Mod_isRight_74 : blk 113 74 = some (((cd_Mod_isRight.lookup 74).getD ([], 0, []))) := rfl
theorem Mod_isRight_74 (d : Nat) (a0 : Nat) (x1 : Int) (x2 : Int) (x3 : Int) (x4 : Int) (h : Hp) : EX d 113 74 [(0, .inr (.inr a0)), (1, .inl x1), (2, .inl x2), (3, .inl x3), (4, .inl x4)] [] h = EX d 113 139 [(0, .inr (.inr a0)), (1, .inl x1), (2, .inl x2), (3, .inl (x3 + 1)), (4, .inl x4)] [] h := (EX_at bk_Mod_isRight_74 _ _ _).trans rfl
theorem bk_Mod_isRight_80 : blk 113 80 = some (((cd_Mod_isRight.lookup 80).getD ([], 0, []))) := rfl
theorem Mod_isRight_80 (d : Nat) (a0 : Nat) (x1 : Int) (x2 : Int) (x3 : Int) (x4 : Int) (x5 : Int) (h : Hp) : EX d 113 80 [(0, .inr (.inr a0)), (1, .inl x1), (2, .inl x2), (3, .inl x3), (4, .inl x4), (5, .inl x5)] [] h = if (wr x5) = 3008 then EX d 113 88 [(0, .inr (.inr a0)), (1, .inl x1), (2, .inl x2), (3, .inl x3), (4, .inl x4)] [] h else EX d 113 109 [(0, .inr (.inr a0)), (1, .inl x1), (2, .inl x2), (3, .inl x3), (4, .inl x4), (5, .inl x5)] [] h := (EX_at bk_Mod_isRight_80 _ _ _).trans rfl
theorem bk_Mod_isRight_88 : blk 113 88 = some (((cd_Mod_isRight.lookup 88).getD ([], 0, []))) := rfl
theorem Mod_isRight_88 (d : Nat) (a0 : Nat) (x1 : Int) (x2 : Int) (x3 : Int) (x4 : Int) (h : Hp) : EX d 113 88 [(0, .inr (.inr a0)), (1, .inl x1), (2, .inl x2), (3, .inl x3), (4, .inl x4)] [] h = if sK h a0 = 11 then if sK h a0 = 11 then if okx h (hR h a0 15) 20 (x3 - 1) then if okx h (hR h a0 15) 20 (x3 - 1) then EX d 113 106 [(0, .inr (.inr a0)), (1, .inl x1), (2, .inl x2), (3, .inl x3), (4, .inl x4)] [] (pI h (hR h a0 15) (ix (x3 - 1)) (1 - (hI h (hR h a0 15) (ix (x3 - 1))))) else none else none else none else none := (EX_at bk_Mod_isRight_88 _ _ _).trans rfl
theorem bk_Mod_isRight_106 : blk 113 106 = some (((cd_Mod_isRight.lookup 106).getD ([], 0, []))) := rfl
theorem Mod_isRight_106 (d : Nat) (a0 : Nat) (x1 : Int) (x2 : Int) (x3 : Int) (x4 : Int) (h : Hp) : EX d 113 106 [(0, .inr (.inr a0)), (1, .inl x1), (2, .inl x2), (3, .inl x3), (4, .inl x4)] [] h = EX d 113 139 [(0, .inr (.inr a0)), (1, .inl x1), (2, .inl x2), (3, .inl x3), (4, .inl x4)] [] h := (EX_at bk_Mod_isRight_106 _ _ _).trans rfl
theorem bk_Mod_isRight_109 : blk 113 109 = some (((cd_Mod_isRight.lookup 109).getD ([], 0, []))) := rfl
theorem Mod_isRight_109 (d : Nat) (a0 : Nat) (x1 : Int) (x2 : Int) (x3 : Int) (x4 : Int) (x5 : Int) (h : Hp) : EX d 113 109 [(0, .inr (.inr a0)), (1, .inl x1), (2, .inl x2), (3, .inl x3), (4, .inl x4), (5, .inl x5)] [] h = if sK h a0 = 11 then if sK h a0 = 11 then if okx h (hR h a0 15) 20 ((x3 + (-1)) - 1) then if sK h a0 = 11 then if okx h (hR h a0 15) 20 (x3 + (-1)) then bak (EX d 113) 138 [(0, .inr (.inr a0)), (1, .inl x1), (2, .inl x2), (3, .inl (x3 + (-1))), (4, .inl x4)] [.inl ((x3 + (-1)) - 1), .inr (.inr (hR h a0 15))] false (cal d 112 [.inl x5, .inl (hI h (hR h a0 15) (ix ((x3 + (-1)) - 1))), .inl (hI h (hR h a0 15) (ix (x3 + (-1))))] h) else none else none else none else none else none := (EX_at bk_Mod_isRight_109 _ _ _).trans rfl
theorem bk_Mod_isRight_138 : blk 113 138 = some (((cd_Mod_isRight.lookup 138).getD ([], 0, []))) := rfl
theorem Mod_isRight_138 (d : Nat) (a0 : Nat) (x1 : Int) (x2 : Int) (x3 : Int) (x4 : Int) (r0 : Nat) (s1 : Int) (s2 : Int) (h : Hp) : EX d 113 138 [(0, .inr (.inr a0)), (1, .inl x1), (2, .inl x2), (3, .inl x3), (4, .inl x4)] [.inl s2, .inl s1, .inr (.inr r0)] h = if okx h r0 20 s1 then EX d 113 139 [(0, .inr (.inr a0)), (1, .inl x1), (2, .inl x2), (3, .inl x3), (4, .inl x4)] [] (pI h r0 (ix s1) s2) else none := (EX_at bk_Mod_isRight_138 _ _ _).trans rfl
theorem bk_Mod_isRight_139 : blk 113 139 = some (((cd_Mod_isRight.lookup 139).getD ([], 0, []))) := rfl
theorem Mod_isRight_139 (d : Nat) (a0 : Nat) (x1 : Int) (x2 : Int) (x3 : Int) (x4 : Int) (h : Hp) : EX d 113 139 [(0, .inr (.inr a0)), (1, .inl x1), (2, .inl x2), (3, .inl x3), (4, .inl x4)] [] h = EX d 113 26 [(0, .inr (.inr a0)), (1, .inl x1), (2, .inl x2), (3, .inl x3), (4, .inl (x4 + 1))] [] h := (EX_at bk_Mod_isRight_139 _ _ _).trans rfl
theorem bk_Mod_isRight_145 : blk 113 145 = some (((cd_Mod_isRight.lookup 145).getD ([], 0, []))) := rfl
theorem Mod_isRight_145 (d : Nat) (a0 : Nat) (h : Hp) : EX d 113 145 [(0, .inr (.inr a0))] [] h = if sK h a0 = 11 then if okx h (hR h a0 15) 20 0 then if (wr (hI h (hR h a0 15) 0)) = 1 then EX d 113 155 [] [] h else EX d 113 159 [] [] h else none else none := (EX_at bk_Mod_isRight_145 _ _ _).trans rfl
theorem bk_Mod_isRight_155 : blk 113 155 = some (((cd_Mod_isRight.lookup 155).getD ([], 0, []))) := rfl
theorem Mod_isRight_155 (d : Nat) (h : Hp) : EX d 113 155 [] [] h = EX d 113 160 [] [.inl 1] h := (EX_at bk_Mod_isRight_155 _ _ _).trans rfl
theorem bk_Mod_isRight_159 : blk 113 159 = some (((cd_Mod_isRight.lookup 159).getD ([], 0, []))) := rfl
theorem Mod_isRight_159 (d : Nat) (h : Hp) : EX d 113 159 [] [] h = EX d 113 160 [] [.inl 0] h := (EX_at bk_Mod_isRight_159 _ _ _).trans rfl
theorem bk_Mod_isRight_160 : blk 113 160 = some (((cd_Mod_isRight.lookup 160).getD ([], 0, []))) := rfl
theorem Mod_isRight_160 (d : Nat) (s0 : Int) (h : Hp) : EX d 113 160 [] [.inl s0] h = if ((s0 : Int) = 0 ∨ (s0 : Int) = 1) then some (.inl s0, h) else none := (EX_at bk_Mod_isRight_160 _ _ _).trans rfl
/-! isRightNow(I)Z of HookOverModel: method 114 -/
theorem bk_Mod_isRightNow_0 : blk 114 0 = some (((cd_Mod_isRightNow.lookup 0).getD ([], 0, []))) := rfl
theorem Mod_isRightNow_0 (d : Nat) (a0 : Nat) (x1 : Int) (h : Hp) : EX d 114 0 [(0, .inr (.inr a0)), (1, .inl x1)] [] h = if sK h a0 = 11 then if okx h (hR h a0 1) 20 (61 + x1) then if (wr (hI h (hR h a0 1) (ix (61 + x1)))) = (-1) then EX d 114 34 [] [] h else EX d 114 13 [(0, .inr (.inr a0)), (1, .inl x1)] [] h else none else none := (EX_at bk_Mod_isRightNow_0 _ _ _).trans rfl
theorem bk_Mod_isRightNow_13 : blk 114 13 = some (((cd_Mod_isRightNow.lookup 13).getD ([], 0, []))) := rfl
theorem Mod_isRightNow_13 (d : Nat) (a0 : Nat) (x1 : Int) (h : Hp) : EX d 114 13 [(0, .inr (.inr a0)), (1, .inl x1)] [] h = if sK h a0 = 11 then if okx h (hR h a0 1) 20 (61 + x1) then if sK h a0 = 11 then bak (EX d 114) 27 [] [] false (cal d 113 [.inr (.inr a0), .inl x1, .inl (hI h (hR h a0 1) (ix (61 + x1)))] h) else none else none else none := (EX_at bk_Mod_isRightNow_13 _ _ _).trans rfl
theorem bk_Mod_isRightNow_27 : blk 114 27 = some (((cd_Mod_isRightNow.lookup 27).getD ([], 0, []))) := rfl
theorem Mod_isRightNow_27 (d : Nat) (s0 : Int) (h : Hp) : EX d 114 27 [] [.inl s0] h = if (wr s0) = 0 then EX d 114 34 [] [] h else EX d 114 30 [] [] h := (EX_at bk_Mod_isRightNow_27 _ _ _).trans rfl
theorem bk_Mod_isRightNow_30 : blk 114 30 = some (((cd_Mod_isRightNow.lookup 30).getD ([], 0, []))) := rfl
theorem Mod_isRightNow_30 (d : Nat) (h : Hp) : EX d 114 30 [] [] h = EX d 114 35 [] [.inl 1] h := (EX_at bk_Mod_isRightNow_30 _ _ _).trans rfl
theorem bk_Mod_isRightNow_34 : blk 114 34 = some (((cd_Mod_isRightNow.lookup 34).getD ([], 0, []))) := rfl
theorem Mod_isRightNow_34 (d : Nat) (h : Hp) : EX d 114 34 [] [] h = EX d 114 35 [] [.inl 0] h := (EX_at bk_Mod_isRightNow_34 _ _ _).trans rfl
theorem bk_Mod_isRightNow_35 : blk 114 35 = some (((cd_Mod_isRightNow.lookup 35).getD ([], 0, []))) := rfl
theorem Mod_isRightNow_35 (d : Nat) (s0 : Int) (h : Hp) : EX d 114 35 [] [.inl s0] h = if ((s0 : Int) = 0 ∨ (s0 : Int) = 1) then some (.inl s0, h) else none := (EX_at bk_Mod_isRightNow_35 _ _ _).trans rfl
/-! hook(II)I of HookOverModel: method 115 -/
theorem bk_Mod_hook_0 : blk 115 0 = some (((cd_Mod_hook.lookup 0).getD ([], 0, []))) := rfl
theorem Mod_hook_0 (d : Nat) (a0 : Nat) (x1 : Int) (x2 : Int) (h : Hp) : EX d 115 0 [(0, .inr (.inr a0)), (1, .inl x1), (2, .inl x2)] [] h = if sK h a0 = 11 then EX d 115 5 [(0, .inr (.inr a0)), (1, .inl x1), (2, .inl x2)] [] (pI h a0 0 0) else none := (EX_at bk_Mod_hook_0 _ _ _).trans rfl
theorem bk_Mod_hook_5 : blk 115 5 = some (((cd_Mod_hook.lookup 5).getD ([], 0, []))) := rfl
theorem Mod_hook_5 (d : Nat) (a0 : Nat) (x1 : Int) (x2 : Int) (h : Hp) : EX d 115 5 [(0, .inr (.inr a0)), (1, .inl x1), (2, .inl x2)] [] h = if sK h a0 = 11 then bak (EX d 115) 10 [(0, .inr (.inr a0)), (1, .inl x1), (2, .inl x2)] [] false (cal d 108 [.inr (.inr a0), .inl x1] h) else none := (EX_at bk_Mod_hook_5 _ _ _).trans rfl
theorem bk_Mod_hook_10 : blk 115 10 = some (((cd_Mod_hook.lookup 10).getD ([], 0, []))) := rfl
theorem Mod_hook_10 (d : Nat) (a0 : Nat) (x1 : Int) (x2 : Int) (s0 : Int) (h : Hp) : EX d 115 10 [(0, .inr (.inr a0)), (1, .inl x1), (2, .inl x2)] [.inl s0] h = if (wr s0) = 0 then EX d 115 13 [] [] h else EX d 115 16 [(0, .inr (.inr a0)), (1, .inl x1), (2, .inl x2)] [] h := (EX_at bk_Mod_hook_10 _ _ _).trans rfl
theorem bk_Mod_hook_13 : blk 115 13 = some (((cd_Mod_hook.lookup 13).getD ([], 0, []))) := rfl
theorem Mod_hook_13 (d : Nat) (h : Hp) : EX d 115 13 [] [] h = some (.inl (-2), h) := (EX_at bk_Mod_hook_13 _ _ _).trans rfl
theorem bk_Mod_hook_16 : blk 115 16 = some (((cd_Mod_hook.lookup 16).getD ([], 0, []))) := rfl
theorem Mod_hook_16 (d : Nat) (a0 : Nat) (x1 : Int) (x2 : Int) (h : Hp) : EX d 115 16 [(0, .inr (.inr a0)), (1, .inl x1), (2, .inl x2)] [] h = if (wr x2) = 0 then EX d 115 52 [(0, .inr (.inr a0)), (1, .inl x1)] [] h else if (wr x2) = 1 then EX d 115 62 [(0, .inr (.inr a0)), (1, .inl x1)] [] h else if (wr x2) = 2 then EX d 115 72 [(0, .inr (.inr a0)), (1, .inl x1)] [] h else if (wr x2) = 3 then EX d 115 98 [(0, .inr (.inr a0)), (1, .inl x1)] [] h else if (wr x2) = 4 then EX d 115 104 [(0, .inr (.inr a0)), (1, .inl x1)] [] h else EX d 115 118 [(0, .inr (.inr a0)), (1, .inl x1)] [] h := (EX_at bk_Mod_hook_16 _ _ _).trans rfl
theorem bk_Mod_hook_52 : blk 115 52 = some (((cd_Mod_hook.lookup 52).getD ([], 0, []))) := rfl
theorem Mod_hook_52 (d : Nat) (a0 : Nat) (x1 : Int) (h : Hp) : EX d 115 52 [(0, .inr (.inr a0)), (1, .inl x1)] [] h = if sK h a0 = 11 then if okx h (hR h a0 1) 20 (61 + x1) then some (.inl (hI h (hR h a0 1) (ix (61 + x1))), h) else none else none := (EX_at bk_Mod_hook_52 _ _ _).trans rfl
theorem bk_Mod_hook_62 : blk 115 62 = some (((cd_Mod_hook.lookup 62).getD ([], 0, []))) := rfl
theorem Mod_hook_62 (d : Nat) (a0 : Nat) (x1 : Int) (h : Hp) : EX d 115 62 [(0, .inr (.inr a0)), (1, .inl x1)] [] h = if sK h a0 = 11 then if okx h (hR h a0 1) 20 (35 + x1) then some (.inl (hI h (hR h a0 1) (ix (35 + x1))), h) else none else none := (EX_at bk_Mod_hook_62 _ _ _).trans rfl
theorem bk_Mod_hook_72 : blk 115 72 = some (((cd_Mod_hook.lookup 72).getD ([], 0, []))) := rfl
theorem Mod_hook_72 (d : Nat) (a0 : Nat) (x1 : Int) (h : Hp) : EX d 115 72 [(0, .inr (.inr a0)), (1, .inl x1)] [] h = if sK h a0 = 11 then if okx h (hR h a0 1) 20 1 then if (wr x1) = (wr ((hI h (hR h a0 1) 1) - 1)) then EX d 115 84 [] [] h else EX d 115 88 [(0, .inr (.inr a0)), (1, .inl x1)] [] h else none else none := (EX_at bk_Mod_hook_72 _ _ _).trans rfl
theorem bk_Mod_hook_84 : blk 115 84 = some (((cd_Mod_hook.lookup 84).getD ([], 0, []))) := rfl
theorem Mod_hook_84 (d : Nat) (h : Hp) : EX d 115 84 [] [] h = EX d 115 97 [] [.inl (-1)] h := (EX_at bk_Mod_hook_84 _ _ _).trans rfl
theorem bk_Mod_hook_88 : blk 115 88 = some (((cd_Mod_hook.lookup 88).getD ([], 0, []))) := rfl
theorem Mod_hook_88 (d : Nat) (a0 : Nat) (x1 : Int) (h : Hp) : EX d 115 88 [(0, .inr (.inr a0)), (1, .inl x1)] [] h = if sK h a0 = 11 then if okx h (hR h a0 1) 20 (11 + x1) then EX d 115 97 [] [.inl (hI h (hR h a0 1) (ix (11 + x1)))] h else none else none := (EX_at bk_Mod_hook_88 _ _ _).trans rfl
theorem bk_Mod_hook_97 : blk 115 97 = some (((cd_Mod_hook.lookup 97).getD ([], 0, []))) := rfl
theorem Mod_hook_97 (d : Nat) (s0 : Int) (h : Hp) : EX d 115 97 [] [.inl s0] h = some (.inl s0, h) := (EX_at bk_Mod_hook_97 _ _ _).trans rfl
theorem bk_Mod_hook_98 : blk 115 98 = some (((cd_Mod_hook.lookup 98).getD ([], 0, []))) := rfl
theorem Mod_hook_98 (d : Nat) (a0 : Nat) (x1 : Int) (h : Hp) : EX d 115 98 [(0, .inr (.inr a0)), (1, .inl x1)] [] h = if sK h a0 = 11 then bak (EX d 115) 103 [] [] false (cal d 110 [.inr (.inr a0), .inl x1] h) else none := (EX_at bk_Mod_hook_98 _ _ _).trans rfl
theorem bk_Mod_hook_103 : blk 115 103 = some (((cd_Mod_hook.lookup 103).getD ([], 0, []))) := rfl
theorem Mod_hook_103 (d : Nat) (s0 : Int) (h : Hp) : EX d 115 103 [] [.inl s0] h = some (.inl s0, h) := (EX_at bk_Mod_hook_103 _ _ _).trans rfl
theorem bk_Mod_hook_104 : blk 115 104 = some (((cd_Mod_hook.lookup 104).getD ([], 0, []))) := rfl
theorem Mod_hook_104 (d : Nat) (a0 : Nat) (x1 : Int) (h : Hp) : EX d 115 104 [(0, .inr (.inr a0)), (1, .inl x1)] [] h = if sK h a0 = 11 then bak (EX d 115) 109 [] [] false (cal d 114 [.inr (.inr a0), .inl x1] h) else none := (EX_at bk_Mod_hook_104 _ _ _).trans rfl
theorem bk_Mod_hook_109 : blk 115 109 = some (((cd_Mod_hook.lookup 109).getD ([], 0, []))) := rfl
theorem Mod_hook_109 (d : Nat) (s0 : Int) (h : Hp) : EX d 115 109 [] [.inl s0] h = if (wr s0) = 0 then EX d 115 116 [] [] h else EX d 115 112 [] [] h := (EX_at bk_Mod_hook_109 _ _ _).trans rfl
theorem bk_Mod_hook_112 : blk 115 112 = some (((cd_Mod_hook.lookup 112).getD ([], 0, []))) := rfl
theorem Mod_hook_112 (d : Nat) (h : Hp) : EX d 115 112 [] [] h = EX d 115 117 [] [.inl 1] h := (EX_at bk_Mod_hook_112 _ _ _).trans rfl
theorem bk_Mod_hook_116 : blk 115 116 = some (((cd_Mod_hook.lookup 116).getD ([], 0, []))) := rfl
theorem Mod_hook_116 (d : Nat) (h : Hp) : EX d 115 116 [] [] h = EX d 115 117 [] [.inl 0] h := (EX_at bk_Mod_hook_116 _ _ _).trans rfl
theorem bk_Mod_hook_117 : blk 115 117 = some (((cd_Mod_hook.lookup 117).getD ([], 0, []))) := rfl
theorem Mod_hook_117 (d : Nat) (s0 : Int) (h : Hp) : EX d 115 117 [] [.inl s0] h = some (.inl s0, h) := (EX_at bk_Mod_hook_117 _ _ _).trans rfl
theorem bk_Mod_hook_118 : blk 115 118 = some (((cd_Mod_hook.lookup 118).getD ([], 0, []))) := rfl
theorem Mod_hook_118 (d : Nat) (a0 : Nat) (x1 : Int) (h : Hp) : EX d 115 118 [(0, .inr (.inr a0)), (1, .inl x1)] [] h = some (.inl (-2), h) := (EX_at bk_Mod_hook_118 _ _ _).trans rfl
/-! isRing(J)Z of HookOverModel: method 117 -/
theorem bk_Mod_isRing_0 : blk 117 0 = some (((cd_Mod_isRing.lookup 0).getD ([], 0, []))) := rfl
theorem Mod_isRing_0 (d : Nat) (a0 : Nat) (y1 : Int) (h : Hp) : EX d 117 0 [(0, .inr (.inr a0)), (1, .inr (.inl y1))] [] h = if sK h a0 = 11 then if okx h (hR h a0 1) 20 2 then bak (EX d 117) 14 [] [] false (cal d 71 [.inr (.inl y1), .inr (.inl 0), .inr (.inl (wr ((hI h (hR h a0 1) 2) - 1)))] h) else none else none := (EX_at bk_Mod_isRing_0 _ _ _).trans rfl
theorem bk_Mod_isRing_14 : blk 117 14 = some (((cd_Mod_isRing.lookup 14).getD ([], 0, []))) := rfl
theorem Mod_isRing_14 (d : Nat) (s0 : Int) (h : Hp) : EX d 117 14 [] [.inl s0] h = if ((s0 : Int) = 0 ∨ (s0 : Int) = 1) then some (.inl s0, h) else none := (EX_at bk_Mod_isRing_14 _ _ _).trans rfl
/-! ring(II)I of HookOverModel: method 118 -/
theorem bk_Mod_ring_0 : blk 118 0 = some (((cd_Mod_ring.lookup 0).getD ([], 0, []))) := rfl
theorem Mod_ring_0 (d : Nat) (a0 : Nat) (x1 : Int) (x2 : Int) (h : Hp) : EX d 118 0 [(0, .inr (.inr a0)), (1, .inl x1), (2, .inl x2)] [] h = if sK h a0 = 11 then EX d 118 5 [(0, .inr (.inr a0)), (1, .inl x1), (2, .inl x2)] [] (pI h a0 0 0) else none := (EX_at bk_Mod_ring_0 _ _ _).trans rfl
theorem bk_Mod_ring_5 : blk 118 5 = some (((cd_Mod_ring.lookup 5).getD ([], 0, []))) := rfl
theorem Mod_ring_5 (d : Nat) (a0 : Nat) (x1 : Int) (x2 : Int) (h : Hp) : EX d 118 5 [(0, .inr (.inr a0)), (1, .inl x1), (2, .inl x2)] [] h = if sK h a0 = 11 then bak (EX d 118) 11 [(0, .inr (.inr a0)), (1, .inl x1), (2, .inl x2)] [] false (cal d 117 [.inr (.inr a0), .inr (.inl (wr x1))] h) else none := (EX_at bk_Mod_ring_5 _ _ _).trans rfl
theorem bk_Mod_ring_11 : blk 118 11 = some (((cd_Mod_ring.lookup 11).getD ([], 0, []))) := rfl
theorem Mod_ring_11 (d : Nat) (a0 : Nat) (x1 : Int) (x2 : Int) (s0 : Int) (h : Hp) : EX d 118 11 [(0, .inr (.inr a0)), (1, .inl x1), (2, .inl x2)] [.inl s0] h = if (wr s0) = 0 then EX d 118 14 [] [] h else EX d 118 17 [(0, .inr (.inr a0)), (1, .inl x1), (2, .inl x2)] [] h := (EX_at bk_Mod_ring_11 _ _ _).trans rfl
theorem bk_Mod_ring_14 : blk 118 14 = some (((cd_Mod_ring.lookup 14).getD ([], 0, []))) := rfl
theorem Mod_ring_14 (d : Nat) (h : Hp) : EX d 118 14 [] [] h = some (.inl (-2), h) := (EX_at bk_Mod_ring_14 _ _ _).trans rfl
theorem bk_Mod_ring_17 : blk 118 17 = some (((cd_Mod_ring.lookup 17).getD ([], 0, []))) := rfl
theorem Mod_ring_17 (d : Nat) (a0 : Nat) (x1 : Int) (x2 : Int) (h : Hp) : EX d 118 17 [(0, .inr (.inr a0)), (1, .inl x1), (2, .inl x2)] [] h = if (wr x2) = 0 then EX d 118 48 [(0, .inr (.inr a0)), (1, .inl x1)] [] h else if (wr x2) = 1 then EX d 118 57 [(0, .inr (.inr a0)), (1, .inl x1)] [] h else if (wr x2) = 2 then EX d 118 67 [(0, .inr (.inr a0)), (1, .inl x1)] [] h else if (wr x2) = 3 then EX d 118 93 [(0, .inr (.inr a0)), (1, .inl x1)] [] h else EX d 118 114 [(0, .inr (.inr a0)), (1, .inl x1)] [] h := (EX_at bk_Mod_ring_17 _ _ _).trans rfl
theorem bk_Mod_ring_48 : blk 118 48 = some (((cd_Mod_ring.lookup 48).getD ([], 0, []))) := rfl
theorem Mod_ring_48 (d : Nat) (a0 : Nat) (x1 : Int) (h : Hp) : EX d 118 48 [(0, .inr (.inr a0)), (1, .inl x1)] [] h = if sK h a0 = 11 then bak (EX d 118) 56 [] [] false (cal d 95 [.inr (.inr (hR h a0 1)), .inl x1] h) else none := (EX_at bk_Mod_ring_48 _ _ _).trans rfl
theorem bk_Mod_ring_56 : blk 118 56 = some (((cd_Mod_ring.lookup 56).getD ([], 0, []))) := rfl
theorem Mod_ring_56 (d : Nat) (s0 : Int) (h : Hp) : EX d 118 56 [] [.inl s0] h = some (.inl s0, h) := (EX_at bk_Mod_ring_56 _ _ _).trans rfl
theorem bk_Mod_ring_57 : blk 118 57 = some (((cd_Mod_ring.lookup 57).getD ([], 0, []))) := rfl
theorem Mod_ring_57 (d : Nat) (a0 : Nat) (x1 : Int) (h : Hp) : EX d 118 57 [(0, .inr (.inr a0)), (1, .inl x1)] [] h = if sK h a0 = 11 then if okx h (hR h a0 1) 20 (47 + x1) then some (.inl (hI h (hR h a0 1) (ix (47 + x1))), h) else none else none := (EX_at bk_Mod_ring_57 _ _ _).trans rfl
theorem bk_Mod_ring_67 : blk 118 67 = some (((cd_Mod_ring.lookup 67).getD ([], 0, []))) := rfl
theorem Mod_ring_67 (d : Nat) (a0 : Nat) (x1 : Int) (h : Hp) : EX d 118 67 [(0, .inr (.inr a0)), (1, .inl x1)] [] h = if sK h a0 = 11 then if okx h (hR h a0 1) 20 2 then if (wr x1) = (wr ((hI h (hR h a0 1) 2) - 1)) then EX d 118 79 [] [] h else EX d 118 83 [(0, .inr (.inr a0)), (1, .inl x1)] [] h else none else none := (EX_at bk_Mod_ring_67 _ _ _).trans rfl
theorem bk_Mod_ring_79 : blk 118 79 = some (((cd_Mod_ring.lookup 79).getD ([], 0, []))) := rfl
theorem Mod_ring_79 (d : Nat) (h : Hp) : EX d 118 79 [] [] h = EX d 118 92 [] [.inl (-1)] h := (EX_at bk_Mod_ring_79 _ _ _).trans rfl
theorem bk_Mod_ring_83 : blk 118 83 = some (((cd_Mod_ring.lookup 83).getD ([], 0, []))) := rfl
theorem Mod_ring_83 (d : Nat) (a0 : Nat) (x1 : Int) (h : Hp) : EX d 118 83 [(0, .inr (.inr a0)), (1, .inl x1)] [] h = if sK h a0 = 11 then if okx h (hR h a0 1) 20 (23 + x1) then EX d 118 92 [] [.inl (hI h (hR h a0 1) (ix (23 + x1)))] h else none else none := (EX_at bk_Mod_ring_83 _ _ _).trans rfl
theorem bk_Mod_ring_92 : blk 118 92 = some (((cd_Mod_ring.lookup 92).getD ([], 0, []))) := rfl
theorem Mod_ring_92 (d : Nat) (s0 : Int) (h : Hp) : EX d 118 92 [] [.inl s0] h = some (.inl s0, h) := (EX_at bk_Mod_ring_92 _ _ _).trans rfl
theorem bk_Mod_ring_93 : blk 118 93 = some (((cd_Mod_ring.lookup 93).getD ([], 0, []))) := rfl
theorem Mod_ring_93 (d : Nat) (a0 : Nat) (x1 : Int) (h : Hp) : EX d 118 93 [(0, .inr (.inr a0)), (1, .inl x1)] [] h = if sK h a0 = 11 then if okx h (hR h a0 1) 20 10 then bak (EX d 118) 105 [] [] false (cal d 96 [.inr (.inl (wr (hI h (hR h a0 1) 10))), .inl x1] h) else none else none := (EX_at bk_Mod_ring_93 _ _ _).trans rfl
theorem bk_Mod_ring_105 : blk 118 105 = some (((cd_Mod_ring.lookup 105).getD ([], 0, []))) := rfl
theorem Mod_ring_105 (d : Nat) (s0 : Int) (h : Hp) : EX d 118 105 [] [.inl s0] h = if (wr s0) = 0 then EX d 118 112 [] [] h else EX d 118 108 [] [] h := (EX_at bk_Mod_ring_105 _ _ _).trans rfl
theorem bk_Mod_ring_108 : blk 118 108 = some (((cd_Mod_ring.lookup 108).getD ([], 0, []))) := rfl
theorem Mod_ring_108 (d : Nat) (h : Hp) : EX d 118 108 [] [] h = EX d 118 113 [] [.inl 1] h := (EX_at bk_Mod_ring_108 _ _ _).trans rfl
theorem bk_Mod_ring_112 : blk 118 112 = some (((cd_Mod_ring.lookup 112).getD ([], 0, []))) := rfl
theorem Mod_ring_112 (d : Nat) (h : Hp) : EX d 118 112 [] [] h = EX d 118 113 [] [.inl 0] h := (EX_at bk_Mod_ring_112 _ _ _).trans rfl
theorem bk_Mod_ring_113 : blk 118 113 = some (((cd_Mod_ring.lookup 113).getD ([], 0, []))) := rfl
theorem Mod_ring_113 (d : Nat) (s0 : Int) (h : Hp) : EX d 118 113 [] [.inl s0] h = some (.inl s0, h) := (EX_at bk_Mod_ring_113 _ _ _).trans rfl
theorem bk_Mod_ring_114 : blk 118 114 = some (((cd_Mod_ring.lookup 114).getD ([], 0, []))) := rfl
theorem Mod_ring_114 (d : Nat) (a0 : Nat) (x1 : Int) (h : Hp) : EX d 118 114 [(0, .inr (.inr a0)), (1, .inl x1)] [] h = some (.inl (-2), h) := (EX_at bk_Mod_ring_114 _ _ _).trans rfl
/-! belongs(II)I of HookOverModel: method 120 -/
theorem bk_Mod_belongs_0 : blk 120 0 = some (((cd_Mod_belongs.lookup 0).getD ([], 0, []))) := rfl
theorem Mod_belongs_0 (d : Nat) (a0 : Nat) (x1 : Int) (x2 : Int) (h : Hp) : EX d 120 0 [(0, .inr (.inr a0)), (1, .inl x1), (2, .inl x2)] [] h = if sK h a0 = 11 then EX d 120 5 [(0, .inr (.inr a0)), (1, .inl x1), (2, .inl x2)] [] (pI h a0 0 0) else none := (EX_at bk_Mod_belongs_0 _ _ _).trans rfl
theorem bk_Mod_belongs_5 : blk 120 5 = some (((cd_Mod_belongs.lookup 5).getD ([], 0, []))) := rfl
theorem Mod_belongs_5 (d : Nat) (a0 : Nat) (x1 : Int) (x2 : Int) (h : Hp) : EX d 120 5 [(0, .inr (.inr a0)), (1, .inl x1), (2, .inl x2)] [] h = if sK h a0 = 11 then bak (EX d 120) 10 [(0, .inr (.inr a0)), (1, .inl x1), (2, .inl x2)] [] false (cal d 108 [.inr (.inr a0), .inl x1] h) else none := (EX_at bk_Mod_belongs_5 _ _ _).trans rfl
theorem bk_Mod_belongs_10 : blk 120 10 = some (((cd_Mod_belongs.lookup 10).getD ([], 0, []))) := rfl
theorem Mod_belongs_10 (d : Nat) (a0 : Nat) (x1 : Int) (x2 : Int) (s0 : Int) (h : Hp) : EX d 120 10 [(0, .inr (.inr a0)), (1, .inl x1), (2, .inl x2)] [.inl s0] h = if (wr s0) = 0 then EX d 120 22 [] [] h else EX d 120 13 [(0, .inr (.inr a0)), (1, .inl x1), (2, .inl x2)] [] h := (EX_at bk_Mod_belongs_10 _ _ _).trans rfl
theorem bk_Mod_belongs_13 : blk 120 13 = some (((cd_Mod_belongs.lookup 13).getD ([], 0, []))) := rfl
theorem Mod_belongs_13 (d : Nat) (a0 : Nat) (x1 : Int) (x2 : Int) (h : Hp) : EX d 120 13 [(0, .inr (.inr a0)), (1, .inl x1), (2, .inl x2)] [] h = if sK h a0 = 11 then bak (EX d 120) 19 [(0, .inr (.inr a0)), (1, .inl x1), (2, .inl x2)] [] false (cal d 117 [.inr (.inr a0), .inr (.inl (wr x2))] h) else none := (EX_at bk_Mod_belongs_13 _ _ _).trans rfl
theorem bk_Mod_belongs_19 : blk 120 19 = some (((cd_Mod_belongs.lookup 19).getD ([], 0, []))) := rfl
theorem Mod_belongs_19 (d : Nat) (a0 : Nat) (x1 : Int) (x2 : Int) (s0 : Int) (h : Hp) : EX d 120 19 [(0, .inr (.inr a0)), (1, .inl x1), (2, .inl x2)] [.inl s0] h = if (wr s0) = 0 then EX d 120 22 [] [] h else EX d 120 25 [(0, .inr (.inr a0)), (1, .inl x1), (2, .inl x2)] [] h := (EX_at bk_Mod_belongs_19 _ _ _).trans rfl
theorem bk_Mod_belongs_22 : blk 120 22 = some (((cd_Mod_belongs.lookup 22).getD ([], 0, []))) := rfl
theorem Mod_belongs_22 (d : Nat) (h : Hp) : EX d 120 22 [] [] h = some (.inl (-2), h) := (EX_at bk_Mod_belongs_22 _ _ _).trans rfl
theorem bk_Mod_belongs_25 : blk 120 25 = some (((cd_Mod_belongs.lookup 25).getD ([], 0, []))) := rfl
theorem Mod_belongs_25 (d : Nat) (a0 : Nat) (x1 : Int) (x2 : Int) (h : Hp) : EX d 120 25 [(0, .inr (.inr a0)), (1, .inl x1), (2, .inl x2)] [] h = if sK h a0 = 11 then bak (EX d 120) 31 [] [] false (cal d 113 [.inr (.inr a0), .inl x1, .inl x2] h) else none := (EX_at bk_Mod_belongs_25 _ _ _).trans rfl
theorem bk_Mod_belongs_31 : blk 120 31 = some (((cd_Mod_belongs.lookup 31).getD ([], 0, []))) := rfl
theorem Mod_belongs_31 (d : Nat) (s0 : Int) (h : Hp) : EX d 120 31 [] [.inl s0] h = if (wr s0) = 0 then EX d 120 38 [] [] h else EX d 120 34 [] [] h := (EX_at bk_Mod_belongs_31 _ _ _).trans rfl
theorem bk_Mod_belongs_34 : blk 120 34 = some (((cd_Mod_belongs.lookup 34).getD ([], 0, []))) := rfl
theorem Mod_belongs_34 (d : Nat) (h : Hp) : EX d 120 34 [] [] h = EX d 120 39 [] [.inl 1] h := (EX_at bk_Mod_belongs_34 _ _ _).trans rfl
theorem bk_Mod_belongs_38 : blk 120 38 = some (((cd_Mod_belongs.lookup 38).getD ([], 0, []))) := rfl
theorem Mod_belongs_38 (d : Nat) (h : Hp) : EX d 120 38 [] [] h = EX d 120 39 [] [.inl 0] h := (EX_at bk_Mod_belongs_38 _ _ _).trans rfl
theorem bk_Mod_belongs_39 : blk 120 39 = some (((cd_Mod_belongs.lookup 39).getD ([], 0, []))) := rfl
theorem Mod_belongs_39 (d : Nat) (s0 : Int) (h : Hp) : EX d 120 39 [] [.inl s0] h = some (.inl s0, h) := (EX_at bk_Mod_belongs_39 _ _ _).trans rfl
/-! joinedMany()I of HookOverModel: method 126 -/
theorem bk_Mod_joinedMany_0 : blk 126 0 = some (((cd_Mod_joinedMany.lookup 0).getD ([], 0, []))) := rfl
theorem Mod_joinedMany_0 (d : Nat) (a0 : Nat) (h : Hp) : EX d 126 0 [(0, .inr (.inr a0))] [] h = EX d 126 4 [(0, .inr (.inr a0)), (1, .inl 0), (2, .inl 0)] [] h := (EX_at bk_Mod_joinedMany_0 _ _ _).trans rfl
theorem bk_Mod_joinedMany_4 : blk 126 4 = some (((cd_Mod_joinedMany.lookup 4).getD ([], 0, []))) := rfl
theorem Mod_joinedMany_4 (d : Nat) (a0 : Nat) (x1 : Int) (x2 : Int) (h : Hp) : EX d 126 4 [(0, .inr (.inr a0)), (1, .inl x1), (2, .inl x2)] [] h = if sK h a0 = 11 then if okx h (hR h a0 1) 20 1 then if (wr x2) < (wr (hI h (hR h a0 1) 1)) then EX d 126 14 [(0, .inr (.inr a0)), (1, .inl x1), (2, .inl x2)] [] h else EX d 126 41 [(1, .inl x1)] [] h else none else none := (EX_at bk_Mod_joinedMany_4 _ _ _).trans rfl
theorem bk_Mod_joinedMany_14 : blk 126 14 = some (((cd_Mod_joinedMany.lookup 14).getD ([], 0, []))) := rfl
theorem Mod_joinedMany_14 (d : Nat) (a0 : Nat) (x1 : Int) (x2 : Int) (h : Hp) : EX d 126 14 [(0, .inr (.inr a0)), (1, .inl x1), (2, .inl x2)] [] h = if sK h a0 = 11 then if okx h (hR h a0 1) 20 (61 + x2) then if (wr (hI h (hR h a0 1) (ix (61 + x2)))) = (-1) then EX d 126 28 [(0, .inr (.inr a0)), (2, .inl x2)] [.inl x1] h else EX d 126 32 [(0, .inr (.inr a0)), (2, .inl x2)] [.inl x1] h else none else none := (EX_at bk_Mod_joinedMany_14 _ _ _).trans rfl
theorem bk_Mod_joinedMany_28 : blk 126 28 = some (((cd_Mod_joinedMany.lookup 28).getD ([], 0, []))) := rfl
theorem Mod_joinedMany_28 (d : Nat) (a0 : Nat) (x2 : Int) (s0 : Int) (h : Hp) : EX d 126 28 [(0, .inr (.inr a0)), (2, .inl x2)] [.inl s0] h = EX d 126 33 [(0, .inr (.inr a0)), (2, .inl x2)] [.inl 0, .inl s0] h := (EX_at bk_Mod_joinedMany_28 _ _ _).trans rfl
theorem bk_Mod_joinedMany_32 : blk 126 32 = some (((cd_Mod_joinedMany.lookup 32).getD ([], 0, []))) := rfl
theorem Mod_joinedMany_32 (d : Nat) (a0 : Nat) (x2 : Int) (s0 : Int) (h : Hp) : EX d 126 32 [(0, .inr (.inr a0)), (2, .inl x2)] [.inl s0] h = EX d 126 33 [(0, .inr (.inr a0)), (2, .inl x2)] [.inl 1, .inl s0] h := (EX_at bk_Mod_joinedMany_32 _ _ _).trans rfl
theorem bk_Mod_joinedMany_33 : blk 126 33 = some (((cd_Mod_joinedMany.lookup 33).getD ([], 0, []))) := rfl
theorem Mod_joinedMany_33 (d : Nat) (a0 : Nat) (x2 : Int) (s0 : Int) (s1 : Int) (h : Hp) : EX d 126 33 [(0, .inr (.inr a0)), (2, .inl x2)] [.inl s1, .inl s0] h = EX d 126 4 [(0, .inr (.inr a0)), (1, .inl (s0 + s1)), (2, .inl (x2 + 1))] [] h := (EX_at bk_Mod_joinedMany_33 _ _ _).trans rfl
theorem bk_Mod_joinedMany_41 : blk 126 41 = some (((cd_Mod_joinedMany.lookup 41).getD ([], 0, []))) := rfl
theorem Mod_joinedMany_41 (d : Nat) (x1 : Int) (h : Hp) : EX d 126 41 [(1, .inl x1)] [] h = some (.inl x1, h) := (EX_at bk_Mod_joinedMany_41 _ _ _).trans rfl
/-! sags(I)I of HookOverModel: method 127 -/
theorem bk_Mod_sags_0 : blk 127 0 = some (((cd_Mod_sags.lookup 0).getD ([], 0, []))) := rfl
theorem Mod_sags_0 (d : Nat) (a0 : Nat) (x1 : Int) (h : Hp) : EX d 127 0 [(0, .inr (.inr a0)), (1, .inl x1)] [] h = if sK h a0 = 11 then EX d 127 5 [(0, .inr (.inr a0)), (1, .inl x1)] [] (pI h a0 0 0) else none := (EX_at bk_Mod_sags_0 _ _ _).trans rfl
theorem bk_Mod_sags_5 : blk 127 5 = some (((cd_Mod_sags.lookup 5).getD ([], 0, []))) := rfl
theorem Mod_sags_5 (d : Nat) (a0 : Nat) (x1 : Int) (h : Hp) : EX d 127 5 [(0, .inr (.inr a0)), (1, .inl x1)] [] h = bak (EX d 127) 14 [(0, .inr (.inr a0)), (1, .inl x1)] [] false (cal d 71 [.inr (.inl (wr x1)), .inr (.inl 0), .inr (.inl 4)] h) := (EX_at bk_Mod_sags_5 _ _ _).trans rfl
theorem bk_Mod_sags_14 : blk 127 14 = some (((cd_Mod_sags.lookup 14).getD ([], 0, []))) := rfl
theorem Mod_sags_14 (d : Nat) (a0 : Nat) (x1 : Int) (s0 : Int) (h : Hp) : EX d 127 14 [(0, .inr (.inr a0)), (1, .inl x1)] [.inl s0] h = if (wr s0) = 0 then EX d 127 17 [] [] h else EX d 127 20 [(0, .inr (.inr a0)), (1, .inl x1)] [] h := (EX_at bk_Mod_sags_14 _ _ _).trans rfl
theorem bk_Mod_sags_17 : blk 127 17 = some (((cd_Mod_sags.lookup 17).getD ([], 0, []))) := rfl
theorem Mod_sags_17 (d : Nat) (h : Hp) : EX d 127 17 [] [] h = some (.inl (-2), h) := (EX_at bk_Mod_sags_17 _ _ _).trans rfl
theorem bk_Mod_sags_20 : blk 127 20 = some (((cd_Mod_sags.lookup 20).getD ([], 0, []))) := rfl
theorem Mod_sags_20 (d : Nat) (a0 : Nat) (x1 : Int) (h : Hp) : EX d 127 20 [(0, .inr (.inr a0)), (1, .inl x1)] [] h = if (wr x1) = 0 then EX d 127 24 [(0, .inr (.inr a0))] [] h else EX d 127 29 [(0, .inr (.inr a0)), (1, .inl x1)] [] h := (EX_at bk_Mod_sags_20 _ _ _).trans rfl
theorem bk_Mod_sags_24 : blk 127 24 = some (((cd_Mod_sags.lookup 24).getD ([], 0, []))) := rfl
theorem Mod_sags_24 (d : Nat) (a0 : Nat) (h : Hp) : EX d 127 24 [(0, .inr (.inr a0))] [] h = if sK h a0 = 11 then bak (EX d 127) 28 [] [] false (cal d 126 [.inr (.inr a0)] h) else none := (EX_at bk_Mod_sags_24 _ _ _).trans rfl
theorem bk_Mod_sags_28 : blk 127 28 = some (((cd_Mod_sags.lookup 28).getD ([], 0, []))) := rfl
theorem Mod_sags_28 (d : Nat) (s0 : Int) (h : Hp) : EX d 127 28 [] [.inl s0] h = some (.inl s0, h) := (EX_at bk_Mod_sags_28 _ _ _).trans rfl
theorem bk_Mod_sags_29 : blk 127 29 = some (((cd_Mod_sags.lookup 29).getD ([], 0, []))) := rfl
theorem Mod_sags_29 (d : Nat) (a0 : Nat) (x1 : Int) (h : Hp) : EX d 127 29 [(0, .inr (.inr a0)), (1, .inl x1)] [] h = EX d 127 33 [(0, .inr (.inr a0)), (1, .inl x1), (2, .inl 0), (3, .inl 0)] [] h := (EX_at bk_Mod_sags_29 _ _ _).trans rfl
theorem bk_Mod_sags_33 : blk 127 33 = some (((cd_Mod_sags.lookup 33).getD ([], 0, []))) := rfl
theorem Mod_sags_33 (d : Nat) (a0 : Nat) (x1 : Int) (x2 : Int) (x3 : Int) (h : Hp) : EX d 127 33 [(0, .inr (.inr a0)), (1, .inl x1), (2, .inl x2), (3, .inl x3)] [] h = if sK h a0 = 11 then if okx h (hR h a0 1) 20 1 then if (wr x3) < (wr (hI h (hR h a0 1) 1)) then EX d 127 43 [(0, .inr (.inr a0)), (1, .inl x1), (2, .inl x2), (3, .inl x3)] [] h else EX d 127 124 [(2, .inl x2)] [] h else none else none := (EX_at bk_Mod_sags_33 _ _ _).trans rfl
theorem bk_Mod_sags_43 : blk 127 43 = some (((cd_Mod_sags.lookup 43).getD ([], 0, []))) := rfl
theorem Mod_sags_43 (d : Nat) (a0 : Nat) (x1 : Int) (x2 : Int) (x3 : Int) (h : Hp) : EX d 127 43 [(0, .inr (.inr a0)), (1, .inl x1), (2, .inl x2), (3, .inl x3)] [] h = if sK h a0 = 11 then bak (EX d 127) 48 [(0, .inr (.inr a0)), (1, .inl x1), (2, .inl x2), (3, .inl x3)] [] false (cal d 110 [.inr (.inr a0), .inl x3] h) else none := (EX_at bk_Mod_sags_43 _ _ _).trans rfl
theorem bk_Mod_sags_48 : blk 127 48 = some (((cd_Mod_sags.lookup 48).getD ([], 0, []))) := rfl
theorem Mod_sags_48 (d : Nat) (a0 : Nat) (x1 : Int) (x2 : Int) (x3 : Int) (s0 : Int) (h : Hp) : EX d 127 48 [(0, .inr (.inr a0)), (1, .inl x1), (2, .inl x2), (3, .inl x3)] [.inl s0] h = if (wr x1) = 1 then EX d 127 55 [(0, .inr (.inr a0)), (1, .inl x1), (2, .inl x2), (3, .inl x3)] [] h else EX d 127 74 [(0, .inr (.inr a0)), (1, .inl x1), (2, .inl x2), (3, .inl x3), (4, .inl s0)] [] h := (EX_at bk_Mod_sags_48 _ _ _).trans rfl
theorem bk_Mod_sags_55 : blk 127 55 = some (((cd_Mod_sags.lookup 55).getD ([], 0, []))) := rfl
theorem Mod_sags_55 (d : Nat) (a0 : Nat) (x1 : Int) (x2 : Int) (x3 : Int) (h : Hp) : EX d 127 55 [(0, .inr (.inr a0)), (1, .inl x1), (2, .inl x2), (3, .inl x3)] [] h = if sK h a0 = 11 then bak (EX d 127) 61 [(0, .inr (.inr a0)), (1, .inl x1), (3, .inl x3)] [.inl x2] false (cal d 114 [.inr (.inr a0), .inl x3] h) else none := (EX_at bk_Mod_sags_55 _ _ _).trans rfl
theorem bk_Mod_sags_61 : blk 127 61 = some (((cd_Mod_sags.lookup 61).getD ([], 0, []))) := rfl
theorem Mod_sags_61 (d : Nat) (a0 : Nat) (x1 : Int) (x3 : Int) (s0 : Int) (s1 : Int) (h : Hp) : EX d 127 61 [(0, .inr (.inr a0)), (1, .inl x1), (3, .inl x3)] [.inl s1, .inl s0] h = if (wr s1) = 0 then EX d 127 68 [(0, .inr (.inr a0)), (1, .inl x1), (3, .inl x3)] [.inl s0] h else EX d 127 64 [(0, .inr (.inr a0)), (1, .inl x1), (3, .inl x3)] [.inl s0] h := (EX_at bk_Mod_sags_61 _ _ _).trans rfl
theorem bk_Mod_sags_64 : blk 127 64 = some (((cd_Mod_sags.lookup 64).getD ([], 0, []))) := rfl
theorem Mod_sags_64 (d : Nat) (a0 : Nat) (x1 : Int) (x3 : Int) (s0 : Int) (h : Hp) : EX d 127 64 [(0, .inr (.inr a0)), (1, .inl x1), (3, .inl x3)] [.inl s0] h = EX d 127 69 [(0, .inr (.inr a0)), (1, .inl x1), (3, .inl x3)] [.inl 1, .inl s0] h := (EX_at bk_Mod_sags_64 _ _ _).trans rfl
theorem bk_Mod_sags_68 : blk 127 68 = some (((cd_Mod_sags.lookup 68).getD ([], 0, []))) := rfl
theorem Mod_sags_68 (d : Nat) (a0 : Nat) (x1 : Int) (x3 : Int) (s0 : Int) (h : Hp) : EX d 127 68 [(0, .inr (.inr a0)), (1, .inl x1), (3, .inl x3)] [.inl s0] h = EX d 127 69 [(0, .inr (.inr a0)), (1, .inl x1), (3, .inl x3)] [.inl 0, .inl s0] h := (EX_at bk_Mod_sags_68 _ _ _).trans rfl
theorem bk_Mod_sags_69 : blk 127 69 = some (((cd_Mod_sags.lookup 69).getD ([], 0, []))) := rfl
theorem Mod_sags_69 (d : Nat) (a0 : Nat) (x1 : Int) (x3 : Int) (s0 : Int) (s1 : Int) (h : Hp) : EX d 127 69 [(0, .inr (.inr a0)), (1, .inl x1), (3, .inl x3)] [.inl s1, .inl s0] h = EX d 127 118 [(0, .inr (.inr a0)), (1, .inl x1), (2, .inl (s0 + s1)), (3, .inl x3)] [] h := (EX_at bk_Mod_sags_69 _ _ _).trans rfl
theorem bk_Mod_sags_74 : blk 127 74 = some (((cd_Mod_sags.lookup 74).getD ([], 0, []))) := rfl
theorem Mod_sags_74 (d : Nat) (a0 : Nat) (x1 : Int) (x2 : Int) (x3 : Int) (x4 : Int) (h : Hp) : EX d 127 74 [(0, .inr (.inr a0)), (1, .inl x1), (2, .inl x2), (3, .inl x3), (4, .inl x4)] [] h = if (wr x4) = (-1) then EX d 127 118 [(0, .inr (.inr a0)), (1, .inl x1), (2, .inl x2), (3, .inl x3)] [] h else EX d 127 80 [(0, .inr (.inr a0)), (1, .inl x1), (2, .inl x2), (3, .inl x3), (4, .inl x4)] [] h := (EX_at bk_Mod_sags_74 _ _ _).trans rfl
theorem bk_Mod_sags_80 : blk 127 80 = some (((cd_Mod_sags.lookup 80).getD ([], 0, []))) := rfl
theorem Mod_sags_80 (d : Nat) (a0 : Nat) (x1 : Int) (x2 : Int) (x3 : Int) (x4 : Int) (h : Hp) : EX d 127 80 [(0, .inr (.inr a0)), (1, .inl x1), (2, .inl x2), (3, .inl x3), (4, .inl x4)] [] h = if (wr x1) = 2 then EX d 127 85 [(0, .inr (.inr a0)), (1, .inl x1), (2, .inl x2), (3, .inl x3), (4, .inl x4)] [] h else EX d 127 100 [(0, .inr (.inr a0)), (1, .inl x1), (2, .inl x2), (3, .inl x3), (4, .inl x4)] [] h := (EX_at bk_Mod_sags_80 _ _ _).trans rfl
theorem bk_Mod_sags_85 : blk 127 85 = some (((cd_Mod_sags.lookup 85).getD ([], 0, []))) := rfl
theorem Mod_sags_85 (d : Nat) (a0 : Nat) (x1 : Int) (x2 : Int) (x3 : Int) (x4 : Int) (h : Hp) : EX d 127 85 [(0, .inr (.inr a0)), (1, .inl x1), (2, .inl x2), (3, .inl x3), (4, .inl x4)] [] h = if (wr x2) < (wr x4) then EX d 127 91 [(0, .inr (.inr a0)), (1, .inl x1), (3, .inl x3), (4, .inl x4)] [] h else EX d 127 96 [(0, .inr (.inr a0)), (1, .inl x1), (2, .inl x2), (3, .inl x3)] [] h := (EX_at bk_Mod_sags_85 _ _ _).trans rfl
theorem bk_Mod_sags_91 : blk 127 91 = some (((cd_Mod_sags.lookup 91).getD ([], 0, []))) := rfl
theorem Mod_sags_91 (d : Nat) (a0 : Nat) (x1 : Int) (x3 : Int) (x4 : Int) (h : Hp) : EX d 127 91 [(0, .inr (.inr a0)), (1, .inl x1), (3, .inl x3), (4, .inl x4)] [] h = EX d 127 117 [(0, .inr (.inr a0)), (1, .inl x1), (3, .inl x3)] [.inl x4] h := (EX_at bk_Mod_sags_91 _ _ _).trans rfl
theorem bk_Mod_sags_96 : blk 127 96 = some (((cd_Mod_sags.lookup 96).getD ([], 0, []))) := rfl
theorem Mod_sags_96 (d : Nat) (a0 : Nat) (x1 : Int) (x2 : Int) (x3 : Int) (h : Hp) : EX d 127 96 [(0, .inr (.inr a0)), (1, .inl x1), (2, .inl x2), (3, .inl x3)] [] h = EX d 127 117 [(0, .inr (.inr a0)), (1, .inl x1), (3, .inl x3)] [.inl x2] h := (EX_at bk_Mod_sags_96 _ _ _).trans rfl
theorem bk_Mod_sags_100 : blk 127 100 = some (((cd_Mod_sags.lookup 100).getD ([], 0, []))) := rfl
theorem Mod_sags_100 (d : Nat) (a0 : Nat) (x1 : Int) (x2 : Int) (x3 : Int) (x4 : Int) (h : Hp) : EX d 127 100 [(0, .inr (.inr a0)), (1, .inl x1), (2, .inl x2), (3, .inl x3), (4, .inl x4)] [] h = if (wr x1) = 3 then EX d 127 106 [(0, .inr (.inr a0)), (1, .inl x1), (3, .inl x3), (4, .inl x4)] [.inl x2] h else EX d 127 111 [(0, .inr (.inr a0)), (1, .inl x1), (3, .inl x3), (4, .inl x4)] [.inl x2] h := (EX_at bk_Mod_sags_100 _ _ _).trans rfl
theorem bk_Mod_sags_106 : blk 127 106 = some (((cd_Mod_sags.lookup 106).getD ([], 0, []))) := rfl
theorem Mod_sags_106 (d : Nat) (a0 : Nat) (x1 : Int) (x3 : Int) (x4 : Int) (s0 : Int) (h : Hp) : EX d 127 106 [(0, .inr (.inr a0)), (1, .inl x1), (3, .inl x3), (4, .inl x4)] [.inl s0] h = EX d 127 116 [(0, .inr (.inr a0)), (1, .inl x1), (3, .inl x3)] [.inl x4, .inl s0] h := (EX_at bk_Mod_sags_106 _ _ _).trans rfl
theorem bk_Mod_sags_111 : blk 127 111 = some (((cd_Mod_sags.lookup 111).getD ([], 0, []))) := rfl
theorem Mod_sags_111 (d : Nat) (a0 : Nat) (x1 : Int) (x3 : Int) (x4 : Int) (s0 : Int) (h : Hp) : EX d 127 111 [(0, .inr (.inr a0)), (1, .inl x1), (3, .inl x3), (4, .inl x4)] [.inl s0] h = EX d 127 116 [(0, .inr (.inr a0)), (1, .inl x1), (3, .inl x3)] [.inl (x4 * x4), .inl s0] h := (EX_at bk_Mod_sags_111 _ _ _).trans rfl
theorem bk_Mod_sags_116 : blk 127 116 = some (((cd_Mod_sags.lookup 116).getD ([], 0, []))) := rfl
theorem Mod_sags_116 (d : Nat) (a0 : Nat) (x1 : Int) (x3 : Int) (s0 : Int) (s1 : Int) (h : Hp) : EX d 127 116 [(0, .inr (.inr a0)), (1, .inl x1), (3, .inl x3)] [.inl s1, .inl s0] h = EX d 127 117 [(0, .inr (.inr a0)), (1, .inl x1), (3, .inl x3)] [.inl (s0 + s1)] h := (EX_at bk_Mod_sags_116 _ _ _).trans rfl
theorem bk_Mod_sags_117 : blk 127 117 = some (((cd_Mod_sags.lookup 117).getD ([], 0, []))) := rfl
theorem Mod_sags_117 (d : Nat) (a0 : Nat) (x1 : Int) (x3 : Int) (s0 : Int) (h : Hp) : EX d 127 117 [(0, .inr (.inr a0)), (1, .inl x1), (3, .inl x3)] [.inl s0] h = EX d 127 118 [(0, .inr (.inr a0)), (1, .inl x1), (2, .inl s0), (3, .inl x3)] [] h := (EX_at bk_Mod_sags_117 _ _ _).trans rfl
theorem bk_Mod_sags_118 : blk 127 118 = some (((cd_Mod_sags.lookup 118).getD ([], 0, []))) := rfl
theorem Mod_sags_118 (d : Nat) (a0 : Nat) (x1 : Int) (x2 : Int) (x3 : Int) (h : Hp) : EX d 127 118 [(0, .inr (.inr a0)), (1, .inl x1), (2, .inl x2), (3, .inl x3)] [] h = EX d 127 33 [(0, .inr (.inr a0)), (1, .inl x1), (2, .inl x2), (3, .inl (x3 + 1))] [] h := (EX_at bk_Mod_sags_118 _ _ _).trans rfl
theorem bk_Mod_sags_124 : blk 127 124 = some (((cd_Mod_sags.lookup 124).getD ([], 0, []))) := rfl
theorem Mod_sags_124 (d : Nat) (x2 : Int) (h : Hp) : EX d 127 124 [(2, .inl x2)] [] h = some (.inl x2, h) := (EX_at bk_Mod_sags_124 _ _ _).trans rfl
/-! why(II)I of HookOverModel: method 129 -/
theorem bk_Mod_why_0 : blk 129 0 = some (((cd_Mod_why.lookup 0).getD ([], 0, []))) := rfl
theorem Mod_why_0 (d : Nat) (a0 : Nat) (x1 : Int) (x2 : Int) (h : Hp) : EX d 129 0 [(0, .inr (.inr a0)), (1, .inl x1), (2, .inl x2)] [] h = if sK h a0 = 11 then EX d 129 5 [(0, .inr (.inr a0)), (1, .inl x1), (2, .inl x2)] [] (pI h a0 0 0) else none := (EX_at bk_Mod_why_0 _ _ _).trans rfl
theorem bk_Mod_why_5 : blk 129 5 = some (((cd_Mod_why.lookup 5).getD ([], 0, []))) := rfl
theorem Mod_why_5 (d : Nat) (a0 : Nat) (x1 : Int) (x2 : Int) (h : Hp) : EX d 129 5 [(0, .inr (.inr a0)), (1, .inl x1), (2, .inl x2)] [] h = if sK h a0 = 11 then bak (EX d 129) 14 [] [] false (cal d 98 [.inr (.inr (hR h a0 1)), .inl x1, .inl x2] h) else none := (EX_at bk_Mod_why_5 _ _ _).trans rfl
theorem bk_Mod_why_14 : blk 129 14 = some (((cd_Mod_why.lookup 14).getD ([], 0, []))) := rfl
theorem Mod_why_14 (d : Nat) (s0 : Int) (h : Hp) : EX d 129 14 [] [.inl s0] h = some (.inl s0, h) := (EX_at bk_Mod_why_14 _ _ _).trans rfl
/-! keeps()V of HookOverModel: method 137 -/
theorem bk_Mod_keeps_0 : blk 137 0 = some (((cd_Mod_keeps.lookup 0).getD ([], 0, []))) := rfl
theorem Mod_keeps_0 (d : Nat) (a0 : Nat) (h : Hp) : EX d 137 0 [(0, .inr (.inr a0))] [] h = EX d 137 2 [(0, .inr (.inr a0)), (1, .inl 0)] [] h := (EX_at bk_Mod_keeps_0 _ _ _).trans rfl
theorem bk_Mod_keeps_2 : blk 137 2 = some (((cd_Mod_keeps.lookup 2).getD ([], 0, []))) := rfl
theorem Mod_keeps_2 (d : Nat) (a0 : Nat) (x1 : Int) (h : Hp) : EX d 137 2 [(0, .inr (.inr a0)), (1, .inl x1)] [] h = if (wr x1) < 14 then EX d 137 8 [(0, .inr (.inr a0)), (1, .inl x1)] [] h else EX d 137 29 [] [] h := (EX_at bk_Mod_keeps_2 _ _ _).trans rfl
theorem bk_Mod_keeps_8 : blk 137 8 = some (((cd_Mod_keeps.lookup 8).getD ([], 0, []))) := rfl
theorem Mod_keeps_8 (d : Nat) (a0 : Nat) (x1 : Int) (h : Hp) : EX d 137 8 [(0, .inr (.inr a0)), (1, .inl x1)] [] h = if sK h a0 = 11 then if sK h a0 = 11 then if okx h (hR h a0 1) 20 (59 + x1) then if okx h (hR h a0 16) 20 x1 then EX d 137 23 [(0, .inr (.inr a0)), (1, .inl x1)] [] (pI h (hR h a0 16) (ix x1) (hI h (hR h a0 1) (ix (59 + x1)))) else none else none else none else none := (EX_at bk_Mod_keeps_8 _ _ _).trans rfl
theorem bk_Mod_keeps_23 : blk 137 23 = some (((cd_Mod_keeps.lookup 23).getD ([], 0, []))) := rfl
theorem Mod_keeps_23 (d : Nat) (a0 : Nat) (x1 : Int) (h : Hp) : EX d 137 23 [(0, .inr (.inr a0)), (1, .inl x1)] [] h = EX d 137 2 [(0, .inr (.inr a0)), (1, .inl (x1 + 1))] [] h := (EX_at bk_Mod_keeps_23 _ _ _).trans rfl
theorem bk_Mod_keeps_29 : blk 137 29 = some (((cd_Mod_keeps.lookup 29).getD ([], 0, []))) := rfl
theorem Mod_keeps_29 (d : Nat) (h : Hp) : EX d 137 29 [] [] h = some (.inl 0, h) := (EX_at bk_Mod_keeps_29 _ _ _).trans rfl
/-! standsFor(II)I of HookOverModel: method 138 -/
theorem bk_Mod_standsFor_0 : blk 138 0 = some (((cd_Mod_standsFor.lookup 0).getD ([], 0, []))) := rfl
theorem Mod_standsFor_0 (d : Nat) (a0 : Nat) (x1 : Int) (x2 : Int) (h : Hp) : EX d 138 0 [(0, .inr (.inr a0)), (1, .inl x1), (2, .inl x2)] [] h = if sK h a0 = 11 then if okx h (hR h a0 1) 20 3 then if (wr (x1 + (hI h (hR h a0 1) 3))) < (wr x2) then EX d 138 12 [(0, .inr (.inr a0)), (2, .inl x2)] [] h else EX d 138 21 [(0, .inr (.inr a0)), (1, .inl x1), (2, .inl x2)] [] h else none else none := (EX_at bk_Mod_standsFor_0 _ _ _).trans rfl
theorem bk_Mod_standsFor_12 : blk 138 12 = some (((cd_Mod_standsFor.lookup 12).getD ([], 0, []))) := rfl
theorem Mod_standsFor_12 (d : Nat) (a0 : Nat) (x2 : Int) (h : Hp) : EX d 138 12 [(0, .inr (.inr a0)), (2, .inl x2)] [] h = if sK h a0 = 11 then if okx h (hR h a0 1) 20 3 then some (.inl (x2 - (hI h (hR h a0 1) 3)), h) else none else none := (EX_at bk_Mod_standsFor_12 _ _ _).trans rfl
theorem bk_Mod_standsFor_21 : blk 138 21 = some (((cd_Mod_standsFor.lookup 21).getD ([], 0, []))) := rfl
theorem Mod_standsFor_21 (d : Nat) (a0 : Nat) (x1 : Int) (x2 : Int) (h : Hp) : EX d 138 21 [(0, .inr (.inr a0)), (1, .inl x1), (2, .inl x2)] [] h = if sK h a0 = 11 then if okx h (hR h a0 1) 20 3 then if (wr x2) < (wr (x1 - (hI h (hR h a0 1) 3))) then EX d 138 33 [(0, .inr (.inr a0)), (2, .inl x2)] [] h else EX d 138 44 [(1, .inl x1)] [] h else none else none := (EX_at bk_Mod_standsFor_21 _ _ _).trans rfl
theorem bk_Mod_standsFor_33 : blk 138 33 = some (((cd_Mod_standsFor.lookup 33).getD ([], 0, []))) := rfl
theorem Mod_standsFor_33 (d : Nat) (a0 : Nat) (x2 : Int) (h : Hp) : EX d 138 33 [(0, .inr (.inr a0)), (2, .inl x2)] [] h = if sK h a0 = 11 then if okx h (hR h a0 1) 20 3 then EX d 138 45 [] [.inl (x2 + (hI h (hR h a0 1) 3))] h else none else none := (EX_at bk_Mod_standsFor_33 _ _ _).trans rfl
theorem bk_Mod_standsFor_44 : blk 138 44 = some (((cd_Mod_standsFor.lookup 44).getD ([], 0, []))) := rfl
theorem Mod_standsFor_44 (d : Nat) (x1 : Int) (h : Hp) : EX d 138 44 [(1, .inl x1)] [] h = EX d 138 45 [] [.inl x1] h := (EX_at bk_Mod_standsFor_44 _ _ _).trans rfl
theorem bk_Mod_standsFor_45 : blk 138 45 = some (((cd_Mod_standsFor.lookup 45).getD ([], 0, []))) := rfl
theorem Mod_standsFor_45 (d : Nat) (s0 : Int) (h : Hp) : EX d 138 45 [] [.inl s0] h = some (.inl s0, h) := (EX_at bk_Mod_standsFor_45 _ _ _).trans rfl
/-! works(II)I of HookOverModel: method 139 -/
theorem bk_Mod_works_0 : blk 139 0 = some (((cd_Mod_works.lookup 0).getD ([], 0, []))) := rfl
theorem Mod_works_0 (d : Nat) (a0 : Nat) (x1 : Int) (x2 : Int) (h : Hp) : EX d 139 0 [(0, .inr (.inr a0)), (1, .inl x1), (2, .inl x2)] [] h = if sK h a0 = 11 then bak (EX d 139) 6 [(0, .inr (.inr a0)), (1, .inl x1)] [] false (cal d 138 [.inr (.inr a0), .inl x1, .inl x2] h) else none := (EX_at bk_Mod_works_0 _ _ _).trans rfl
theorem bk_Mod_works_6 : blk 139 6 = some (((cd_Mod_works.lookup 6).getD ([], 0, []))) := rfl
theorem Mod_works_6 (d : Nat) (a0 : Nat) (x1 : Int) (s0 : Int) (h : Hp) : EX d 139 6 [(0, .inr (.inr a0)), (1, .inl x1)] [.inl s0] h = if (wr x1) < (wr s0) then EX d 139 12 [(0, .inr (.inr a0)), (1, .inl x1), (3, .inl s0)] [] h else EX d 139 18 [(0, .inr (.inr a0)), (1, .inl x1), (3, .inl s0)] [] h := (EX_at bk_Mod_works_6 _ _ _).trans rfl
theorem bk_Mod_works_12 : blk 139 12 = some (((cd_Mod_works.lookup 12).getD ([], 0, []))) := rfl
theorem Mod_works_12 (d : Nat) (a0 : Nat) (x1 : Int) (x3 : Int) (h : Hp) : EX d 139 12 [(0, .inr (.inr a0)), (1, .inl x1), (3, .inl x3)] [] h = EX d 139 21 [(0, .inr (.inr a0))] [.inl (x3 - x1)] h := (EX_at bk_Mod_works_12 _ _ _).trans rfl
theorem bk_Mod_works_18 : blk 139 18 = some (((cd_Mod_works.lookup 18).getD ([], 0, []))) := rfl
theorem Mod_works_18 (d : Nat) (a0 : Nat) (x1 : Int) (x3 : Int) (h : Hp) : EX d 139 18 [(0, .inr (.inr a0)), (1, .inl x1), (3, .inl x3)] [] h = EX d 139 21 [(0, .inr (.inr a0))] [.inl (x1 - x3)] h := (EX_at bk_Mod_works_18 _ _ _).trans rfl
theorem bk_Mod_works_21 : blk 139 21 = some (((cd_Mod_works.lookup 21).getD ([], 0, []))) := rfl
theorem Mod_works_21 (d : Nat) (a0 : Nat) (s0 : Int) (h : Hp) : EX d 139 21 [(0, .inr (.inr a0))] [.inl s0] h = if 0 < (wr s0) then EX d 139 28 [(0, .inr (.inr a0)), (4, .inl s0)] [] h else EX d 139 40 [(0, .inr (.inr a0))] [] h := (EX_at bk_Mod_works_21 _ _ _).trans rfl
theorem bk_Mod_works_28 : blk 139 28 = some (((cd_Mod_works.lookup 28).getD ([], 0, []))) := rfl
theorem Mod_works_28 (d : Nat) (a0 : Nat) (x4 : Int) (h : Hp) : EX d 139 28 [(0, .inr (.inr a0)), (4, .inl x4)] [] h = if sK h a0 = 11 then if okx h (hR h a0 1) 20 4 then EX d 139 41 [(0, .inr (.inr a0))] [.inl ((hI h (hR h a0 1) 4) + x4)] h else none else none := (EX_at bk_Mod_works_28 _ _ _).trans rfl
theorem bk_Mod_works_40 : blk 139 40 = some (((cd_Mod_works.lookup 40).getD ([], 0, []))) := rfl
theorem Mod_works_40 (d : Nat) (a0 : Nat) (h : Hp) : EX d 139 40 [(0, .inr (.inr a0))] [] h = EX d 139 41 [(0, .inr (.inr a0))] [.inl 0] h := (EX_at bk_Mod_works_40 _ _ _).trans rfl
theorem bk_Mod_works_41 : blk 139 41 = some (((cd_Mod_works.lookup 41).getD ([], 0, []))) := rfl
theorem Mod_works_41 (d : Nat) (a0 : Nat) (s0 : Int) (h : Hp) : EX d 139 41 [(0, .inr (.inr a0))] [.inl s0] h = if sK h a0 = 11 then if okx h (hR h a0 1) 20 5 then some (.inl (s0 + (hI h (hR h a0 1) 5)), h) else none else none := (EX_at bk_Mod_works_41 _ _ _).trans rfl
/-! goesTo(I)V of HookOverModel: method 140 -/
theorem bk_Mod_goesTo_0 : blk 140 0 = some (((cd_Mod_goesTo.lookup 0).getD ([], 0, []))) := rfl
theorem Mod_goesTo_0 (d : Nat) (a0 : Nat) (x1 : Int) (h : Hp) : EX d 140 0 [(0, .inr (.inr a0)), (1, .inl x1)] [] h = if sK h a0 = 11 then if okx h (hR h a0 1) 20 60 then if sK h a0 = 11 then if okx h (hR h a0 1) 20 59 then if sK h a0 = 11 then bak (EX d 140) 20 [(0, .inr (.inr a0)), (1, .inl x1)] [.inl (hI h (hR h a0 1) 60), .inl 60, .inr (.inr (hR h a0 1))] false (cal d 139 [.inr (.inr a0), .inl (hI h (hR h a0 1) 59), .inl x1] h) else none else none else none else none else none := (EX_at bk_Mod_goesTo_0 _ _ _).trans rfl
theorem bk_Mod_goesTo_20 : blk 140 20 = some (((cd_Mod_goesTo.lookup 20).getD ([], 0, []))) := rfl
theorem Mod_goesTo_20 (d : Nat) (a0 : Nat) (x1 : Int) (r0 : Nat) (s1 : Int) (s2 : Int) (s3 : Int) (h : Hp) : EX d 140 20 [(0, .inr (.inr a0)), (1, .inl x1)] [.inl s3, .inl s2, .inl s1, .inr (.inr r0)] h = if okx h r0 20 s1 then EX d 140 22 [(0, .inr (.inr a0)), (1, .inl x1)] [] (pI h r0 (ix s1) (s2 + s3)) else none := (EX_at bk_Mod_goesTo_20 _ _ _).trans rfl
theorem bk_Mod_goesTo_22 : blk 140 22 = some (((cd_Mod_goesTo.lookup 22).getD ([], 0, []))) := rfl
theorem Mod_goesTo_22 (d : Nat) (a0 : Nat) (x1 : Int) (h : Hp) : EX d 140 22 [(0, .inr (.inr a0)), (1, .inl x1)] [] h = if sK h a0 = 11 then if sK h a0 = 11 then if okx h (hR h a0 1) 20 59 then if sK h a0 = 11 then bak (EX d 140) 40 [] [.inl 59, .inr (.inr (hR h a0 1))] false (cal d 138 [.inr (.inr a0), .inl (hI h (hR h a0 1) 59), .inl x1] h) else none else none else none else none := (EX_at bk_Mod_goesTo_22 _ _ _).trans rfl
theorem bk_Mod_goesTo_40 : blk 140 40 = some (((cd_Mod_goesTo.lookup 40).getD ([], 0, []))) := rfl
theorem Mod_goesTo_40 (d : Nat) (r0 : Nat) (s1 : Int) (s2 : Int) (h : Hp) : EX d 140 40 [] [.inl s2, .inl s1, .inr (.inr r0)] h = if okx h r0 20 s1 then EX d 140 41 [] [] (pI h r0 (ix s1) s2) else none := (EX_at bk_Mod_goesTo_40 _ _ _).trans rfl
theorem bk_Mod_goesTo_41 : blk 140 41 = some (((cd_Mod_goesTo.lookup 41).getD ([], 0, []))) := rfl
theorem Mod_goesTo_41 (d : Nat) (h : Hp) : EX d 140 41 [] [] h = some (.inl 0, h) := (EX_at bk_Mod_goesTo_41 _ _ _).trans rfl
/-! joins(II)V of HookOverModel: method 141 -/
theorem bk_Mod_joins_0 : blk 141 0 = some (((cd_Mod_joins.lookup 0).getD ([], 0, []))) := rfl
theorem Mod_joins_0 (d : Nat) (a0 : Nat) (x1 : Int) (x2 : Int) (h : Hp) : EX d 141 0 [(0, .inr (.inr a0)), (1, .inl x1), (2, .inl x2)] [] h = if sK h a0 = 11 then bak (EX d 141) 5 [(0, .inr (.inr a0)), (1, .inl x1), (2, .inl x2)] [] true (cal d 140 [.inr (.inr a0), .inl x2] h) else none := (EX_at bk_Mod_joins_0 _ _ _).trans rfl
theorem bk_Mod_joins_5 : blk 141 5 = some (((cd_Mod_joins.lookup 5).getD ([], 0, []))) := rfl
theorem Mod_joins_5 (d : Nat) (a0 : Nat) (x1 : Int) (x2 : Int) (h : Hp) : EX d 141 5 [(0, .inr (.inr a0)), (1, .inl x1), (2, .inl x2)] [] h = if sK h a0 = 11 then if okx h (hR h a0 1) 20 (61 + x1) then EX d 141 15 [] [] (pI h (hR h a0 1) (ix (61 + x1)) x2) else none else none := (EX_at bk_Mod_joins_5 _ _ _).trans rfl
theorem bk_Mod_joins_15 : blk 141 15 = some (((cd_Mod_joins.lookup 15).getD ([], 0, []))) := rfl
theorem Mod_joins_15 (d : Nat) (h : Hp) : EX d 141 15 [] [] h = some (.inl 0, h) := (EX_at bk_Mod_joins_15 _ _ _).trans rfl
/-! notes()V of HookOverModel: method 142 -/
theorem bk_Mod_notes_0 : blk 142 0 = some (((cd_Mod_notes.lookup 0).getD ([], 0, []))) := rfl
theorem Mod_notes_0 (d : Nat) (a0 : Nat) (h : Hp) : EX d 142 0 [(0, .inr (.inr a0))] [] h = if sK h a0 = 11 then if okx h (hR h a0 1) 20 73 then if (wr (hI h (hR h a0 1) 73)) = 10 then EX d 142 12 [(0, .inr (.inr a0))] [] h else EX d 142 55 [(0, .inr (.inr a0))] [] h else none else none := (EX_at bk_Mod_notes_0 _ _ _).trans rfl
theorem bk_Mod_notes_12 : blk 142 12 = some (((cd_Mod_notes.lookup 12).getD ([], 0, []))) := rfl
theorem Mod_notes_12 (d : Nat) (a0 : Nat) (h : Hp) : EX d 142 12 [(0, .inr (.inr a0))] [] h = EX d 142 14 [(0, .inr (.inr a0)), (1, .inl 0)] [] h := (EX_at bk_Mod_notes_12 _ _ _).trans rfl
theorem bk_Mod_notes_14 : blk 142 14 = some (((cd_Mod_notes.lookup 14).getD ([], 0, []))) := rfl
theorem Mod_notes_14 (d : Nat) (a0 : Nat) (x1 : Int) (h : Hp) : EX d 142 14 [(0, .inr (.inr a0)), (1, .inl x1)] [] h = if (wr x1) < 126 then EX d 142 20 [(0, .inr (.inr a0)), (1, .inl x1)] [] h else EX d 142 44 [(0, .inr (.inr a0))] [] h := (EX_at bk_Mod_notes_14 _ _ _).trans rfl
theorem bk_Mod_notes_20 : blk 142 20 = some (((cd_Mod_notes.lookup 20).getD ([], 0, []))) := rfl
theorem Mod_notes_20 (d : Nat) (a0 : Nat) (x1 : Int) (h : Hp) : EX d 142 20 [(0, .inr (.inr a0)), (1, .inl x1)] [] h = if sK h a0 = 11 then if sK h a0 = 11 then if okx h (hR h a0 1) 20 (88 + x1) then if okx h (hR h a0 1) 20 (74 + x1) then EX d 142 38 [(0, .inr (.inr a0)), (1, .inl x1)] [] (pI h (hR h a0 1) (ix (74 + x1)) (hI h (hR h a0 1) (ix (88 + x1)))) else none else none else none else none := (EX_at bk_Mod_notes_20 _ _ _).trans rfl
theorem bk_Mod_notes_38 : blk 142 38 = some (((cd_Mod_notes.lookup 38).getD ([], 0, []))) := rfl
theorem Mod_notes_38 (d : Nat) (a0 : Nat) (x1 : Int) (h : Hp) : EX d 142 38 [(0, .inr (.inr a0)), (1, .inl x1)] [] h = EX d 142 14 [(0, .inr (.inr a0)), (1, .inl (x1 + 1))] [] h := (EX_at bk_Mod_notes_38 _ _ _).trans rfl
theorem bk_Mod_notes_44 : blk 142 44 = some (((cd_Mod_notes.lookup 44).getD ([], 0, []))) := rfl
theorem Mod_notes_44 (d : Nat) (a0 : Nat) (h : Hp) : EX d 142 44 [(0, .inr (.inr a0))] [] h = if sK h a0 = 11 then if okx h (hR h a0 1) 20 73 then if okx h (hR h a0 1) 20 73 then EX d 142 55 [(0, .inr (.inr a0))] [] (pI h (hR h a0 1) 73 ((hI h (hR h a0 1) 73) - 1)) else none else none else none := (EX_at bk_Mod_notes_44 _ _ _).trans rfl
theorem bk_Mod_notes_55 : blk 142 55 = some (((cd_Mod_notes.lookup 55).getD ([], 0, []))) := rfl
theorem Mod_notes_55 (d : Nat) (a0 : Nat) (h : Hp) : EX d 142 55 [(0, .inr (.inr a0))] [] h = EX d 142 57 [(0, .inr (.inr a0)), (1, .inl 0)] [] h := (EX_at bk_Mod_notes_55 _ _ _).trans rfl
theorem bk_Mod_notes_57 : blk 142 57 = some (((cd_Mod_notes.lookup 57).getD ([], 0, []))) := rfl
theorem Mod_notes_57 (d : Nat) (a0 : Nat) (x1 : Int) (h : Hp) : EX d 142 57 [(0, .inr (.inr a0)), (1, .inl x1)] [] h = if (wr x1) < 14 then EX d 142 63 [(0, .inr (.inr a0)), (1, .inl x1)] [] h else EX d 142 95 [(0, .inr (.inr a0))] [] h := (EX_at bk_Mod_notes_57 _ _ _).trans rfl
theorem bk_Mod_notes_63 : blk 142 63 = some (((cd_Mod_notes.lookup 63).getD ([], 0, []))) := rfl
theorem Mod_notes_63 (d : Nat) (a0 : Nat) (x1 : Int) (h : Hp) : EX d 142 63 [(0, .inr (.inr a0)), (1, .inl x1)] [] h = if sK h a0 = 11 then if sK h a0 = 11 then if okx h (hR h a0 1) 20 73 then if sK h a0 = 11 then if okx h (hR h a0 16) 20 x1 then if okx h (hR h a0 1) 20 ((74 + (14 * (hI h (hR h a0 1) 73))) + x1) then EX d 142 89 [(0, .inr (.inr a0)), (1, .inl x1)] [] (pI h (hR h a0 1) (ix ((74 + (14 * (hI h (hR h a0 1) 73))) + x1)) (hI h (hR h a0 16) (ix x1))) else none else none else none else none else none else none := (EX_at bk_Mod_notes_63 _ _ _).trans rfl
theorem bk_Mod_notes_89 : blk 142 89 = some (((cd_Mod_notes.lookup 89).getD ([], 0, []))) := rfl
theorem Mod_notes_89 (d : Nat) (a0 : Nat) (x1 : Int) (h : Hp) : EX d 142 89 [(0, .inr (.inr a0)), (1, .inl x1)] [] h = EX d 142 57 [(0, .inr (.inr a0)), (1, .inl (x1 + 1))] [] h := (EX_at bk_Mod_notes_89 _ _ _).trans rfl
theorem bk_Mod_notes_95 : blk 142 95 = some (((cd_Mod_notes.lookup 95).getD ([], 0, []))) := rfl
theorem Mod_notes_95 (d : Nat) (a0 : Nat) (h : Hp) : EX d 142 95 [(0, .inr (.inr a0))] [] h = if sK h a0 = 11 then if okx h (hR h a0 1) 20 73 then if okx h (hR h a0 1) 20 73 then EX d 142 106 [] [] (pI h (hR h a0 1) 73 ((hI h (hR h a0 1) 73) + 1)) else none else none else none := (EX_at bk_Mod_notes_95 _ _ _).trans rfl
theorem bk_Mod_notes_106 : blk 142 106 = some (((cd_Mod_notes.lookup 106).getD ([], 0, []))) := rfl
theorem Mod_notes_106 (d : Nat) (h : Hp) : EX d 142 106 [] [] h = some (.inl 0, h) := (EX_at bk_Mod_notes_106 _ _ _).trans rfl
/-! join(II)I of HookOverModel: method 143 -/
theorem bk_Mod_join_0 : blk 143 0 = some (((cd_Mod_join.lookup 0).getD ([], 0, []))) := rfl
theorem Mod_join_0 (d : Nat) (a0 : Nat) (x1 : Int) (x2 : Int) (h : Hp) : EX d 143 0 [(0, .inr (.inr a0)), (1, .inl x1), (2, .inl x2)] [] h = if sK h a0 = 11 then EX d 143 5 [(0, .inr (.inr a0)), (1, .inl x1), (2, .inl x2)] [] (pI h a0 0 0) else none := (EX_at bk_Mod_join_0 _ _ _).trans rfl
theorem bk_Mod_join_5 : blk 143 5 = some (((cd_Mod_join.lookup 5).getD ([], 0, []))) := rfl
theorem Mod_join_5 (d : Nat) (a0 : Nat) (x1 : Int) (x2 : Int) (h : Hp) : EX d 143 5 [(0, .inr (.inr a0)), (1, .inl x1), (2, .inl x2)] [] h = if sK h a0 = 11 then bak (EX d 143) 14 [(0, .inr (.inr a0)), (1, .inl x1), (2, .inl x2)] [] false (cal d 98 [.inr (.inr (hR h a0 1)), .inl x1, .inl x2] h) else none := (EX_at bk_Mod_join_5 _ _ _).trans rfl
theorem bk_Mod_join_14 : blk 143 14 = some (((cd_Mod_join.lookup 14).getD ([], 0, []))) := rfl
theorem Mod_join_14 (d : Nat) (a0 : Nat) (x1 : Int) (x2 : Int) (s0 : Int) (h : Hp) : EX d 143 14 [(0, .inr (.inr a0)), (1, .inl x1), (2, .inl x2)] [.inl s0] h = if (wr s0) = 0 then EX d 143 24 [(0, .inr (.inr a0)), (1, .inl x1), (2, .inl x2)] [] h else EX d 143 19 [(3, .inl s0)] [] h := (EX_at bk_Mod_join_14 _ _ _).trans rfl
theorem bk_Mod_join_19 : blk 143 19 = some (((cd_Mod_join.lookup 19).getD ([], 0, []))) := rfl
theorem Mod_join_19 (d : Nat) (x3 : Int) (h : Hp) : EX d 143 19 [(3, .inl x3)] [] h = some (.inl ((-10) - x3), h) := (EX_at bk_Mod_join_19 _ _ _).trans rfl
theorem bk_Mod_join_24 : blk 143 24 = some (((cd_Mod_join.lookup 24).getD ([], 0, []))) := rfl
theorem Mod_join_24 (d : Nat) (a0 : Nat) (x1 : Int) (x2 : Int) (h : Hp) : EX d 143 24 [(0, .inr (.inr a0)), (1, .inl x1), (2, .inl x2)] [] h = if sK h a0 = 11 then bak (EX d 143) 28 [(0, .inr (.inr a0)), (1, .inl x1), (2, .inl x2)] [] true (cal d 137 [.inr (.inr a0)] h) else none := (EX_at bk_Mod_join_24 _ _ _).trans rfl
theorem bk_Mod_join_28 : blk 143 28 = some (((cd_Mod_join.lookup 28).getD ([], 0, []))) := rfl
theorem Mod_join_28 (d : Nat) (a0 : Nat) (x1 : Int) (x2 : Int) (h : Hp) : EX d 143 28 [(0, .inr (.inr a0)), (1, .inl x1), (2, .inl x2)] [] h = if sK h a0 = 11 then bak (EX d 143) 34 [(0, .inr (.inr a0))] [] true (cal d 141 [.inr (.inr a0), .inl x1, .inl x2] h) else none := (EX_at bk_Mod_join_28 _ _ _).trans rfl
theorem bk_Mod_join_34 : blk 143 34 = some (((cd_Mod_join.lookup 34).getD ([], 0, []))) := rfl
theorem Mod_join_34 (d : Nat) (a0 : Nat) (h : Hp) : EX d 143 34 [(0, .inr (.inr a0))] [] h = if sK h a0 = 11 then bak (EX d 143) 38 [(0, .inr (.inr a0))] [] true (cal d 142 [.inr (.inr a0)] h) else none := (EX_at bk_Mod_join_34 _ _ _).trans rfl
theorem bk_Mod_join_38 : blk 143 38 = some (((cd_Mod_join.lookup 38).getD ([], 0, []))) := rfl
theorem Mod_join_38 (d : Nat) (a0 : Nat) (h : Hp) : EX d 143 38 [(0, .inr (.inr a0))] [] h = if sK h a0 = 11 then if okx h (hR h a0 1) 20 60 then if sK h a0 = 11 then if okx h (hR h a0 16) 20 1 then some (.inl ((hI h (hR h a0 1) 60) - (hI h (hR h a0 16) 1)), h) else none else none else none else none := (EX_at bk_Mod_join_38 _ _ _).trans rfl
/-! whyNotOff(I)I of HookOverModel: method 147 -/
theorem bk_Mod_whyNotOff_0 : blk 147 0 = some (((cd_Mod_whyNotOff.lookup 0).getD ([], 0, []))) := rfl
theorem Mod_whyNotOff_0 (d : Nat) (a0 : Nat) (x1 : Int) (h : Hp) : EX d 147 0 [(0, .inr (.inr a0)), (1, .inl x1)] [] h = if sK h a0 = 11 then bak (EX d 147) 5 [(0, .inr (.inr a0)), (1, .inl x1)] [] false (cal d 108 [.inr (.inr a0), .inl x1] h) else none := (EX_at bk_Mod_whyNotOff_0 _ _ _).trans rfl
theorem bk_Mod_whyNotOff_5 : blk 147 5 = some (((cd_Mod_whyNotOff.lookup 5).getD ([], 0, []))) := rfl
theorem Mod_whyNotOff_5 (d : Nat) (a0 : Nat) (x1 : Int) (s0 : Int) (h : Hp) : EX d 147 5 [(0, .inr (.inr a0)), (1, .inl x1)] [.inl s0] h = if (wr s0) = 0 then EX d 147 8 [] [] h else EX d 147 12 [(0, .inr (.inr a0)), (1, .inl x1)] [] h := (EX_at bk_Mod_whyNotOff_5 _ _ _).trans rfl
theorem bk_Mod_whyNotOff_8 : blk 147 8 = some (((cd_Mod_whyNotOff.lookup 8).getD ([], 0, []))) := rfl
theorem Mod_whyNotOff_8 (d : Nat) (h : Hp) : EX d 147 8 [] [] h = EX d 147 30 [] [.inl 1] h := (EX_at bk_Mod_whyNotOff_8 _ _ _).trans rfl
theorem bk_Mod_whyNotOff_12 : blk 147 12 = some (((cd_Mod_whyNotOff.lookup 12).getD ([], 0, []))) := rfl
theorem Mod_whyNotOff_12 (d : Nat) (a0 : Nat) (x1 : Int) (h : Hp) : EX d 147 12 [(0, .inr (.inr a0)), (1, .inl x1)] [] h = if sK h a0 = 11 then if okx h (hR h a0 1) 20 (61 + x1) then if (wr (hI h (hR h a0 1) (ix (61 + x1)))) = (-1) then EX d 147 25 [] [] h else EX d 147 29 [] [] h else none else none := (EX_at bk_Mod_whyNotOff_12 _ _ _).trans rfl
theorem bk_Mod_whyNotOff_25 : blk 147 25 = some (((cd_Mod_whyNotOff.lookup 25).getD ([], 0, []))) := rfl
theorem Mod_whyNotOff_25 (d : Nat) (h : Hp) : EX d 147 25 [] [] h = EX d 147 30 [] [.inl 2] h := (EX_at bk_Mod_whyNotOff_25 _ _ _).trans rfl
theorem bk_Mod_whyNotOff_29 : blk 147 29 = some (((cd_Mod_whyNotOff.lookup 29).getD ([], 0, []))) := rfl
theorem Mod_whyNotOff_29 (d : Nat) (h : Hp) : EX d 147 29 [] [] h = EX d 147 30 [] [.inl 0] h := (EX_at bk_Mod_whyNotOff_29 _ _ _).trans rfl
theorem bk_Mod_whyNotOff_30 : blk 147 30 = some (((cd_Mod_whyNotOff.lookup 30).getD ([], 0, []))) := rfl
theorem Mod_whyNotOff_30 (d : Nat) (s0 : Int) (h : Hp) : EX d 147 30 [] [.inl s0] h = some (.inl s0, h) := (EX_at bk_Mod_whyNotOff_30 _ _ _).trans rfl
/-! unhooks(I)V of HookOverModel: method 148 -/
theorem bk_Mod_unhooks_0 : blk 148 0 = some (((cd_Mod_unhooks.lookup 0).getD ([], 0, []))) := rfl
theorem Mod_unhooks_0 (d : Nat) (a0 : Nat) (x1 : Int) (h : Hp) : EX d 148 0 [(0, .inr (.inr a0)), (1, .inl x1)] [] h = if sK h a0 = 11 then if okx h (hR h a0 1) 20 (61 + x1) then if sK h a0 = 11 then bak (EX d 148) 13 [(0, .inr (.inr a0)), (1, .inl x1)] [] true (cal d 140 [.inr (.inr a0), .inl (hI h (hR h a0 1) (ix (61 + x1)))] h) else none else none else none := (EX_at bk_Mod_unhooks_0 _ _ _).trans rfl
theorem bk_Mod_unhooks_13 : blk 148 13 = some (((cd_Mod_unhooks.lookup 13).getD ([], 0, []))) := rfl
theorem Mod_unhooks_13 (d : Nat) (a0 : Nat) (x1 : Int) (h : Hp) : EX d 148 13 [(0, .inr (.inr a0)), (1, .inl x1)] [] h = if sK h a0 = 11 then if okx h (hR h a0 1) 20 (61 + x1) then EX d 148 23 [] [] (pI h (hR h a0 1) (ix (61 + x1)) (-1)) else none else none := (EX_at bk_Mod_unhooks_13 _ _ _).trans rfl
theorem bk_Mod_unhooks_23 : blk 148 23 = some (((cd_Mod_unhooks.lookup 23).getD ([], 0, []))) := rfl
theorem Mod_unhooks_23 (d : Nat) (h : Hp) : EX d 148 23 [] [] h = some (.inl 0, h) := (EX_at bk_Mod_unhooks_23 _ _ _).trans rfl
/-! unhook(I)I of HookOverModel: method 149 -/
theorem bk_Mod_unhook_0 : blk 149 0 = some (((cd_Mod_unhook.lookup 0).getD ([], 0, []))) := rfl
theorem Mod_unhook_0 (d : Nat) (a0 : Nat) (x1 : Int) (h : Hp) : EX d 149 0 [(0, .inr (.inr a0)), (1, .inl x1)] [] h = if sK h a0 = 11 then EX d 149 5 [(0, .inr (.inr a0)), (1, .inl x1)] [] (pI h a0 0 0) else none := (EX_at bk_Mod_unhook_0 _ _ _).trans rfl
theorem bk_Mod_unhook_5 : blk 149 5 = some (((cd_Mod_unhook.lookup 5).getD ([], 0, []))) := rfl
theorem Mod_unhook_5 (d : Nat) (a0 : Nat) (x1 : Int) (h : Hp) : EX d 149 5 [(0, .inr (.inr a0)), (1, .inl x1)] [] h = if sK h a0 = 11 then bak (EX d 149) 10 [(0, .inr (.inr a0)), (1, .inl x1)] [] false (cal d 147 [.inr (.inr a0), .inl x1] h) else none := (EX_at bk_Mod_unhook_5 _ _ _).trans rfl
theorem bk_Mod_unhook_10 : blk 149 10 = some (((cd_Mod_unhook.lookup 10).getD ([], 0, []))) := rfl
theorem Mod_unhook_10 (d : Nat) (a0 : Nat) (x1 : Int) (s0 : Int) (h : Hp) : EX d 149 10 [(0, .inr (.inr a0)), (1, .inl x1)] [.inl s0] h = if (wr s0) = 0 then EX d 149 20 [(0, .inr (.inr a0)), (1, .inl x1)] [] h else EX d 149 15 [(2, .inl s0)] [] h := (EX_at bk_Mod_unhook_10 _ _ _).trans rfl
theorem bk_Mod_unhook_15 : blk 149 15 = some (((cd_Mod_unhook.lookup 15).getD ([], 0, []))) := rfl
theorem Mod_unhook_15 (d : Nat) (x2 : Int) (h : Hp) : EX d 149 15 [(2, .inl x2)] [] h = some (.inl ((-10) - x2), h) := (EX_at bk_Mod_unhook_15 _ _ _).trans rfl
theorem bk_Mod_unhook_20 : blk 149 20 = some (((cd_Mod_unhook.lookup 20).getD ([], 0, []))) := rfl
theorem Mod_unhook_20 (d : Nat) (a0 : Nat) (x1 : Int) (h : Hp) : EX d 149 20 [(0, .inr (.inr a0)), (1, .inl x1)] [] h = if sK h a0 = 11 then bak (EX d 149) 24 [(0, .inr (.inr a0)), (1, .inl x1)] [] true (cal d 137 [.inr (.inr a0)] h) else none := (EX_at bk_Mod_unhook_20 _ _ _).trans rfl
theorem bk_Mod_unhook_24 : blk 149 24 = some (((cd_Mod_unhook.lookup 24).getD ([], 0, []))) := rfl
theorem Mod_unhook_24 (d : Nat) (a0 : Nat) (x1 : Int) (h : Hp) : EX d 149 24 [(0, .inr (.inr a0)), (1, .inl x1)] [] h = if sK h a0 = 11 then bak (EX d 149) 29 [(0, .inr (.inr a0))] [] true (cal d 148 [.inr (.inr a0), .inl x1] h) else none := (EX_at bk_Mod_unhook_24 _ _ _).trans rfl
theorem bk_Mod_unhook_29 : blk 149 29 = some (((cd_Mod_unhook.lookup 29).getD ([], 0, []))) := rfl
theorem Mod_unhook_29 (d : Nat) (a0 : Nat) (h : Hp) : EX d 149 29 [(0, .inr (.inr a0))] [] h = if sK h a0 = 11 then bak (EX d 149) 33 [(0, .inr (.inr a0))] [] true (cal d 142 [.inr (.inr a0)] h) else none := (EX_at bk_Mod_unhook_29 _ _ _).trans rfl
theorem bk_Mod_unhook_33 : blk 149 33 = some (((cd_Mod_unhook.lookup 33).getD ([], 0, []))) := rfl
theorem Mod_unhook_33 (d : Nat) (a0 : Nat) (h : Hp) : EX d 149 33 [(0, .inr (.inr a0))] [] h = if sK h a0 = 11 then if okx h (hR h a0 1) 20 60 then if sK h a0 = 11 then if okx h (hR h a0 16) 20 1 then some (.inl ((hI h (hR h a0 1) 60) - (hI h (hR h a0 16) 1)), h) else none else none else none else none := (EX_at bk_Mod_unhook_33 _ _ _).trans rfl
/-! undo(I)I of HookOverModel: method 153 -/
theorem bk_Mod_undo_0 : blk 153 0 = some (((cd_Mod_undo.lookup 0).getD ([], 0, []))) := rfl
theorem Mod_undo_0 (d : Nat) (a0 : Nat) (x1 : Int) (h : Hp) : EX d 153 0 [(0, .inr (.inr a0)), (1, .inl x1)] [] h = if sK h a0 = 11 then EX d 153 5 [(0, .inr (.inr a0)), (1, .inl x1)] [] (pI h a0 0 0) else none := (EX_at bk_Mod_undo_0 _ _ _).trans rfl
theorem bk_Mod_undo_5 : blk 153 5 = some (((cd_Mod_undo.lookup 5).getD ([], 0, []))) := rfl
theorem Mod_undo_5 (d : Nat) (a0 : Nat) (x1 : Int) (h : Hp) : EX d 153 5 [(0, .inr (.inr a0)), (1, .inl x1)] [] h = bak (EX d 153) 14 [(0, .inr (.inr a0)), (1, .inl x1)] [] false (cal d 71 [.inr (.inl (wr x1)), .inr (.inl 1), .inr (.inl 10)] h) := (EX_at bk_Mod_undo_5 _ _ _).trans rfl
theorem bk_Mod_undo_14 : blk 153 14 = some (((cd_Mod_undo.lookup 14).getD ([], 0, []))) := rfl
theorem Mod_undo_14 (d : Nat) (a0 : Nat) (x1 : Int) (s0 : Int) (h : Hp) : EX d 153 14 [(0, .inr (.inr a0)), (1, .inl x1)] [.inl s0] h = if (wr s0) = 0 then EX d 153 28 [] [] h else EX d 153 17 [(0, .inr (.inr a0)), (1, .inl x1)] [] h := (EX_at bk_Mod_undo_14 _ _ _).trans rfl
theorem bk_Mod_undo_17 : blk 153 17 = some (((cd_Mod_undo.lookup 17).getD ([], 0, []))) := rfl
theorem Mod_undo_17 (d : Nat) (a0 : Nat) (x1 : Int) (h : Hp) : EX d 153 17 [(0, .inr (.inr a0)), (1, .inl x1)] [] h = if sK h a0 = 11 then if okx h (hR h a0 1) 20 73 then if (wr (hI h (hR h a0 1) 73)) < (wr x1) then EX d 153 28 [] [] h else EX d 153 31 [(0, .inr (.inr a0)), (1, .inl x1)] [] h else none else none := (EX_at bk_Mod_undo_17 _ _ _).trans rfl
theorem bk_Mod_undo_28 : blk 153 28 = some (((cd_Mod_undo.lookup 28).getD ([], 0, []))) := rfl
theorem Mod_undo_28 (d : Nat) (h : Hp) : EX d 153 28 [] [] h = some (.inl (-3), h) := (EX_at bk_Mod_undo_28 _ _ _).trans rfl
theorem bk_Mod_undo_31 : blk 153 31 = some (((cd_Mod_undo.lookup 31).getD ([], 0, []))) := rfl
theorem Mod_undo_31 (d : Nat) (a0 : Nat) (x1 : Int) (h : Hp) : EX d 153 31 [(0, .inr (.inr a0)), (1, .inl x1)] [] h = if sK h a0 = 11 then if okx h (hR h a0 1) 20 73 then if okx h (hR h a0 1) 20 73 then EX d 153 42 [(0, .inr (.inr a0))] [] (pI h (hR h a0 1) 73 ((hI h (hR h a0 1) 73) - x1)) else none else none else none := (EX_at bk_Mod_undo_31 _ _ _).trans rfl
theorem bk_Mod_undo_42 : blk 153 42 = some (((cd_Mod_undo.lookup 42).getD ([], 0, []))) := rfl
theorem Mod_undo_42 (d : Nat) (a0 : Nat) (h : Hp) : EX d 153 42 [(0, .inr (.inr a0))] [] h = EX d 153 44 [(0, .inr (.inr a0)), (2, .inl 0)] [] h := (EX_at bk_Mod_undo_42 _ _ _).trans rfl
theorem bk_Mod_undo_44 : blk 153 44 = some (((cd_Mod_undo.lookup 44).getD ([], 0, []))) := rfl
theorem Mod_undo_44 (d : Nat) (a0 : Nat) (x2 : Int) (h : Hp) : EX d 153 44 [(0, .inr (.inr a0)), (2, .inl x2)] [] h = if (wr x2) < 14 then EX d 153 50 [(0, .inr (.inr a0)), (2, .inl x2)] [] h else EX d 153 85 [(0, .inr (.inr a0))] [] h := (EX_at bk_Mod_undo_44 _ _ _).trans rfl
theorem bk_Mod_undo_50 : blk 153 50 = some (((cd_Mod_undo.lookup 50).getD ([], 0, []))) := rfl
theorem Mod_undo_50 (d : Nat) (a0 : Nat) (x2 : Int) (h : Hp) : EX d 153 50 [(0, .inr (.inr a0)), (2, .inl x2)] [] h = if sK h a0 = 11 then if sK h a0 = 11 then if sK h a0 = 11 then if okx h (hR h a0 1) 20 73 then if okx h (hR h a0 1) 20 ((74 + (14 * (hI h (hR h a0 1) 73))) + x2) then if okx h (hR h a0 1) 20 (59 + x2) then EX d 153 79 [(0, .inr (.inr a0)), (2, .inl x2)] [] (pI h (hR h a0 1) (ix (59 + x2)) (hI h (hR h a0 1) (ix ((74 + (14 * (hI h (hR h a0 1) 73))) + x2)))) else none else none else none else none else none else none := (EX_at bk_Mod_undo_50 _ _ _).trans rfl
theorem bk_Mod_undo_79 : blk 153 79 = some (((cd_Mod_undo.lookup 79).getD ([], 0, []))) := rfl
theorem Mod_undo_79 (d : Nat) (a0 : Nat) (x2 : Int) (h : Hp) : EX d 153 79 [(0, .inr (.inr a0)), (2, .inl x2)] [] h = EX d 153 44 [(0, .inr (.inr a0)), (2, .inl (x2 + 1))] [] h := (EX_at bk_Mod_undo_79 _ _ _).trans rfl
theorem bk_Mod_undo_85 : blk 153 85 = some (((cd_Mod_undo.lookup 85).getD ([], 0, []))) := rfl
theorem Mod_undo_85 (d : Nat) (a0 : Nat) (h : Hp) : EX d 153 85 [(0, .inr (.inr a0))] [] h = if sK h a0 = 11 then if okx h (hR h a0 1) 20 73 then some (.inl (hI h (hR h a0 1) 73), h) else none else none := (EX_at bk_Mod_undo_85 _ _ _).trans rfl
/-! noTray(I)I of HookOverModel: method 162 -/
theorem bk_Mod_noTray_0 : blk 162 0 = some (((cd_Mod_noTray.lookup 0).getD ([], 0, []))) := rfl
theorem Mod_noTray_0 (d : Nat) (a0 : Nat) (x1 : Int) (h : Hp) : EX d 162 0 [(0, .inr (.inr a0)), (1, .inl x1)] [] h = bak (EX d 162) 9 [(0, .inr (.inr a0)), (1, .inl x1)] [] false (cal d 71 [.inr (.inl (wr x1)), .inr (.inl 0), .inr (.inl 3)] h) := (EX_at bk_Mod_noTray_0 _ _ _).trans rfl
theorem bk_Mod_noTray_9 : blk 162 9 = some (((cd_Mod_noTray.lookup 9).getD ([], 0, []))) := rfl
theorem Mod_noTray_9 (d : Nat) (a0 : Nat) (x1 : Int) (s0 : Int) (h : Hp) : EX d 162 9 [(0, .inr (.inr a0)), (1, .inl x1)] [.inl s0] h = if (wr s0) = 0 then EX d 162 12 [] [] h else EX d 162 17 [(0, .inr (.inr a0)), (1, .inl x1)] [] h := (EX_at bk_Mod_noTray_9 _ _ _).trans rfl
theorem bk_Mod_noTray_12 : blk 162 12 = some (((cd_Mod_noTray.lookup 12).getD ([], 0, []))) := rfl
theorem Mod_noTray_12 (d : Nat) (h : Hp) : EX d 162 12 [] [] h = EX d 162 33 [] [.inl (-2)] h := (EX_at bk_Mod_noTray_12 _ _ _).trans rfl
theorem bk_Mod_noTray_17 : blk 162 17 = some (((cd_Mod_noTray.lookup 17).getD ([], 0, []))) := rfl
theorem Mod_noTray_17 (d : Nat) (a0 : Nat) (x1 : Int) (h : Hp) : EX d 162 17 [(0, .inr (.inr a0)), (1, .inl x1)] [] h = if sK h a0 = 11 then if okx h (hR h a0 33) 20 x1 then if (wr (hI h (hR h a0 33) (ix x1))) = (-1) then EX d 162 27 [] [] h else EX d 162 32 [] [] h else none else none := (EX_at bk_Mod_noTray_17 _ _ _).trans rfl
theorem bk_Mod_noTray_27 : blk 162 27 = some (((cd_Mod_noTray.lookup 27).getD ([], 0, []))) := rfl
theorem Mod_noTray_27 (d : Nat) (h : Hp) : EX d 162 27 [] [] h = EX d 162 33 [] [.inl (-6)] h := (EX_at bk_Mod_noTray_27 _ _ _).trans rfl
theorem bk_Mod_noTray_32 : blk 162 32 = some (((cd_Mod_noTray.lookup 32).getD ([], 0, []))) := rfl
theorem Mod_noTray_32 (d : Nat) (h : Hp) : EX d 162 32 [] [] h = EX d 162 33 [] [.inl 0] h := (EX_at bk_Mod_noTray_32 _ _ _).trans rfl
theorem bk_Mod_noTray_33 : blk 162 33 = some (((cd_Mod_noTray.lookup 33).getD ([], 0, []))) := rfl
theorem Mod_noTray_33 (d : Nat) (s0 : Int) (h : Hp) : EX d 162 33 [] [.inl s0] h = some (.inl s0, h) := (EX_at bk_Mod_noTray_33 _ _ _).trans rfl
/-! whyNotTold(J)I of HookOverModel: method 163 -/
theorem bk_Mod_whyNotTold_0 : blk 163 0 = some (((cd_Mod_whyNotTold.lookup 0).getD ([], 0, []))) := rfl
theorem Mod_whyNotTold_0 (d : Nat) (a0 : Nat) (y1 : Int) (h : Hp) : EX d 163 0 [(0, .inr (.inr a0)), (1, .inr (.inl y1))] [] h = bak (EX d 163) 8 [(0, .inr (.inr a0)), (1, .inr (.inl y1))] [] false (cal d 71 [.inr (.inl y1), .inr (.inl 0), .inr (.inl 143)] h) := (EX_at bk_Mod_whyNotTold_0 _ _ _).trans rfl
theorem bk_Mod_whyNotTold_8 : blk 163 8 = some (((cd_Mod_whyNotTold.lookup 8).getD ([], 0, []))) := rfl
theorem Mod_whyNotTold_8 (d : Nat) (a0 : Nat) (y1 : Int) (s0 : Int) (h : Hp) : EX d 163 8 [(0, .inr (.inr a0)), (1, .inr (.inl y1))] [.inl s0] h = if (wr s0) = 0 then EX d 163 29 [(0, .inr (.inr a0)), (1, .inr (.inl y1))] [] h else EX d 163 11 [(0, .inr (.inr a0)), (1, .inr (.inl y1))] [] h := (EX_at bk_Mod_whyNotTold_8 _ _ _).trans rfl
theorem bk_Mod_whyNotTold_11 : blk 163 11 = some (((cd_Mod_whyNotTold.lookup 11).getD ([], 0, []))) := rfl
theorem Mod_whyNotTold_11 (d : Nat) (a0 : Nat) (y1 : Int) (h : Hp) : EX d 163 11 [(0, .inr (.inr a0)), (1, .inr (.inl y1))] [] h = if sK h a0 = 11 then bak (EX d 163) 28 [] [] false (cal d 98 [.inr (.inr (hR h a0 1)), .inl (bDiv y1 12), .inl (bRem y1 12)] h) else none := (EX_at bk_Mod_whyNotTold_11 _ _ _).trans rfl
theorem bk_Mod_whyNotTold_28 : blk 163 28 = some (((cd_Mod_whyNotTold.lookup 28).getD ([], 0, []))) := rfl
theorem Mod_whyNotTold_28 (d : Nat) (s0 : Int) (h : Hp) : EX d 163 28 [] [.inl s0] h = some (.inl s0, h) := (EX_at bk_Mod_whyNotTold_28 _ _ _).trans rfl
theorem bk_Mod_whyNotTold_29 : blk 163 29 = some (((cd_Mod_whyNotTold.lookup 29).getD ([], 0, []))) := rfl
theorem Mod_whyNotTold_29 (d : Nat) (a0 : Nat) (y1 : Int) (h : Hp) : EX d 163 29 [(0, .inr (.inr a0)), (1, .inr (.inl y1))] [] h = bak (EX d 163) 39 [(0, .inr (.inr a0)), (1, .inr (.inl y1))] [] false (cal d 71 [.inr (.inl y1), .inr (.inl 200), .inr (.inl 211)] h) := (EX_at bk_Mod_whyNotTold_29 _ _ _).trans rfl
theorem bk_Mod_whyNotTold_39 : blk 163 39 = some (((cd_Mod_whyNotTold.lookup 39).getD ([], 0, []))) := rfl
theorem Mod_whyNotTold_39 (d : Nat) (a0 : Nat) (y1 : Int) (s0 : Int) (h : Hp) : EX d 163 39 [(0, .inr (.inr a0)), (1, .inr (.inl y1))] [.inl s0] h = if (wr s0) = 0 then EX d 163 55 [] [] h else EX d 163 42 [(0, .inr (.inr a0)), (1, .inr (.inl y1))] [] h := (EX_at bk_Mod_whyNotTold_39 _ _ _).trans rfl
theorem bk_Mod_whyNotTold_42 : blk 163 42 = some (((cd_Mod_whyNotTold.lookup 42).getD ([], 0, []))) := rfl
theorem Mod_whyNotTold_42 (d : Nat) (a0 : Nat) (y1 : Int) (h : Hp) : EX d 163 42 [(0, .inr (.inr a0)), (1, .inr (.inl y1))] [] h = if sK h a0 = 11 then bak (EX d 163) 52 [] [] false (cal d 147 [.inr (.inr a0), .inl (y1 - 200)] h) else none := (EX_at bk_Mod_whyNotTold_42 _ _ _).trans rfl
theorem bk_Mod_whyNotTold_52 : blk 163 52 = some (((cd_Mod_whyNotTold.lookup 52).getD ([], 0, []))) := rfl
theorem Mod_whyNotTold_52 (d : Nat) (s0 : Int) (h : Hp) : EX d 163 52 [] [.inl s0] h = EX d 163 56 [] [.inl s0] h := (EX_at bk_Mod_whyNotTold_52 _ _ _).trans rfl
theorem bk_Mod_whyNotTold_55 : blk 163 55 = some (((cd_Mod_whyNotTold.lookup 55).getD ([], 0, []))) := rfl
theorem Mod_whyNotTold_55 (d : Nat) (h : Hp) : EX d 163 55 [] [] h = EX d 163 56 [] [.inl 1] h := (EX_at bk_Mod_whyNotTold_55 _ _ _).trans rfl
theorem bk_Mod_whyNotTold_56 : blk 163 56 = some (((cd_Mod_whyNotTold.lookup 56).getD ([], 0, []))) := rfl
theorem Mod_whyNotTold_56 (d : Nat) (s0 : Int) (h : Hp) : EX d 163 56 [] [.inl s0] h = some (.inl s0, h) := (EX_at bk_Mod_whyNotTold_56 _ _ _).trans rfl
/-! tells(I)I of HookOverModel: method 164 -/
theorem bk_Mod_tells_0 : blk 164 0 = some (((cd_Mod_tells.lookup 0).getD ([], 0, []))) := rfl
theorem Mod_tells_0 (d : Nat) (a0 : Nat) (x1 : Int) (h : Hp) : EX d 164 0 [(0, .inr (.inr a0)), (1, .inl x1)] [] h = if sK h a0 = 11 then EX d 164 5 [(0, .inr (.inr a0)), (1, .inl x1)] [] (pI h a0 17 0) else none := (EX_at bk_Mod_tells_0 _ _ _).trans rfl
theorem bk_Mod_tells_5 : blk 164 5 = some (((cd_Mod_tells.lookup 5).getD ([], 0, []))) := rfl
theorem Mod_tells_5 (d : Nat) (a0 : Nat) (x1 : Int) (h : Hp) : EX d 164 5 [(0, .inr (.inr a0)), (1, .inl x1)] [] h = EX d 164 7 [(0, .inr (.inr a0)), (1, .inl x1), (2, .inl 0)] [] h := (EX_at bk_Mod_tells_5 _ _ _).trans rfl
theorem bk_Mod_tells_7 : blk 164 7 = some (((cd_Mod_tells.lookup 7).getD ([], 0, []))) := rfl
theorem Mod_tells_7 (d : Nat) (a0 : Nat) (x1 : Int) (x2 : Int) (h : Hp) : EX d 164 7 [(0, .inr (.inr a0)), (1, .inl x1), (2, .inl x2)] [] h = if sK h a0 = 11 then if okx h (hR h a0 34) 20 x1 then if (wr x2) < (wr (hI h (hR h a0 34) (ix x1))) then EX d 164 17 [(0, .inr (.inr a0)), (1, .inl x1), (2, .inl x2)] [] h else EX d 164 88 [(0, .inr (.inr a0)), (1, .inl x1)] [] h else none else none := (EX_at bk_Mod_tells_7 _ _ _).trans rfl
theorem bk_Mod_tells_17 : blk 164 17 = some (((cd_Mod_tells.lookup 17).getD ([], 0, []))) := rfl
theorem Mod_tells_17 (d : Nat) (a0 : Nat) (x1 : Int) (x2 : Int) (h : Hp) : EX d 164 17 [(0, .inr (.inr a0)), (1, .inl x1), (2, .inl x2)] [] h = if sK h a0 = 11 then if okx h (hR h a0 35) 21 ((40 * x1) + x2) then if sK h a0 = 11 then bak (EX d 164) 35 [(0, .inr (.inr a0)), (1, .inl x1), (2, .inl x2), (3, .inr (.inl (hL h (hR h a0 35) (ix ((40 * x1) + x2)))))] [.inr (.inr a0)] false (cal d 163 [.inr (.inr a0), .inr (.inl (hL h (hR h a0 35) (ix ((40 * x1) + x2))))] h) else none else none else none := (EX_at bk_Mod_tells_17 _ _ _).trans rfl
theorem bk_Mod_tells_35 : blk 164 35 = some (((cd_Mod_tells.lookup 35).getD ([], 0, []))) := rfl
theorem Mod_tells_35 (d : Nat) (a0 : Nat) (x1 : Int) (x2 : Int) (y3 : Int) (r0 : Nat) (s1 : Int) (h : Hp) : EX d 164 35 [(0, .inr (.inr a0)), (1, .inl x1), (2, .inl x2), (3, .inr (.inl y3))] [.inl s1, .inr (.inr r0)] h = if sK h r0 = 11 then EX d 164 38 [(0, .inr (.inr a0)), (1, .inl x1), (2, .inl x2), (3, .inr (.inl y3))] [] (pI h r0 17 s1) else none := (EX_at bk_Mod_tells_35 _ _ _).trans rfl
theorem bk_Mod_tells_38 : blk 164 38 = some (((cd_Mod_tells.lookup 38).getD ([], 0, []))) := rfl
theorem Mod_tells_38 (d : Nat) (a0 : Nat) (x1 : Int) (x2 : Int) (y3 : Int) (h : Hp) : EX d 164 38 [(0, .inr (.inr a0)), (1, .inl x1), (2, .inl x2), (3, .inr (.inl y3))] [] h = if sK h a0 = 11 then if (wr (hI h a0 17)) = 0 then EX d 164 47 [(0, .inr (.inr a0)), (1, .inl x1), (2, .inl x2), (3, .inr (.inl y3))] [] h else EX d 164 45 [(2, .inl x2)] [] h else none := (EX_at bk_Mod_tells_38 _ _ _).trans rfl
theorem bk_Mod_tells_45 : blk 164 45 = some (((cd_Mod_tells.lookup 45).getD ([], 0, []))) := rfl
theorem Mod_tells_45 (d : Nat) (x2 : Int) (h : Hp) : EX d 164 45 [(2, .inl x2)] [] h = some (.inl x2, h) := (EX_at bk_Mod_tells_45 _ _ _).trans rfl
theorem bk_Mod_tells_47 : blk 164 47 = some (((cd_Mod_tells.lookup 47).getD ([], 0, []))) := rfl
theorem Mod_tells_47 (d : Nat) (a0 : Nat) (x1 : Int) (x2 : Int) (y3 : Int) (h : Hp) : EX d 164 47 [(0, .inr (.inr a0)), (1, .inl x1), (2, .inl x2), (3, .inr (.inl y3))] [] h = if (wr (lCmp y3 200)) < 0 then EX d 164 55 [(0, .inr (.inr a0)), (1, .inl x1), (2, .inl x2), (3, .inr (.inl y3))] [] h else EX d 164 72 [(0, .inr (.inr a0)), (1, .inl x1), (2, .inl x2), (3, .inr (.inl y3))] [] h := (EX_at bk_Mod_tells_47 _ _ _).trans rfl
theorem bk_Mod_tells_55 : blk 164 55 = some (((cd_Mod_tells.lookup 55).getD ([], 0, []))) := rfl
theorem Mod_tells_55 (d : Nat) (a0 : Nat) (x1 : Int) (x2 : Int) (y3 : Int) (h : Hp) : EX d 164 55 [(0, .inr (.inr a0)), (1, .inl x1), (2, .inl x2), (3, .inr (.inl y3))] [] h = if sK h a0 = 11 then bak (EX d 164) 69 [(0, .inr (.inr a0)), (1, .inl x1), (2, .inl x2)] [] true (cal d 141 [.inr (.inr a0), .inl (bDiv y3 12), .inl (bRem y3 12)] h) else none := (EX_at bk_Mod_tells_55 _ _ _).trans rfl
theorem bk_Mod_tells_69 : blk 164 69 = some (((cd_Mod_tells.lookup 69).getD ([], 0, []))) := rfl
theorem Mod_tells_69 (d : Nat) (a0 : Nat) (x1 : Int) (x2 : Int) (h : Hp) : EX d 164 69 [(0, .inr (.inr a0)), (1, .inl x1), (2, .inl x2)] [] h = EX d 164 82 [(0, .inr (.inr a0)), (1, .inl x1), (2, .inl x2)] [] h := (EX_at bk_Mod_tells_69 _ _ _).trans rfl
theorem bk_Mod_tells_72 : blk 164 72 = some (((cd_Mod_tells.lookup 72).getD ([], 0, []))) := rfl
theorem Mod_tells_72 (d : Nat) (a0 : Nat) (x1 : Int) (x2 : Int) (y3 : Int) (h : Hp) : EX d 164 72 [(0, .inr (.inr a0)), (1, .inl x1), (2, .inl x2), (3, .inr (.inl y3))] [] h = if sK h a0 = 11 then bak (EX d 164) 82 [(0, .inr (.inr a0)), (1, .inl x1), (2, .inl x2)] [] true (cal d 148 [.inr (.inr a0), .inl (y3 - 200)] h) else none := (EX_at bk_Mod_tells_72 _ _ _).trans rfl
theorem bk_Mod_tells_82 : blk 164 82 = some (((cd_Mod_tells.lookup 82).getD ([], 0, []))) := rfl
theorem Mod_tells_82 (d : Nat) (a0 : Nat) (x1 : Int) (x2 : Int) (h : Hp) : EX d 164 82 [(0, .inr (.inr a0)), (1, .inl x1), (2, .inl x2)] [] h = EX d 164 7 [(0, .inr (.inr a0)), (1, .inl x1), (2, .inl (x2 + 1))] [] h := (EX_at bk_Mod_tells_82 _ _ _).trans rfl
theorem bk_Mod_tells_88 : blk 164 88 = some (((cd_Mod_tells.lookup 88).getD ([], 0, []))) := rfl
theorem Mod_tells_88 (d : Nat) (a0 : Nat) (x1 : Int) (h : Hp) : EX d 164 88 [(0, .inr (.inr a0)), (1, .inl x1)] [] h = if sK h a0 = 11 then if okx h (hR h a0 34) 20 x1 then some (.inl (hI h (hR h a0 34) (ix x1)), h) else none else none := (EX_at bk_Mod_tells_88 _ _ _).trans rfl
/-! isAgain()V of HookOverModel: method 165 -/
theorem bk_Mod_isAgain_0 : blk 165 0 = some (((cd_Mod_isAgain.lookup 0).getD ([], 0, []))) := rfl
theorem Mod_isAgain_0 (d : Nat) (a0 : Nat) (h : Hp) : EX d 165 0 [(0, .inr (.inr a0))] [] h = EX d 165 2 [(0, .inr (.inr a0)), (1, .inl 0)] [] h := (EX_at bk_Mod_isAgain_0 _ _ _).trans rfl
theorem bk_Mod_isAgain_2 : blk 165 2 = some (((cd_Mod_isAgain.lookup 2).getD ([], 0, []))) := rfl
theorem Mod_isAgain_2 (d : Nat) (a0 : Nat) (x1 : Int) (h : Hp) : EX d 165 2 [(0, .inr (.inr a0)), (1, .inl x1)] [] h = if (wr x1) < 14 then EX d 165 8 [(0, .inr (.inr a0)), (1, .inl x1)] [] h else EX d 165 29 [] [] h := (EX_at bk_Mod_isAgain_2 _ _ _).trans rfl
theorem bk_Mod_isAgain_8 : blk 165 8 = some (((cd_Mod_isAgain.lookup 8).getD ([], 0, []))) := rfl
theorem Mod_isAgain_8 (d : Nat) (a0 : Nat) (x1 : Int) (h : Hp) : EX d 165 8 [(0, .inr (.inr a0)), (1, .inl x1)] [] h = if sK h a0 = 11 then if sK h a0 = 11 then if okx h (hR h a0 16) 20 x1 then if okx h (hR h a0 1) 20 (59 + x1) then EX d 165 23 [(0, .inr (.inr a0)), (1, .inl x1)] [] (pI h (hR h a0 1) (ix (59 + x1)) (hI h (hR h a0 16) (ix x1))) else none else none else none else none := (EX_at bk_Mod_isAgain_8 _ _ _).trans rfl
theorem bk_Mod_isAgain_23 : blk 165 23 = some (((cd_Mod_isAgain.lookup 23).getD ([], 0, []))) := rfl
theorem Mod_isAgain_23 (d : Nat) (a0 : Nat) (x1 : Int) (h : Hp) : EX d 165 23 [(0, .inr (.inr a0)), (1, .inl x1)] [] h = EX d 165 2 [(0, .inr (.inr a0)), (1, .inl (x1 + 1))] [] h := (EX_at bk_Mod_isAgain_23 _ _ _).trans rfl
theorem bk_Mod_isAgain_29 : blk 165 29 = some (((cd_Mod_isAgain.lookup 29).getD ([], 0, []))) := rfl
theorem Mod_isAgain_29 (d : Nat) (h : Hp) : EX d 165 29 [] [] h = some (.inl 0, h) := (EX_at bk_Mod_isAgain_29 _ _ _).trans rfl
/-! judge(II)I of HookOverModel: method 166 -/
theorem bk_Mod_judge_0 : blk 166 0 = some (((cd_Mod_judge.lookup 0).getD ([], 0, []))) := rfl
theorem Mod_judge_0 (d : Nat) (a0 : Nat) (x1 : Int) (x2 : Int) (h : Hp) : EX d 166 0 [(0, .inr (.inr a0)), (1, .inl x1), (2, .inl x2)] [] h = if sK h a0 = 11 then EX d 166 5 [(0, .inr (.inr a0)), (1, .inl x1), (2, .inl x2)] [] (pI h a0 0 0) else none := (EX_at bk_Mod_judge_0 _ _ _).trans rfl
theorem bk_Mod_judge_5 : blk 166 5 = some (((cd_Mod_judge.lookup 5).getD ([], 0, []))) := rfl
theorem Mod_judge_5 (d : Nat) (a0 : Nat) (x1 : Int) (x2 : Int) (h : Hp) : EX d 166 5 [(0, .inr (.inr a0)), (1, .inl x1), (2, .inl x2)] [] h = bak (EX d 166) 14 [(0, .inr (.inr a0)), (1, .inl x1), (2, .inl x2)] [] false (cal d 71 [.inr (.inl (wr x2)), .inr (.inl 0), .inr (.inl 3)] h) := (EX_at bk_Mod_judge_5 _ _ _).trans rfl
theorem bk_Mod_judge_14 : blk 166 14 = some (((cd_Mod_judge.lookup 14).getD ([], 0, []))) := rfl
theorem Mod_judge_14 (d : Nat) (a0 : Nat) (x1 : Int) (x2 : Int) (s0 : Int) (h : Hp) : EX d 166 14 [(0, .inr (.inr a0)), (1, .inl x1), (2, .inl x2)] [.inl s0] h = if (wr s0) = 0 then EX d 166 17 [] [] h else EX d 166 20 [(0, .inr (.inr a0)), (1, .inl x1), (2, .inl x2)] [] h := (EX_at bk_Mod_judge_14 _ _ _).trans rfl
theorem bk_Mod_judge_17 : blk 166 17 = some (((cd_Mod_judge.lookup 17).getD ([], 0, []))) := rfl
theorem Mod_judge_17 (d : Nat) (h : Hp) : EX d 166 17 [] [] h = some (.inl (-2), h) := (EX_at bk_Mod_judge_17 _ _ _).trans rfl
theorem bk_Mod_judge_20 : blk 166 20 = some (((cd_Mod_judge.lookup 20).getD ([], 0, []))) := rfl
theorem Mod_judge_20 (d : Nat) (a0 : Nat) (x1 : Int) (x2 : Int) (h : Hp) : EX d 166 20 [(0, .inr (.inr a0)), (1, .inl x1), (2, .inl x2)] [] h = if sK h a0 = 11 then bak (EX d 166) 25 [(0, .inr (.inr a0)), (1, .inl x1), (2, .inl x2)] [] false (cal d 162 [.inr (.inr a0), .inl x1] h) else none := (EX_at bk_Mod_judge_20 _ _ _).trans rfl
theorem bk_Mod_judge_25 : blk 166 25 = some (((cd_Mod_judge.lookup 25).getD ([], 0, []))) := rfl
theorem Mod_judge_25 (d : Nat) (a0 : Nat) (x1 : Int) (x2 : Int) (s0 : Int) (h : Hp) : EX d 166 25 [(0, .inr (.inr a0)), (1, .inl x1), (2, .inl x2)] [.inl s0] h = if (wr s0) = 0 then EX d 166 32 [(0, .inr (.inr a0)), (1, .inl x1), (2, .inl x2)] [] h else EX d 166 30 [(3, .inl s0)] [] h := (EX_at bk_Mod_judge_25 _ _ _).trans rfl
theorem bk_Mod_judge_30 : blk 166 30 = some (((cd_Mod_judge.lookup 30).getD ([], 0, []))) := rfl
theorem Mod_judge_30 (d : Nat) (x3 : Int) (h : Hp) : EX d 166 30 [(3, .inl x3)] [] h = some (.inl x3, h) := (EX_at bk_Mod_judge_30 _ _ _).trans rfl
theorem bk_Mod_judge_32 : blk 166 32 = some (((cd_Mod_judge.lookup 32).getD ([], 0, []))) := rfl
theorem Mod_judge_32 (d : Nat) (a0 : Nat) (x1 : Int) (x2 : Int) (h : Hp) : EX d 166 32 [(0, .inr (.inr a0)), (1, .inl x1), (2, .inl x2)] [] h = if sK h a0 = 11 then bak (EX d 166) 36 [(0, .inr (.inr a0)), (1, .inl x1), (2, .inl x2)] [] true (cal d 137 [.inr (.inr a0)] h) else none := (EX_at bk_Mod_judge_32 _ _ _).trans rfl
theorem bk_Mod_judge_36 : blk 166 36 = some (((cd_Mod_judge.lookup 36).getD ([], 0, []))) := rfl
theorem Mod_judge_36 (d : Nat) (a0 : Nat) (x1 : Int) (x2 : Int) (h : Hp) : EX d 166 36 [(0, .inr (.inr a0)), (1, .inl x1), (2, .inl x2)] [] h = if sK h a0 = 11 then bak (EX d 166) 41 [(0, .inr (.inr a0)), (2, .inl x2)] [] false (cal d 164 [.inr (.inr a0), .inl x1] h) else none := (EX_at bk_Mod_judge_36 _ _ _).trans rfl
theorem bk_Mod_judge_41 : blk 166 41 = some (((cd_Mod_judge.lookup 41).getD ([], 0, []))) := rfl
theorem Mod_judge_41 (d : Nat) (a0 : Nat) (x2 : Int) (s0 : Int) (h : Hp) : EX d 166 41 [(0, .inr (.inr a0)), (2, .inl x2)] [.inl s0] h = if sK h a0 = 11 then if okx h (hR h a0 1) 20 60 then if sK h a0 = 11 then if okx h (hR h a0 16) 20 1 then if sK h a0 = 11 then bak (EX d 166) 63 [(0, .inr (.inr a0)), (2, .inl x2), (4, .inl s0), (5, .inl ((hI h (hR h a0 1) 60) - (hI h (hR h a0 16) 1)))] [] false (cal d 126 [.inr (.inr a0)] h) else none else none else none else none else none := (EX_at bk_Mod_judge_41 _ _ _).trans rfl
theorem bk_Mod_judge_63 : blk 166 63 = some (((cd_Mod_judge.lookup 63).getD ([], 0, []))) := rfl
theorem Mod_judge_63 (d : Nat) (a0 : Nat) (x2 : Int) (x4 : Int) (x5 : Int) (s0 : Int) (h : Hp) : EX d 166 63 [(0, .inr (.inr a0)), (2, .inl x2), (4, .inl x4), (5, .inl x5)] [.inl s0] h = if sK h a0 = 11 then bak (EX d 166) 69 [(0, .inr (.inr a0)), (2, .inl x2), (4, .inl x4), (5, .inl x5), (6, .inl s0)] [] true (cal d 165 [.inr (.inr a0)] h) else none := (EX_at bk_Mod_judge_63 _ _ _).trans rfl
theorem bk_Mod_judge_69 : blk 166 69 = some (((cd_Mod_judge.lookup 69).getD ([], 0, []))) := rfl
theorem Mod_judge_69 (d : Nat) (a0 : Nat) (x2 : Int) (x4 : Int) (x5 : Int) (x6 : Int) (h : Hp) : EX d 166 69 [(0, .inr (.inr a0)), (2, .inl x2), (4, .inl x4), (5, .inl x5), (6, .inl x6)] [] h = if (wr x2) = 0 then EX d 166 73 [(0, .inr (.inr a0)), (4, .inl x4)] [] h else EX d 166 89 [(0, .inr (.inr a0)), (2, .inl x2), (5, .inl x5), (6, .inl x6)] [] h := (EX_at bk_Mod_judge_69 _ _ _).trans rfl
theorem bk_Mod_judge_73 : blk 166 73 = some (((cd_Mod_judge.lookup 73).getD ([], 0, []))) := rfl
theorem Mod_judge_73 (d : Nat) (a0 : Nat) (x4 : Int) (h : Hp) : EX d 166 73 [(0, .inr (.inr a0)), (4, .inl x4)] [] h = if sK h a0 = 11 then if (wr (hI h a0 17)) = 0 then EX d 166 80 [] [] h else EX d 166 84 [(4, .inl x4)] [] h else none := (EX_at bk_Mod_judge_73 _ _ _).trans rfl
theorem bk_Mod_judge_80 : blk 166 80 = some (((cd_Mod_judge.lookup 80).getD ([], 0, []))) := rfl
theorem Mod_judge_80 (d : Nat) (h : Hp) : EX d 166 80 [] [] h = EX d 166 113 [] [.inl (-1)] h := (EX_at bk_Mod_judge_80 _ _ _).trans rfl
theorem bk_Mod_judge_84 : blk 166 84 = some (((cd_Mod_judge.lookup 84).getD ([], 0, []))) := rfl
theorem Mod_judge_84 (d : Nat) (x4 : Int) (h : Hp) : EX d 166 84 [(4, .inl x4)] [] h = EX d 166 113 [] [.inl x4] h := (EX_at bk_Mod_judge_84 _ _ _).trans rfl
theorem bk_Mod_judge_89 : blk 166 89 = some (((cd_Mod_judge.lookup 89).getD ([], 0, []))) := rfl
theorem Mod_judge_89 (d : Nat) (a0 : Nat) (x2 : Int) (x5 : Int) (x6 : Int) (h : Hp) : EX d 166 89 [(0, .inr (.inr a0)), (2, .inl x2), (5, .inl x5), (6, .inl x6)] [] h = if (wr x2) = 1 then EX d 166 94 [(0, .inr (.inr a0))] [] h else EX d 166 101 [(2, .inl x2), (5, .inl x5), (6, .inl x6)] [] h := (EX_at bk_Mod_judge_89 _ _ _).trans rfl
theorem bk_Mod_judge_94 : blk 166 94 = some (((cd_Mod_judge.lookup 94).getD ([], 0, []))) := rfl
theorem Mod_judge_94 (d : Nat) (a0 : Nat) (h : Hp) : EX d 166 94 [(0, .inr (.inr a0))] [] h = if sK h a0 = 11 then EX d 166 113 [] [.inl (hI h a0 17)] h else none := (EX_at bk_Mod_judge_94 _ _ _).trans rfl
theorem bk_Mod_judge_101 : blk 166 101 = some (((cd_Mod_judge.lookup 101).getD ([], 0, []))) := rfl
theorem Mod_judge_101 (d : Nat) (x2 : Int) (x5 : Int) (x6 : Int) (h : Hp) : EX d 166 101 [(2, .inl x2), (5, .inl x5), (6, .inl x6)] [] h = if (wr x2) = 2 then EX d 166 106 [(5, .inl x5)] [] h else EX d 166 111 [(6, .inl x6)] [] h := (EX_at bk_Mod_judge_101 _ _ _).trans rfl
theorem bk_Mod_judge_106 : blk 166 106 = some (((cd_Mod_judge.lookup 106).getD ([], 0, []))) := rfl
theorem Mod_judge_106 (d : Nat) (x5 : Int) (h : Hp) : EX d 166 106 [(5, .inl x5)] [] h = EX d 166 113 [] [.inl x5] h := (EX_at bk_Mod_judge_106 _ _ _).trans rfl
theorem bk_Mod_judge_111 : blk 166 111 = some (((cd_Mod_judge.lookup 111).getD ([], 0, []))) := rfl
theorem Mod_judge_111 (d : Nat) (x6 : Int) (h : Hp) : EX d 166 111 [(6, .inl x6)] [] h = EX d 166 113 [] [.inl x6] h := (EX_at bk_Mod_judge_111 _ _ _).trans rfl
theorem bk_Mod_judge_113 : blk 166 113 = some (((cd_Mod_judge.lookup 113).getD ([], 0, []))) := rfl
theorem Mod_judge_113 (d : Nat) (s0 : Int) (h : Hp) : EX d 166 113 [] [.inl s0] h = some (.inl s0, h) := (EX_at bk_Mod_judge_113 _ _ _).trans rfl
/-! perform(I)I of HookOverModel: method 169 -/
theorem bk_Mod_perform_0 : blk 169 0 = some (((cd_Mod_perform.lookup 0).getD ([], 0, []))) := rfl
theorem Mod_perform_0 (d : Nat) (a0 : Nat) (x1 : Int) (h : Hp) : EX d 169 0 [(0, .inr (.inr a0)), (1, .inl x1)] [] h = if sK h a0 = 11 then EX d 169 5 [(0, .inr (.inr a0)), (1, .inl x1)] [] (pI h a0 0 0) else none := (EX_at bk_Mod_perform_0 _ _ _).trans rfl
theorem bk_Mod_perform_5 : blk 169 5 = some (((cd_Mod_perform.lookup 5).getD ([], 0, []))) := rfl
theorem Mod_perform_5 (d : Nat) (a0 : Nat) (x1 : Int) (h : Hp) : EX d 169 5 [(0, .inr (.inr a0)), (1, .inl x1)] [] h = if sK h a0 = 11 then bak (EX d 169) 10 [(0, .inr (.inr a0)), (1, .inl x1)] [] false (cal d 162 [.inr (.inr a0), .inl x1] h) else none := (EX_at bk_Mod_perform_5 _ _ _).trans rfl
theorem bk_Mod_perform_10 : blk 169 10 = some (((cd_Mod_perform.lookup 10).getD ([], 0, []))) := rfl
theorem Mod_perform_10 (d : Nat) (a0 : Nat) (x1 : Int) (s0 : Int) (h : Hp) : EX d 169 10 [(0, .inr (.inr a0)), (1, .inl x1)] [.inl s0] h = if (wr s0) = 0 then EX d 169 17 [(0, .inr (.inr a0)), (1, .inl x1)] [] h else EX d 169 15 [(2, .inl s0)] [] h := (EX_at bk_Mod_perform_10 _ _ _).trans rfl
theorem bk_Mod_perform_15 : blk 169 15 = some (((cd_Mod_perform.lookup 15).getD ([], 0, []))) := rfl
theorem Mod_perform_15 (d : Nat) (x2 : Int) (h : Hp) : EX d 169 15 [(2, .inl x2)] [] h = some (.inl x2, h) := (EX_at bk_Mod_perform_15 _ _ _).trans rfl
theorem bk_Mod_perform_17 : blk 169 17 = some (((cd_Mod_perform.lookup 17).getD ([], 0, []))) := rfl
theorem Mod_perform_17 (d : Nat) (a0 : Nat) (x1 : Int) (h : Hp) : EX d 169 17 [(0, .inr (.inr a0)), (1, .inl x1)] [] h = if sK h a0 = 11 then bak (EX d 169) 21 [(0, .inr (.inr a0)), (1, .inl x1)] [] true (cal d 137 [.inr (.inr a0)] h) else none := (EX_at bk_Mod_perform_17 _ _ _).trans rfl
theorem bk_Mod_perform_21 : blk 169 21 = some (((cd_Mod_perform.lookup 21).getD ([], 0, []))) := rfl
theorem Mod_perform_21 (d : Nat) (a0 : Nat) (x1 : Int) (h : Hp) : EX d 169 21 [(0, .inr (.inr a0)), (1, .inl x1)] [] h = if sK h a0 = 11 then bak (EX d 169) 26 [(0, .inr (.inr a0))] [] false (cal d 164 [.inr (.inr a0), .inl x1] h) else none := (EX_at bk_Mod_perform_21 _ _ _).trans rfl
theorem bk_Mod_perform_26 : blk 169 26 = some (((cd_Mod_perform.lookup 26).getD ([], 0, []))) := rfl
theorem Mod_perform_26 (d : Nat) (a0 : Nat) (s0 : Int) (h : Hp) : EX d 169 26 [(0, .inr (.inr a0))] [.inl s0] h = if 0 < (wr s0) then EX d 169 31 [(0, .inr (.inr a0)), (3, .inl s0)] [] h else EX d 169 35 [(3, .inl s0)] [] h := (EX_at bk_Mod_perform_26 _ _ _).trans rfl
theorem bk_Mod_perform_31 : blk 169 31 = some (((cd_Mod_perform.lookup 31).getD ([], 0, []))) := rfl
theorem Mod_perform_31 (d : Nat) (a0 : Nat) (x3 : Int) (h : Hp) : EX d 169 31 [(0, .inr (.inr a0)), (3, .inl x3)] [] h = if sK h a0 = 11 then bak (EX d 169) 35 [(3, .inl x3)] [] true (cal d 142 [.inr (.inr a0)] h) else none := (EX_at bk_Mod_perform_31 _ _ _).trans rfl
theorem bk_Mod_perform_35 : blk 169 35 = some (((cd_Mod_perform.lookup 35).getD ([], 0, []))) := rfl
theorem Mod_perform_35 (d : Nat) (x3 : Int) (h : Hp) : EX d 169 35 [(3, .inl x3)] [] h = some (.inl x3, h) := (EX_at bk_Mod_perform_35 _ _ _).trans rfl
/-! draw(I)I of HookOverModel: method 173 -/
theorem bk_Mod_draw_0 : blk 173 0 = some (((cd_Mod_draw.lookup 0).getD ([], 0, []))) := rfl
theorem Mod_draw_0 (d : Nat) (a0 : Nat) (x1 : Int) (h : Hp) : EX d 173 0 [(0, .inr (.inr a0)), (1, .inl x1)] [] h = if sK h a0 = 11 then if sK h a0 = 11 then EX d 173 16 [(0, .inr (.inr a0)), (1, .inl x1)] [] (pI h a0 18 ((1103515245 * (hI h a0 18)) + 12345)) else none else none := (EX_at bk_Mod_draw_0 _ _ _).trans rfl
theorem bk_Mod_draw_16 : blk 173 16 = some (((cd_Mod_draw.lookup 16).getD ([], 0, []))) := rfl
theorem Mod_draw_16 (d : Nat) (a0 : Nat) (x1 : Int) (h : Hp) : EX d 173 16 [(0, .inr (.inr a0)), (1, .inl x1)] [] h = if sK h a0 = 11 then if (wr x1) = 0 then none else some (.inl (bRem (bUshr (hI h a0 18) 16) x1), h) else none := (EX_at bk_Mod_draw_16 _ _ _).trans rfl
/-! day(II)I of HookOverModel: method 174 -/
theorem bk_Mod_day_0 : blk 174 0 = some (((cd_Mod_day.lookup 0).getD ([], 0, []))) := rfl
theorem Mod_day_0 (d : Nat) (a0 : Nat) (x1 : Int) (x2 : Int) (h : Hp) : EX d 174 0 [(0, .inr (.inr a0)), (1, .inl x1), (2, .inl x2)] [] h = if sK h a0 = 11 then EX d 174 5 [(0, .inr (.inr a0)), (1, .inl x1), (2, .inl x2)] [] (pI h a0 0 0) else none := (EX_at bk_Mod_day_0 _ _ _).trans rfl
theorem bk_Mod_day_5 : blk 174 5 = some (((cd_Mod_day.lookup 5).getD ([], 0, []))) := rfl
theorem Mod_day_5 (d : Nat) (a0 : Nat) (x1 : Int) (x2 : Int) (h : Hp) : EX d 174 5 [(0, .inr (.inr a0)), (1, .inl x1), (2, .inl x2)] [] h = bak (EX d 174) 14 [(0, .inr (.inr a0)), (1, .inl x1), (2, .inl x2)] [] false (cal d 71 [.inr (.inl (wr x2)), .inr (.inl 1), .inr (.inl 60)] h) := (EX_at bk_Mod_day_5 _ _ _).trans rfl
theorem bk_Mod_day_14 : blk 174 14 = some (((cd_Mod_day.lookup 14).getD ([], 0, []))) := rfl
theorem Mod_day_14 (d : Nat) (a0 : Nat) (x1 : Int) (x2 : Int) (s0 : Int) (h : Hp) : EX d 174 14 [(0, .inr (.inr a0)), (1, .inl x1), (2, .inl x2)] [.inl s0] h = if (wr s0) = 0 then EX d 174 17 [] [] h else EX d 174 20 [(0, .inr (.inr a0)), (1, .inl x1), (2, .inl x2)] [] h := (EX_at bk_Mod_day_14 _ _ _).trans rfl
theorem bk_Mod_day_17 : blk 174 17 = some (((cd_Mod_day.lookup 17).getD ([], 0, []))) := rfl
theorem Mod_day_17 (d : Nat) (h : Hp) : EX d 174 17 [] [] h = some (.inl (-3), h) := (EX_at bk_Mod_day_17 _ _ _).trans rfl
theorem bk_Mod_day_20 : blk 174 20 = some (((cd_Mod_day.lookup 20).getD ([], 0, []))) := rfl
theorem Mod_day_20 (d : Nat) (a0 : Nat) (x1 : Int) (x2 : Int) (h : Hp) : EX d 174 20 [(0, .inr (.inr a0)), (1, .inl x1), (2, .inl x2)] [] h = if sK h a0 = 11 then if okx h (hR h a0 1) 20 1 then if (wr (hI h (hR h a0 1) 1)) = 0 then EX d 174 38 [] [] h else EX d 174 29 [(0, .inr (.inr a0)), (1, .inl x1), (2, .inl x2)] [] h else none else none := (EX_at bk_Mod_day_20 _ _ _).trans rfl
theorem bk_Mod_day_29 : blk 174 29 = some (((cd_Mod_day.lookup 29).getD ([], 0, []))) := rfl
theorem Mod_day_29 (d : Nat) (a0 : Nat) (x1 : Int) (x2 : Int) (h : Hp) : EX d 174 29 [(0, .inr (.inr a0)), (1, .inl x1), (2, .inl x2)] [] h = if sK h a0 = 11 then if okx h (hR h a0 1) 20 2 then if (wr (hI h (hR h a0 1) 2)) = 0 then EX d 174 38 [] [] h else EX d 174 41 [(0, .inr (.inr a0)), (1, .inl x1), (2, .inl x2)] [] h else none else none := (EX_at bk_Mod_day_29 _ _ _).trans rfl
theorem bk_Mod_day_38 : blk 174 38 = some (((cd_Mod_day.lookup 38).getD ([], 0, []))) := rfl
theorem Mod_day_38 (d : Nat) (h : Hp) : EX d 174 38 [] [] h = some (.inl (-5), h) := (EX_at bk_Mod_day_38 _ _ _).trans rfl
theorem bk_Mod_day_41 : blk 174 41 = some (((cd_Mod_day.lookup 41).getD ([], 0, []))) := rfl
theorem Mod_day_41 (d : Nat) (a0 : Nat) (x1 : Int) (x2 : Int) (h : Hp) : EX d 174 41 [(0, .inr (.inr a0)), (1, .inl x1), (2, .inl x2)] [] h = if sK h a0 = 11 then bak (EX d 174) 45 [(0, .inr (.inr a0)), (1, .inl x1), (2, .inl x2)] [] true (cal d 137 [.inr (.inr a0)] h) else none := (EX_at bk_Mod_day_41 _ _ _).trans rfl
theorem bk_Mod_day_45 : blk 174 45 = some (((cd_Mod_day.lookup 45).getD ([], 0, []))) := rfl
theorem Mod_day_45 (d : Nat) (a0 : Nat) (x1 : Int) (x2 : Int) (h : Hp) : EX d 174 45 [(0, .inr (.inr a0)), (1, .inl x1), (2, .inl x2)] [] h = if sK h a0 = 11 then EX d 174 50 [(0, .inr (.inr a0)), (2, .inl x2)] [] (pI h a0 18 x1) else none := (EX_at bk_Mod_day_45 _ _ _).trans rfl
theorem bk_Mod_day_50 : blk 174 50 = some (((cd_Mod_day.lookup 50).getD ([], 0, []))) := rfl
theorem Mod_day_50 (d : Nat) (a0 : Nat) (x2 : Int) (h : Hp) : EX d 174 50 [(0, .inr (.inr a0)), (2, .inl x2)] [] h = EX d 174 55 [(0, .inr (.inr a0)), (2, .inl x2), (3, .inl 0), (4, .inl 0)] [] h := (EX_at bk_Mod_day_50 _ _ _).trans rfl
theorem bk_Mod_day_55 : blk 174 55 = some (((cd_Mod_day.lookup 55).getD ([], 0, []))) := rfl
theorem Mod_day_55 (d : Nat) (a0 : Nat) (x2 : Int) (x3 : Int) (x4 : Int) (h : Hp) : EX d 174 55 [(0, .inr (.inr a0)), (2, .inl x2), (3, .inl x3), (4, .inl x4)] [] h = if (wr x4) < (wr x2) then EX d 174 61 [(0, .inr (.inr a0)), (2, .inl x2), (3, .inl x3), (4, .inl x4)] [] h else EX d 174 155 [(0, .inr (.inr a0)), (3, .inl x3)] [] h := (EX_at bk_Mod_day_55 _ _ _).trans rfl
theorem bk_Mod_day_61 : blk 174 61 = some (((cd_Mod_day.lookup 61).getD ([], 0, []))) := rfl
theorem Mod_day_61 (d : Nat) (a0 : Nat) (x2 : Int) (x3 : Int) (x4 : Int) (h : Hp) : EX d 174 61 [(0, .inr (.inr a0)), (2, .inl x2), (3, .inl x3), (4, .inl x4)] [] h = if sK h a0 = 11 then if okx h (hR h a0 1) 20 1 then if sK h a0 = 11 then bak (EX d 174) 71 [(0, .inr (.inr a0)), (2, .inl x2), (3, .inl x3), (4, .inl x4)] [] false (cal d 173 [.inr (.inr a0), .inl (hI h (hR h a0 1) 1)] h) else none else none else none := (EX_at bk_Mod_day_61 _ _ _).trans rfl
theorem bk_Mod_day_71 : blk 174 71 = some (((cd_Mod_day.lookup 71).getD ([], 0, []))) := rfl
theorem Mod_day_71 (d : Nat) (a0 : Nat) (x2 : Int) (x3 : Int) (x4 : Int) (s0 : Int) (h : Hp) : EX d 174 71 [(0, .inr (.inr a0)), (2, .inl x2), (3, .inl x3), (4, .inl x4)] [.inl s0] h = if sK h a0 = 11 then if okx h (hR h a0 1) 20 (61 + s0) then if (wr (hI h (hR h a0 1) (ix (61 + s0)))) = (-1) then EX d 174 91 [(0, .inr (.inr a0)), (2, .inl x2), (3, .inl x3), (4, .inl x4), (5, .inl s0)] [] h else EX d 174 87 [(0, .inr (.inr a0)), (2, .inl x2), (3, .inl x3), (4, .inl x4), (5, .inl s0)] [] h else none else none := (EX_at bk_Mod_day_71 _ _ _).trans rfl
theorem bk_Mod_day_87 : blk 174 87 = some (((cd_Mod_day.lookup 87).getD ([], 0, []))) := rfl
theorem Mod_day_87 (d : Nat) (a0 : Nat) (x2 : Int) (x3 : Int) (x4 : Int) (x5 : Int) (h : Hp) : EX d 174 87 [(0, .inr (.inr a0)), (2, .inl x2), (3, .inl x3), (4, .inl x4), (5, .inl x5)] [] h = EX d 174 101 [(0, .inr (.inr a0)), (2, .inl x2), (3, .inl x3), (4, .inl x4), (5, .inl x5)] [.inl (-1)] h := (EX_at bk_Mod_day_87 _ _ _).trans rfl
theorem bk_Mod_day_91 : blk 174 91 = some (((cd_Mod_day.lookup 91).getD ([], 0, []))) := rfl
theorem Mod_day_91 (d : Nat) (a0 : Nat) (x2 : Int) (x3 : Int) (x4 : Int) (x5 : Int) (h : Hp) : EX d 174 91 [(0, .inr (.inr a0)), (2, .inl x2), (3, .inl x3), (4, .inl x4), (5, .inl x5)] [] h = if sK h a0 = 11 then if okx h (hR h a0 1) 20 2 then if sK h a0 = 11 then bak (EX d 174) 101 [(0, .inr (.inr a0)), (2, .inl x2), (3, .inl x3), (4, .inl x4), (5, .inl x5)] [] false (cal d 173 [.inr (.inr a0), .inl (hI h (hR h a0 1) 2)] h) else none else none else none := (EX_at bk_Mod_day_91 _ _ _).trans rfl
theorem bk_Mod_day_101 : blk 174 101 = some (((cd_Mod_day.lookup 101).getD ([], 0, []))) := rfl
theorem Mod_day_101 (d : Nat) (a0 : Nat) (x2 : Int) (x3 : Int) (x4 : Int) (x5 : Int) (s0 : Int) (h : Hp) : EX d 174 101 [(0, .inr (.inr a0)), (2, .inl x2), (3, .inl x3), (4, .inl x4), (5, .inl x5)] [.inl s0] h = if (wr s0) = (-1) then EX d 174 109 [(0, .inr (.inr a0)), (2, .inl x2), (3, .inl x3), (4, .inl x4), (5, .inl x5)] [] h else EX d 174 118 [(0, .inr (.inr a0)), (2, .inl x2), (3, .inl x3), (4, .inl x4), (5, .inl x5), (6, .inl s0)] [] h := (EX_at bk_Mod_day_101 _ _ _).trans rfl
theorem bk_Mod_day_109 : blk 174 109 = some (((cd_Mod_day.lookup 109).getD ([], 0, []))) := rfl
theorem Mod_day_109 (d : Nat) (a0 : Nat) (x2 : Int) (x3 : Int) (x4 : Int) (x5 : Int) (h : Hp) : EX d 174 109 [(0, .inr (.inr a0)), (2, .inl x2), (3, .inl x3), (4, .inl x4), (5, .inl x5)] [] h = if sK h a0 = 11 then bak (EX d 174) 115 [(0, .inr (.inr a0)), (2, .inl x2), (3, .inl x3), (4, .inl x4)] [] true (cal d 148 [.inr (.inr a0), .inl x5] h) else none := (EX_at bk_Mod_day_109 _ _ _).trans rfl
theorem bk_Mod_day_115 : blk 174 115 = some (((cd_Mod_day.lookup 115).getD ([], 0, []))) := rfl
theorem Mod_day_115 (d : Nat) (a0 : Nat) (x2 : Int) (x3 : Int) (x4 : Int) (h : Hp) : EX d 174 115 [(0, .inr (.inr a0)), (2, .inl x2), (3, .inl x3), (4, .inl x4)] [] h = EX d 174 146 [(0, .inr (.inr a0)), (2, .inl x2), (3, .inl x3), (4, .inl x4)] [] h := (EX_at bk_Mod_day_115 _ _ _).trans rfl
theorem bk_Mod_day_118 : blk 174 118 = some (((cd_Mod_day.lookup 118).getD ([], 0, []))) := rfl
theorem Mod_day_118 (d : Nat) (a0 : Nat) (x2 : Int) (x3 : Int) (x4 : Int) (x5 : Int) (x6 : Int) (h : Hp) : EX d 174 118 [(0, .inr (.inr a0)), (2, .inl x2), (3, .inl x3), (4, .inl x4), (5, .inl x5), (6, .inl x6)] [] h = if sK h a0 = 11 then bak (EX d 174) 129 [(0, .inr (.inr a0)), (2, .inl x2), (3, .inl x3), (4, .inl x4), (5, .inl x5), (6, .inl x6)] [] false (cal d 98 [.inr (.inr (hR h a0 1)), .inl x5, .inl x6] h) else none := (EX_at bk_Mod_day_118 _ _ _).trans rfl
theorem bk_Mod_day_129 : blk 174 129 = some (((cd_Mod_day.lookup 129).getD ([], 0, []))) := rfl
theorem Mod_day_129 (d : Nat) (a0 : Nat) (x2 : Int) (x3 : Int) (x4 : Int) (x5 : Int) (x6 : Int) (s0 : Int) (h : Hp) : EX d 174 129 [(0, .inr (.inr a0)), (2, .inl x2), (3, .inl x3), (4, .inl x4), (5, .inl x5), (6, .inl x6)] [.inl s0] h = if (wr s0) = 0 then EX d 174 132 [(0, .inr (.inr a0)), (2, .inl x2), (3, .inl x3), (4, .inl x4), (5, .inl x5), (6, .inl x6)] [] h else EX d 174 143 [(0, .inr (.inr a0)), (2, .inl x2), (3, .inl x3), (4, .inl x4)] [] h := (EX_at bk_Mod_day_129 _ _ _).trans rfl
theorem bk_Mod_day_132 : blk 174 132 = some (((cd_Mod_day.lookup 132).getD ([], 0, []))) := rfl
theorem Mod_day_132 (d : Nat) (a0 : Nat) (x2 : Int) (x3 : Int) (x4 : Int) (x5 : Int) (x6 : Int) (h : Hp) : EX d 174 132 [(0, .inr (.inr a0)), (2, .inl x2), (3, .inl x3), (4, .inl x4), (5, .inl x5), (6, .inl x6)] [] h = if sK h a0 = 11 then bak (EX d 174) 140 [(0, .inr (.inr a0)), (2, .inl x2), (3, .inl x3), (4, .inl x4)] [] true (cal d 141 [.inr (.inr a0), .inl x5, .inl x6] h) else none := (EX_at bk_Mod_day_132 _ _ _).trans rfl
theorem bk_Mod_day_140 : blk 174 140 = some (((cd_Mod_day.lookup 140).getD ([], 0, []))) := rfl
theorem Mod_day_140 (d : Nat) (a0 : Nat) (x2 : Int) (x3 : Int) (x4 : Int) (h : Hp) : EX d 174 140 [(0, .inr (.inr a0)), (2, .inl x2), (3, .inl x3), (4, .inl x4)] [] h = EX d 174 146 [(0, .inr (.inr a0)), (2, .inl x2), (3, .inl x3), (4, .inl x4)] [] h := (EX_at bk_Mod_day_140 _ _ _).trans rfl
theorem bk_Mod_day_143 : blk 174 143 = some (((cd_Mod_day.lookup 143).getD ([], 0, []))) := rfl
theorem Mod_day_143 (d : Nat) (a0 : Nat) (x2 : Int) (x3 : Int) (x4 : Int) (h : Hp) : EX d 174 143 [(0, .inr (.inr a0)), (2, .inl x2), (3, .inl x3), (4, .inl x4)] [] h = EX d 174 146 [(0, .inr (.inr a0)), (2, .inl x2), (3, .inl (x3 + (-1))), (4, .inl x4)] [] h := (EX_at bk_Mod_day_143 _ _ _).trans rfl
theorem bk_Mod_day_146 : blk 174 146 = some (((cd_Mod_day.lookup 146).getD ([], 0, []))) := rfl
theorem Mod_day_146 (d : Nat) (a0 : Nat) (x2 : Int) (x3 : Int) (x4 : Int) (h : Hp) : EX d 174 146 [(0, .inr (.inr a0)), (2, .inl x2), (3, .inl x3), (4, .inl x4)] [] h = EX d 174 55 [(0, .inr (.inr a0)), (2, .inl x2), (3, .inl (x3 + 1)), (4, .inl (x4 + 1))] [] h := (EX_at bk_Mod_day_146 _ _ _).trans rfl
theorem bk_Mod_day_155 : blk 174 155 = some (((cd_Mod_day.lookup 155).getD ([], 0, []))) := rfl
theorem Mod_day_155 (d : Nat) (a0 : Nat) (x3 : Int) (h : Hp) : EX d 174 155 [(0, .inr (.inr a0)), (3, .inl x3)] [] h = if 0 < (wr x3) then EX d 174 159 [(0, .inr (.inr a0)), (3, .inl x3)] [] h else EX d 174 163 [(3, .inl x3)] [] h := (EX_at bk_Mod_day_155 _ _ _).trans rfl
theorem bk_Mod_day_159 : blk 174 159 = some (((cd_Mod_day.lookup 159).getD ([], 0, []))) := rfl
theorem Mod_day_159 (d : Nat) (a0 : Nat) (x3 : Int) (h : Hp) : EX d 174 159 [(0, .inr (.inr a0)), (3, .inl x3)] [] h = if sK h a0 = 11 then bak (EX d 174) 163 [(3, .inl x3)] [] true (cal d 142 [.inr (.inr a0)] h) else none := (EX_at bk_Mod_day_159 _ _ _).trans rfl
theorem bk_Mod_day_163 : blk 174 163 = some (((cd_Mod_day.lookup 163).getD ([], 0, []))) := rfl
theorem Mod_day_163 (d : Nat) (x3 : Int) (h : Hp) : EX d 174 163 [(3, .inl x3)] [] h = some (.inl x3, h) := (EX_at bk_Mod_day_163 _ _ _).trans rfl
/-! undoing(I)I of HookOverModel: method 177 -/
theorem bk_Mod_undoing_0 : blk 177 0 = some (((cd_Mod_undoing.lookup 0).getD ([], 0, []))) := rfl
theorem Mod_undoing_0 (d : Nat) (a0 : Nat) (x1 : Int) (h : Hp) : EX d 177 0 [(0, .inr (.inr a0)), (1, .inl x1)] [] h = if sK h a0 = 11 then EX d 177 5 [(0, .inr (.inr a0)), (1, .inl x1)] [] (pI h a0 0 0) else none := (EX_at bk_Mod_undoing_0 _ _ _).trans rfl
theorem bk_Mod_undoing_5 : blk 177 5 = some (((cd_Mod_undoing.lookup 5).getD ([], 0, []))) := rfl
theorem Mod_undoing_5 (d : Nat) (a0 : Nat) (x1 : Int) (h : Hp) : EX d 177 5 [(0, .inr (.inr a0)), (1, .inl x1)] [] h = EX d 177 7 [(0, .inr (.inr a0)), (1, .inl x1), (2, .inl 0)] [] h := (EX_at bk_Mod_undoing_5 _ _ _).trans rfl
theorem bk_Mod_undoing_7 : blk 177 7 = some (((cd_Mod_undoing.lookup 7).getD ([], 0, []))) := rfl
theorem Mod_undoing_7 (d : Nat) (a0 : Nat) (x1 : Int) (x2 : Int) (h : Hp) : EX d 177 7 [(0, .inr (.inr a0)), (1, .inl x1), (2, .inl x2)] [] h = if (wr x2) < 32 then EX d 177 13 [(0, .inr (.inr a0)), (1, .inl x1), (2, .inl x2)] [] h else EX d 177 56 [(0, .inr (.inr a0)), (1, .inl x1)] [] h := (EX_at bk_Mod_undoing_7 _ _ _).trans rfl
theorem bk_Mod_undoing_13 : blk 177 13 = some (((cd_Mod_undoing.lookup 13).getD ([], 0, []))) := rfl
theorem Mod_undoing_13 (d : Nat) (a0 : Nat) (x1 : Int) (x2 : Int) (h : Hp) : EX d 177 13 [(0, .inr (.inr a0)), (1, .inl x1), (2, .inl x2)] [] h = bak (EX d 177) 23 [(0, .inr (.inr a0)), (1, .inl x1), (2, .inl x2)] [] false (cal d 96 [.inr (.inl (lAnd (wr x1) 4294967295)), .inl x2] h) := (EX_at bk_Mod_undoing_13 _ _ _).trans rfl
theorem bk_Mod_undoing_23 : blk 177 23 = some (((cd_Mod_undoing.lookup 23).getD ([], 0, []))) := rfl
theorem Mod_undoing_23 (d : Nat) (a0 : Nat) (x1 : Int) (x2 : Int) (s0 : Int) (h : Hp) : EX d 177 23 [(0, .inr (.inr a0)), (1, .inl x1), (2, .inl x2)] [.inl s0] h = if (wr s0) = 0 then EX d 177 50 [(0, .inr (.inr a0)), (1, .inl x1), (2, .inl x2)] [] h else EX d 177 26 [(0, .inr (.inr a0)), (1, .inl x1), (2, .inl x2)] [] h := (EX_at bk_Mod_undoing_23 _ _ _).trans rfl
theorem bk_Mod_undoing_26 : blk 177 26 = some (((cd_Mod_undoing.lookup 26).getD ([], 0, []))) := rfl
theorem Mod_undoing_26 (d : Nat) (a0 : Nat) (x1 : Int) (x2 : Int) (h : Hp) : EX d 177 26 [(0, .inr (.inr a0)), (1, .inl x1), (2, .inl x2)] [] h = if sK h a0 = 11 then bak (EX d 177) 31 [(0, .inr (.inr a0)), (1, .inl x1), (2, .inl x2)] [] false (cal d 108 [.inr (.inr a0), .inl x2] h) else none := (EX_at bk_Mod_undoing_26 _ _ _).trans rfl
theorem bk_Mod_undoing_31 : blk 177 31 = some (((cd_Mod_undoing.lookup 31).getD ([], 0, []))) := rfl
theorem Mod_undoing_31 (d : Nat) (a0 : Nat) (x1 : Int) (x2 : Int) (s0 : Int) (h : Hp) : EX d 177 31 [(0, .inr (.inr a0)), (1, .inl x1), (2, .inl x2)] [.inl s0] h = if (wr s0) = 0 then EX d 177 47 [] [] h else EX d 177 34 [(0, .inr (.inr a0)), (1, .inl x1), (2, .inl x2)] [] h := (EX_at bk_Mod_undoing_31 _ _ _).trans rfl
theorem bk_Mod_undoing_34 : blk 177 34 = some (((cd_Mod_undoing.lookup 34).getD ([], 0, []))) := rfl
theorem Mod_undoing_34 (d : Nat) (a0 : Nat) (x1 : Int) (x2 : Int) (h : Hp) : EX d 177 34 [(0, .inr (.inr a0)), (1, .inl x1), (2, .inl x2)] [] h = if sK h a0 = 11 then if okx h (hR h a0 1) 20 (61 + x2) then if (wr (hI h (hR h a0 1) (ix (61 + x2)))) = (-1) then EX d 177 47 [] [] h else EX d 177 50 [(0, .inr (.inr a0)), (1, .inl x1), (2, .inl x2)] [] h else none else none := (EX_at bk_Mod_undoing_34 _ _ _).trans rfl
theorem bk_Mod_undoing_47 : blk 177 47 = some (((cd_Mod_undoing.lookup 47).getD ([], 0, []))) := rfl
theorem Mod_undoing_47 (d : Nat) (h : Hp) : EX d 177 47 [] [] h = some (.inl (-3), h) := (EX_at bk_Mod_undoing_47 _ _ _).trans rfl
theorem bk_Mod_undoing_50 : blk 177 50 = some (((cd_Mod_undoing.lookup 50).getD ([], 0, []))) := rfl
theorem Mod_undoing_50 (d : Nat) (a0 : Nat) (x1 : Int) (x2 : Int) (h : Hp) : EX d 177 50 [(0, .inr (.inr a0)), (1, .inl x1), (2, .inl x2)] [] h = EX d 177 7 [(0, .inr (.inr a0)), (1, .inl x1), (2, .inl (x2 + 1))] [] h := (EX_at bk_Mod_undoing_50 _ _ _).trans rfl
theorem bk_Mod_undoing_56 : blk 177 56 = some (((cd_Mod_undoing.lookup 56).getD ([], 0, []))) := rfl
theorem Mod_undoing_56 (d : Nat) (a0 : Nat) (x1 : Int) (h : Hp) : EX d 177 56 [(0, .inr (.inr a0)), (1, .inl x1)] [] h = if sK h a0 = 11 then bak (EX d 177) 60 [(0, .inr (.inr a0)), (1, .inl x1)] [] true (cal d 137 [.inr (.inr a0)] h) else none := (EX_at bk_Mod_undoing_56 _ _ _).trans rfl
theorem bk_Mod_undoing_60 : blk 177 60 = some (((cd_Mod_undoing.lookup 60).getD ([], 0, []))) := rfl
theorem Mod_undoing_60 (d : Nat) (a0 : Nat) (x1 : Int) (h : Hp) : EX d 177 60 [(0, .inr (.inr a0)), (1, .inl x1)] [] h = EX d 177 64 [(0, .inr (.inr a0)), (1, .inl x1), (2, .inl 0), (3, .inl 0)] [] h := (EX_at bk_Mod_undoing_60 _ _ _).trans rfl
theorem bk_Mod_undoing_64 : blk 177 64 = some (((cd_Mod_undoing.lookup 64).getD ([], 0, []))) := rfl
theorem Mod_undoing_64 (d : Nat) (a0 : Nat) (x1 : Int) (x2 : Int) (x3 : Int) (h : Hp) : EX d 177 64 [(0, .inr (.inr a0)), (1, .inl x1), (2, .inl x2), (3, .inl x3)] [] h = if (wr x3) < 2 then EX d 177 69 [(0, .inr (.inr a0)), (1, .inl x1), (2, .inl x2), (3, .inl x3)] [] h else EX d 177 170 [(2, .inl x2)] [] h := (EX_at bk_Mod_undoing_64 _ _ _).trans rfl
theorem bk_Mod_undoing_69 : blk 177 69 = some (((cd_Mod_undoing.lookup 69).getD ([], 0, []))) := rfl
theorem Mod_undoing_69 (d : Nat) (a0 : Nat) (x1 : Int) (x2 : Int) (x3 : Int) (h : Hp) : EX d 177 69 [(0, .inr (.inr a0)), (1, .inl x1), (2, .inl x2), (3, .inl x3)] [] h = EX d 177 72 [(0, .inr (.inr a0)), (1, .inl x1), (2, .inl x2), (3, .inl x3), (4, .inl 0)] [] h := (EX_at bk_Mod_undoing_69 _ _ _).trans rfl
theorem bk_Mod_undoing_72 : blk 177 72 = some (((cd_Mod_undoing.lookup 72).getD ([], 0, []))) := rfl
theorem Mod_undoing_72 (d : Nat) (a0 : Nat) (x1 : Int) (x2 : Int) (x3 : Int) (x4 : Int) (h : Hp) : EX d 177 72 [(0, .inr (.inr a0)), (1, .inl x1), (2, .inl x2), (3, .inl x3), (4, .inl x4)] [] h = if sK h a0 = 11 then if okx h (hR h a0 1) 20 1 then if (wr x4) < (wr (hI h (hR h a0 1) 1)) then EX d 177 83 [(0, .inr (.inr a0)), (1, .inl x1), (2, .inl x2), (3, .inl x3), (4, .inl x4)] [] h else EX d 177 127 [(0, .inr (.inr a0)), (1, .inl x1), (2, .inl x2), (3, .inl x3)] [] h else none else none := (EX_at bk_Mod_undoing_72 _ _ _).trans rfl
theorem bk_Mod_undoing_83 : blk 177 83 = some (((cd_Mod_undoing.lookup 83).getD ([], 0, []))) := rfl
theorem Mod_undoing_83 (d : Nat) (a0 : Nat) (x1 : Int) (x2 : Int) (x3 : Int) (x4 : Int) (h : Hp) : EX d 177 83 [(0, .inr (.inr a0)), (1, .inl x1), (2, .inl x2), (3, .inl x3), (4, .inl x4)] [] h = if (wr x3) = 0 then EX d 177 87 [(0, .inr (.inr a0)), (1, .inl x1), (2, .inl x2), (3, .inl x3), (4, .inl x4)] [] h else EX d 177 92 [(0, .inr (.inr a0)), (1, .inl x1), (2, .inl x2), (3, .inl x3), (4, .inl x4)] [] h := (EX_at bk_Mod_undoing_83 _ _ _).trans rfl
theorem bk_Mod_undoing_87 : blk 177 87 = some (((cd_Mod_undoing.lookup 87).getD ([], 0, []))) := rfl
theorem Mod_undoing_87 (d : Nat) (a0 : Nat) (x1 : Int) (x2 : Int) (x3 : Int) (x4 : Int) (h : Hp) : EX d 177 87 [(0, .inr (.inr a0)), (1, .inl x1), (2, .inl x2), (3, .inl x3), (4, .inl x4)] [] h = EX d 177 103 [(0, .inr (.inr a0)), (1, .inl x1), (2, .inl x2), (3, .inl x3), (4, .inl x4)] [.inl x4] h := (EX_at bk_Mod_undoing_87 _ _ _).trans rfl
theorem bk_Mod_undoing_92 : blk 177 92 = some (((cd_Mod_undoing.lookup 92).getD ([], 0, []))) := rfl
theorem Mod_undoing_92 (d : Nat) (a0 : Nat) (x1 : Int) (x2 : Int) (x3 : Int) (x4 : Int) (h : Hp) : EX d 177 92 [(0, .inr (.inr a0)), (1, .inl x1), (2, .inl x2), (3, .inl x3), (4, .inl x4)] [] h = if sK h a0 = 11 then if okx h (hR h a0 1) 20 1 then EX d 177 103 [(0, .inr (.inr a0)), (1, .inl x1), (2, .inl x2), (3, .inl x3), (4, .inl x4)] [.inl (((hI h (hR h a0 1) 1) - 1) - x4)] h else none else none := (EX_at bk_Mod_undoing_92 _ _ _).trans rfl
theorem bk_Mod_undoing_103 : blk 177 103 = some (((cd_Mod_undoing.lookup 103).getD ([], 0, []))) := rfl
theorem Mod_undoing_103 (d : Nat) (a0 : Nat) (x1 : Int) (x2 : Int) (x3 : Int) (x4 : Int) (s0 : Int) (h : Hp) : EX d 177 103 [(0, .inr (.inr a0)), (1, .inl x1), (2, .inl x2), (3, .inl x3), (4, .inl x4)] [.inl s0] h = bak (EX d 177) 112 [(0, .inr (.inr a0)), (1, .inl x1), (2, .inl x2), (3, .inl x3), (4, .inl x4), (5, .inl s0)] [] false (cal d 96 [.inr (.inl (wr x1)), .inl s0] h) := (EX_at bk_Mod_undoing_103 _ _ _).trans rfl
theorem bk_Mod_undoing_112 : blk 177 112 = some (((cd_Mod_undoing.lookup 112).getD ([], 0, []))) := rfl
theorem Mod_undoing_112 (d : Nat) (a0 : Nat) (x1 : Int) (x2 : Int) (x3 : Int) (x4 : Int) (x5 : Int) (s0 : Int) (h : Hp) : EX d 177 112 [(0, .inr (.inr a0)), (1, .inl x1), (2, .inl x2), (3, .inl x3), (4, .inl x4), (5, .inl x5)] [.inl s0] h = if (wr s0) = 0 then EX d 177 121 [(0, .inr (.inr a0)), (1, .inl x1), (2, .inl x2), (3, .inl x3), (4, .inl x4)] [] h else EX d 177 115 [(0, .inr (.inr a0)), (1, .inl x1), (2, .inl x2), (3, .inl x3), (4, .inl x4), (5, .inl x5)] [] h := (EX_at bk_Mod_undoing_112 _ _ _).trans rfl
theorem bk_Mod_undoing_115 : blk 177 115 = some (((cd_Mod_undoing.lookup 115).getD ([], 0, []))) := rfl
theorem Mod_undoing_115 (d : Nat) (a0 : Nat) (x1 : Int) (x2 : Int) (x3 : Int) (x4 : Int) (x5 : Int) (h : Hp) : EX d 177 115 [(0, .inr (.inr a0)), (1, .inl x1), (2, .inl x2), (3, .inl x3), (4, .inl x4), (5, .inl x5)] [] h = if sK h a0 = 11 then bak (EX d 177) 121 [(0, .inr (.inr a0)), (1, .inl x1), (2, .inl x2), (3, .inl x3), (4, .inl x4)] [] true (cal d 148 [.inr (.inr a0), .inl x5] h) else none := (EX_at bk_Mod_undoing_115 _ _ _).trans rfl
theorem bk_Mod_undoing_121 : blk 177 121 = some (((cd_Mod_undoing.lookup 121).getD ([], 0, []))) := rfl
theorem Mod_undoing_121 (d : Nat) (a0 : Nat) (x1 : Int) (x2 : Int) (x3 : Int) (x4 : Int) (h : Hp) : EX d 177 121 [(0, .inr (.inr a0)), (1, .inl x1), (2, .inl x2), (3, .inl x3), (4, .inl x4)] [] h = EX d 177 72 [(0, .inr (.inr a0)), (1, .inl x1), (2, .inl x2), (3, .inl x3), (4, .inl (x4 + 1))] [] h := (EX_at bk_Mod_undoing_121 _ _ _).trans rfl
theorem bk_Mod_undoing_127 : blk 177 127 = some (((cd_Mod_undoing.lookup 127).getD ([], 0, []))) := rfl
theorem Mod_undoing_127 (d : Nat) (a0 : Nat) (x1 : Int) (x2 : Int) (x3 : Int) (h : Hp) : EX d 177 127 [(0, .inr (.inr a0)), (1, .inl x1), (2, .inl x2), (3, .inl x3)] [] h = if sK h a0 = 11 then if okx h (hR h a0 1) 20 60 then if sK h a0 = 11 then if okx h (hR h a0 16) 20 1 then if (wr x3) = 0 then EX d 177 153 [(0, .inr (.inr a0)), (1, .inl x1), (3, .inl x3), (4, .inl ((hI h (hR h a0 1) 60) - (hI h (hR h a0 16) 1)))] [] h else EX d 177 147 [(0, .inr (.inr a0)), (1, .inl x1), (2, .inl x2), (3, .inl x3), (4, .inl ((hI h (hR h a0 1) 60) - (hI h (hR h a0 16) 1)))] [] h else none else none else none else none := (EX_at bk_Mod_undoing_127 _ _ _).trans rfl
theorem bk_Mod_undoing_147 : blk 177 147 = some (((cd_Mod_undoing.lookup 147).getD ([], 0, []))) := rfl
theorem Mod_undoing_147 (d : Nat) (a0 : Nat) (x1 : Int) (x2 : Int) (x3 : Int) (x4 : Int) (h : Hp) : EX d 177 147 [(0, .inr (.inr a0)), (1, .inl x1), (2, .inl x2), (3, .inl x3), (4, .inl x4)] [] h = if (wr x4) < (wr x2) then EX d 177 153 [(0, .inr (.inr a0)), (1, .inl x1), (3, .inl x3), (4, .inl x4)] [] h else EX d 177 158 [(0, .inr (.inr a0)), (1, .inl x1), (2, .inl x2), (3, .inl x3)] [] h := (EX_at bk_Mod_undoing_147 _ _ _).trans rfl
theorem bk_Mod_undoing_153 : blk 177 153 = some (((cd_Mod_undoing.lookup 153).getD ([], 0, []))) := rfl
theorem Mod_undoing_153 (d : Nat) (a0 : Nat) (x1 : Int) (x3 : Int) (x4 : Int) (h : Hp) : EX d 177 153 [(0, .inr (.inr a0)), (1, .inl x1), (3, .inl x3), (4, .inl x4)] [] h = EX d 177 159 [(0, .inr (.inr a0)), (1, .inl x1), (3, .inl x3)] [.inl x4] h := (EX_at bk_Mod_undoing_153 _ _ _).trans rfl
theorem bk_Mod_undoing_158 : blk 177 158 = some (((cd_Mod_undoing.lookup 158).getD ([], 0, []))) := rfl
theorem Mod_undoing_158 (d : Nat) (a0 : Nat) (x1 : Int) (x2 : Int) (x3 : Int) (h : Hp) : EX d 177 158 [(0, .inr (.inr a0)), (1, .inl x1), (2, .inl x2), (3, .inl x3)] [] h = EX d 177 159 [(0, .inr (.inr a0)), (1, .inl x1), (3, .inl x3)] [.inl x2] h := (EX_at bk_Mod_undoing_158 _ _ _).trans rfl
theorem bk_Mod_undoing_159 : blk 177 159 = some (((cd_Mod_undoing.lookup 159).getD ([], 0, []))) := rfl
theorem Mod_undoing_159 (d : Nat) (a0 : Nat) (x1 : Int) (x3 : Int) (s0 : Int) (h : Hp) : EX d 177 159 [(0, .inr (.inr a0)), (1, .inl x1), (3, .inl x3)] [.inl s0] h = if sK h a0 = 11 then bak (EX d 177) 164 [(0, .inr (.inr a0)), (1, .inl x1), (2, .inl s0), (3, .inl x3)] [] true (cal d 165 [.inr (.inr a0)] h) else none := (EX_at bk_Mod_undoing_159 _ _ _).trans rfl
theorem bk_Mod_undoing_164 : blk 177 164 = some (((cd_Mod_undoing.lookup 164).getD ([], 0, []))) := rfl
theorem Mod_undoing_164 (d : Nat) (a0 : Nat) (x1 : Int) (x2 : Int) (x3 : Int) (h : Hp) : EX d 177 164 [(0, .inr (.inr a0)), (1, .inl x1), (2, .inl x2), (3, .inl x3)] [] h = EX d 177 64 [(0, .inr (.inr a0)), (1, .inl x1), (2, .inl x2), (3, .inl (x3 + 1))] [] h := (EX_at bk_Mod_undoing_164 _ _ _).trans rfl
theorem bk_Mod_undoing_170 : blk 177 170 = some (((cd_Mod_undoing.lookup 170).getD ([], 0, []))) := rfl
theorem Mod_undoing_170 (d : Nat) (x2 : Int) (h : Hp) : EX d 177 170 [(2, .inl x2)] [] h = some (.inl x2, h) := (EX_at bk_Mod_undoing_170 _ _ _).trans rfl
/-! spot(III)I of HookOverModel: method 183 -/
theorem bk_Mod_spot_0 : blk 183 0 = some (((cd_Mod_spot.lookup 0).getD ([], 0, []))) := rfl
theorem Mod_spot_0 (d : Nat) (x0 : Int) (x1 : Int) (x2 : Int) (h : Hp) : EX d 183 0 [(0, .inl x0), (1, .inl x1), (2, .inl x2)] [] h = some (.inl (((169 * (x0 + 1)) + (13 * (x1 + 1))) + x2), h) := (EX_at bk_Mod_spot_0 _ _ _).trans rfl
/-! shows(III)Z of HookOverModel: method 184 -/
theorem bk_Mod_shows_0 : blk 184 0 = some (((cd_Mod_shows.lookup 0).getD ([], 0, []))) := rfl
theorem Mod_shows_0 (d : Nat) (a0 : Nat) (x1 : Int) (x2 : Int) (x3 : Int) (h : Hp) : EX d 184 0 [(0, .inr (.inr a0)), (1, .inl x1), (2, .inl x2), (3, .inl x3)] [] h = if sK h a0 = 11 then if (wr (hI h a0 22)) = (-1) then EX d 184 8 [] [] h else EX d 184 10 [(0, .inr (.inr a0)), (1, .inl x1), (2, .inl x2), (3, .inl x3)] [] h else none := (EX_at bk_Mod_shows_0 _ _ _).trans rfl
theorem bk_Mod_shows_8 : blk 184 8 = some (((cd_Mod_shows.lookup 8).getD ([], 0, []))) := rfl
theorem Mod_shows_8 (d : Nat) (h : Hp) : EX d 184 8 [] [] h = some (.inl 1, h) := (EX_at bk_Mod_shows_8 _ _ _).trans rfl
theorem bk_Mod_shows_10 : blk 184 10 = some (((cd_Mod_shows.lookup 10).getD ([], 0, []))) := rfl
theorem Mod_shows_10 (d : Nat) (a0 : Nat) (x1 : Int) (x2 : Int) (x3 : Int) (h : Hp) : EX d 184 10 [(0, .inr (.inr a0)), (1, .inl x1), (2, .inl x2), (3, .inl x3)] [] h = EX d 184 13 [(0, .inr (.inr a0)), (2, .inl x2), (3, .inl x3), (4, .inl x1)] [] h := (EX_at bk_Mod_shows_10 _ _ _).trans rfl
theorem bk_Mod_shows_13 : blk 184 13 = some (((cd_Mod_shows.lookup 13).getD ([], 0, []))) := rfl
theorem Mod_shows_13 (d : Nat) (a0 : Nat) (x2 : Int) (x3 : Int) (x4 : Int) (h : Hp) : EX d 184 13 [(0, .inr (.inr a0)), (2, .inl x2), (3, .inl x3), (4, .inl x4)] [] h = if (wr x4) < (wr x2) then EX d 184 19 [(0, .inr (.inr a0)), (2, .inl x2), (3, .inl x3), (4, .inl x4)] [] h else EX d 184 61 [] [] h := (EX_at bk_Mod_shows_13 _ _ _).trans rfl
theorem bk_Mod_shows_19 : blk 184 19 = some (((cd_Mod_shows.lookup 19).getD ([], 0, []))) := rfl
theorem Mod_shows_19 (d : Nat) (a0 : Nat) (x2 : Int) (x3 : Int) (x4 : Int) (h : Hp) : EX d 184 19 [(0, .inr (.inr a0)), (2, .inl x2), (3, .inl x3), (4, .inl x4)] [] h = if sK h a0 = 11 then if sK h a0 = 11 then if okx h (hR h a0 35) 21 ((40 * (hI h a0 22)) + x4) then if (wr (lCmp (hL h (hR h a0 35) (ix ((40 * (hI h a0 22)) + x4))) (-1))) = 0 then EX d 184 55 [(0, .inr (.inr a0)), (2, .inl x2), (3, .inl x3), (4, .inl x4)] [] h else EX d 184 45 [(0, .inr (.inr a0)), (2, .inl x2), (3, .inl x3), (4, .inl x4), (5, .inr (.inl (hL h (hR h a0 35) (ix ((40 * (hI h a0 22)) + x4)))))] [] h else none else none else none := (EX_at bk_Mod_shows_19 _ _ _).trans rfl
theorem bk_Mod_shows_45 : blk 184 45 = some (((cd_Mod_shows.lookup 45).getD ([], 0, []))) := rfl
theorem Mod_shows_45 (d : Nat) (a0 : Nat) (x2 : Int) (x3 : Int) (x4 : Int) (y5 : Int) (h : Hp) : EX d 184 45 [(0, .inr (.inr a0)), (2, .inl x2), (3, .inl x3), (4, .inl x4), (5, .inr (.inl y5))] [] h = if (wr (lCmp y5 (wr x3))) = 0 then EX d 184 55 [(0, .inr (.inr a0)), (2, .inl x2), (3, .inl x3), (4, .inl x4)] [] h else EX d 184 53 [] [] h := (EX_at bk_Mod_shows_45 _ _ _).trans rfl
theorem bk_Mod_shows_53 : blk 184 53 = some (((cd_Mod_shows.lookup 53).getD ([], 0, []))) := rfl
theorem Mod_shows_53 (d : Nat) (h : Hp) : EX d 184 53 [] [] h = some (.inl 0, h) := (EX_at bk_Mod_shows_53 _ _ _).trans rfl
theorem bk_Mod_shows_55 : blk 184 55 = some (((cd_Mod_shows.lookup 55).getD ([], 0, []))) := rfl
theorem Mod_shows_55 (d : Nat) (a0 : Nat) (x2 : Int) (x3 : Int) (x4 : Int) (h : Hp) : EX d 184 55 [(0, .inr (.inr a0)), (2, .inl x2), (3, .inl x3), (4, .inl x4)] [] h = EX d 184 13 [(0, .inr (.inr a0)), (2, .inl x2), (3, .inl x3), (4, .inl (x4 + 1))] [] h := (EX_at bk_Mod_shows_55 _ _ _).trans rfl
theorem bk_Mod_shows_61 : blk 184 61 = some (((cd_Mod_shows.lookup 61).getD ([], 0, []))) := rfl
theorem Mod_shows_61 (d : Nat) (h : Hp) : EX d 184 61 [] [] h = some (.inl 1, h) := (EX_at bk_Mod_shows_61 _ _ _).trans rfl
/-! follows(IIII)Z of HookOverModel: method 185 -/
theorem bk_Mod_follows_0 : blk 185 0 = some (((cd_Mod_follows.lookup 0).getD ([], 0, []))) := rfl
theorem Mod_follows_0 (d : Nat) (a0 : Nat) (x1 : Int) (x2 : Int) (x3 : Int) (x4 : Int) (h : Hp) : EX d 185 0 [(0, .inr (.inr a0)), (1, .inl x1), (2, .inl x2), (3, .inl x3), (4, .inl x4)] [] h = if sK h a0 = 11 then if okx h (hR h a0 1) 20 10 then bak (EX d 185) 13 [(0, .inr (.inr a0)), (1, .inl x1), (2, .inl x2), (3, .inl x3), (4, .inl x4)] [] false (cal d 96 [.inr (.inl (wr (hI h (hR h a0 1) 10))), .inl x4] h) else none else none := (EX_at bk_Mod_follows_0 _ _ _).trans rfl
theorem bk_Mod_follows_13 : blk 185 13 = some (((cd_Mod_follows.lookup 13).getD ([], 0, []))) := rfl
theorem Mod_follows_13 (d : Nat) (a0 : Nat) (x1 : Int) (x2 : Int) (x3 : Int) (x4 : Int) (s0 : Int) (h : Hp) : EX d 185 13 [(0, .inr (.inr a0)), (1, .inl x1), (2, .inl x2), (3, .inl x3), (4, .inl x4)] [.inl s0] h = if (wr s0) = 0 then EX d 185 16 [(0, .inr (.inr a0)), (1, .inl x1), (2, .inl x2), (3, .inl x3), (4, .inl x4)] [] h else EX d 185 41 [] [] h := (EX_at bk_Mod_follows_13 _ _ _).trans rfl
theorem bk_Mod_follows_16 : blk 185 16 = some (((cd_Mod_follows.lookup 16).getD ([], 0, []))) := rfl
theorem Mod_follows_16 (d : Nat) (a0 : Nat) (x1 : Int) (x2 : Int) (x3 : Int) (x4 : Int) (h : Hp) : EX d 185 16 [(0, .inr (.inr a0)), (1, .inl x1), (2, .inl x2), (3, .inl x3), (4, .inl x4)] [] h = if sK h a0 = 11 then if (wr x3) = (wr (hI h a0 20)) then EX d 185 24 [(0, .inr (.inr a0)), (1, .inl x1), (2, .inl x2), (3, .inl x3), (4, .inl x4)] [] h else EX d 185 43 [(0, .inr (.inr a0)), (1, .inl x1), (2, .inl x2), (3, .inl x3), (4, .inl x4)] [] h else none := (EX_at bk_Mod_follows_16 _ _ _).trans rfl
theorem bk_Mod_follows_24 : blk 185 24 = some (((cd_Mod_follows.lookup 24).getD ([], 0, []))) := rfl
theorem Mod_follows_24 (d : Nat) (a0 : Nat) (x1 : Int) (x2 : Int) (x3 : Int) (x4 : Int) (h : Hp) : EX d 185 24 [(0, .inr (.inr a0)), (1, .inl x1), (2, .inl x2), (3, .inl x3), (4, .inl x4)] [] h = if sK h a0 = 11 then if (wr (hI h a0 21)) = (-1) then EX d 185 41 [] [] h else EX d 185 32 [(0, .inr (.inr a0)), (1, .inl x1), (2, .inl x2), (3, .inl x3), (4, .inl x4)] [] h else none := (EX_at bk_Mod_follows_24 _ _ _).trans rfl
theorem bk_Mod_follows_32 : blk 185 32 = some (((cd_Mod_follows.lookup 32).getD ([], 0, []))) := rfl
theorem Mod_follows_32 (d : Nat) (a0 : Nat) (x1 : Int) (x2 : Int) (x3 : Int) (x4 : Int) (h : Hp) : EX d 185 32 [(0, .inr (.inr a0)), (1, .inl x1), (2, .inl x2), (3, .inl x3), (4, .inl x4)] [] h = if sK h a0 = 11 then if (wr (hI h a0 21)) = (wr x4) then EX d 185 41 [] [] h else EX d 185 43 [(0, .inr (.inr a0)), (1, .inl x1), (2, .inl x2), (3, .inl x3), (4, .inl x4)] [] h else none := (EX_at bk_Mod_follows_32 _ _ _).trans rfl
theorem bk_Mod_follows_41 : blk 185 41 = some (((cd_Mod_follows.lookup 41).getD ([], 0, []))) := rfl
theorem Mod_follows_41 (d : Nat) (h : Hp) : EX d 185 41 [] [] h = some (.inl 0, h) := (EX_at bk_Mod_follows_41 _ _ _).trans rfl
theorem bk_Mod_follows_43 : blk 185 43 = some (((cd_Mod_follows.lookup 43).getD ([], 0, []))) := rfl
theorem Mod_follows_43 (d : Nat) (a0 : Nat) (x1 : Int) (x2 : Int) (x3 : Int) (x4 : Int) (h : Hp) : EX d 185 43 [(0, .inr (.inr a0)), (1, .inl x1), (2, .inl x2), (3, .inl x3), (4, .inl x4)] [] h = if (wr x1) = (-1) then EX d 185 48 [(0, .inr (.inr a0)), (4, .inl x4)] [] h else EX d 185 58 [(0, .inr (.inr a0)), (1, .inl x1), (2, .inl x2), (3, .inl x3), (4, .inl x4)] [] h := (EX_at bk_Mod_follows_43 _ _ _).trans rfl
theorem bk_Mod_follows_48 : blk 185 48 = some (((cd_Mod_follows.lookup 48).getD ([], 0, []))) := rfl
theorem Mod_follows_48 (d : Nat) (a0 : Nat) (x4 : Int) (h : Hp) : EX d 185 48 [(0, .inr (.inr a0)), (4, .inl x4)] [] h = if sK h a0 = 11 then bak (EX d 185) 57 [] [] false (cal d 184 [.inr (.inr a0), .inl 0, .inl x4, .inl (-2)] h) else none := (EX_at bk_Mod_follows_48 _ _ _).trans rfl
theorem bk_Mod_follows_57 : blk 185 57 = some (((cd_Mod_follows.lookup 57).getD ([], 0, []))) := rfl
theorem Mod_follows_57 (d : Nat) (s0 : Int) (h : Hp) : EX d 185 57 [] [.inl s0] h = if ((s0 : Int) = 0 ∨ (s0 : Int) = 1) then some (.inl s0, h) else none := (EX_at bk_Mod_follows_57 _ _ _).trans rfl
theorem bk_Mod_follows_58 : blk 185 58 = some (((cd_Mod_follows.lookup 58).getD ([], 0, []))) := rfl
theorem Mod_follows_58 (d : Nat) (a0 : Nat) (x1 : Int) (x2 : Int) (x3 : Int) (x4 : Int) (h : Hp) : EX d 185 58 [(0, .inr (.inr a0)), (1, .inl x1), (2, .inl x2), (3, .inl x3), (4, .inl x4)] [] h = if sK h a0 = 11 then bak (EX d 185) 70 [(0, .inr (.inr a0)), (2, .inl x2), (4, .inl x4)] [] false (cal d 97 [.inr (.inr (hR h a0 1)), .inl x1, .inl x2, .inl x3, .inl x4] h) else none := (EX_at bk_Mod_follows_58 _ _ _).trans rfl
theorem bk_Mod_follows_70 : blk 185 70 = some (((cd_Mod_follows.lookup 70).getD ([], 0, []))) := rfl
theorem Mod_follows_70 (d : Nat) (a0 : Nat) (x2 : Int) (x4 : Int) (s0 : Int) (h : Hp) : EX d 185 70 [(0, .inr (.inr a0)), (2, .inl x2), (4, .inl x4)] [.inl s0] h = if (wr s0) < 0 then EX d 185 93 [] [] h else EX d 185 77 [(0, .inr (.inr a0)), (2, .inl x2), (4, .inl x4), (5, .inl s0)] [] h := (EX_at bk_Mod_follows_70 _ _ _).trans rfl
theorem bk_Mod_follows_77 : blk 185 77 = some (((cd_Mod_follows.lookup 77).getD ([], 0, []))) := rfl
theorem Mod_follows_77 (d : Nat) (a0 : Nat) (x2 : Int) (x4 : Int) (x5 : Int) (h : Hp) : EX d 185 77 [(0, .inr (.inr a0)), (2, .inl x2), (4, .inl x4), (5, .inl x5)] [] h = if sK h a0 = 11 then bak (EX d 185) 86 [] [] false (cal d 184 [.inr (.inr a0), .inl x2, .inl x4, .inl x5] h) else none := (EX_at bk_Mod_follows_77 _ _ _).trans rfl
theorem bk_Mod_follows_86 : blk 185 86 = some (((cd_Mod_follows.lookup 86).getD ([], 0, []))) := rfl
theorem Mod_follows_86 (d : Nat) (s0 : Int) (h : Hp) : EX d 185 86 [] [.inl s0] h = if (wr s0) = 0 then EX d 185 93 [] [] h else EX d 185 89 [] [] h := (EX_at bk_Mod_follows_86 _ _ _).trans rfl
theorem bk_Mod_follows_89 : blk 185 89 = some (((cd_Mod_follows.lookup 89).getD ([], 0, []))) := rfl
theorem Mod_follows_89 (d : Nat) (h : Hp) : EX d 185 89 [] [] h = EX d 185 94 [] [.inl 1] h := (EX_at bk_Mod_follows_89 _ _ _).trans rfl
theorem bk_Mod_follows_93 : blk 185 93 = some (((cd_Mod_follows.lookup 93).getD ([], 0, []))) := rfl
theorem Mod_follows_93 (d : Nat) (h : Hp) : EX d 185 93 [] [] h = EX d 185 94 [] [.inl 0] h := (EX_at bk_Mod_follows_93 _ _ _).trans rfl
theorem bk_Mod_follows_94 : blk 185 94 = some (((cd_Mod_follows.lookup 94).getD ([], 0, []))) := rfl
theorem Mod_follows_94 (d : Nat) (s0 : Int) (h : Hp) : EX d 185 94 [] [.inl s0] h = if ((s0 : Int) = 0 ∨ (s0 : Int) = 1) then some (.inl s0, h) else none := (EX_at bk_Mod_follows_94 _ _ _).trans rfl
/-! laysWays(III)V of HookOverModel: method 186 -/
theorem bk_Mod_laysWays_0 : blk 186 0 = some (((cd_Mod_laysWays.lookup 0).getD ([], 0, []))) := rfl
theorem Mod_laysWays_0 (d : Nat) (a0 : Nat) (x1 : Int) (x2 : Int) (x3 : Int) (h : Hp) : EX d 186 0 [(0, .inr (.inr a0)), (1, .inl x1), (2, .inl x2), (3, .inl x3)] [] h = if sK h a0 = 11 then EX d 186 5 [(0, .inr (.inr a0)), (2, .inl x2), (3, .inl x3)] [] (pI h a0 20 x1) else none := (EX_at bk_Mod_laysWays_0 _ _ _).trans rfl
theorem bk_Mod_laysWays_5 : blk 186 5 = some (((cd_Mod_laysWays.lookup 5).getD ([], 0, []))) := rfl
theorem Mod_laysWays_5 (d : Nat) (a0 : Nat) (x2 : Int) (x3 : Int) (h : Hp) : EX d 186 5 [(0, .inr (.inr a0)), (2, .inl x2), (3, .inl x3)] [] h = if sK h a0 = 11 then EX d 186 10 [(0, .inr (.inr a0)), (3, .inl x3)] [] (pI h a0 21 x2) else none := (EX_at bk_Mod_laysWays_5 _ _ _).trans rfl
theorem bk_Mod_laysWays_10 : blk 186 10 = some (((cd_Mod_laysWays.lookup 10).getD ([], 0, []))) := rfl
theorem Mod_laysWays_10 (d : Nat) (a0 : Nat) (x3 : Int) (h : Hp) : EX d 186 10 [(0, .inr (.inr a0)), (3, .inl x3)] [] h = if sK h a0 = 11 then EX d 186 15 [(0, .inr (.inr a0))] [] (pI h a0 22 x3) else none := (EX_at bk_Mod_laysWays_10 _ _ _).trans rfl
theorem bk_Mod_laysWays_15 : blk 186 15 = some (((cd_Mod_laysWays.lookup 15).getD ([], 0, []))) := rfl
theorem Mod_laysWays_15 (d : Nat) (a0 : Nat) (h : Hp) : EX d 186 15 [(0, .inr (.inr a0))] [] h = if sK h a0 = 11 then if okx h (hR h a0 1) 20 1 then EX d 186 25 [(0, .inr (.inr a0)), (4, .inl ((hI h (hR h a0 1) 1) - 1))] [] h else none else none := (EX_at bk_Mod_laysWays_15 _ _ _).trans rfl
theorem bk_Mod_laysWays_25 : blk 186 25 = some (((cd_Mod_laysWays.lookup 25).getD ([], 0, []))) := rfl
theorem Mod_laysWays_25 (d : Nat) (a0 : Nat) (x4 : Int) (h : Hp) : EX d 186 25 [(0, .inr (.inr a0)), (4, .inl x4)] [] h = if (wr x4) < (-1) then EX d 186 269 [] [] h else EX d 186 31 [(0, .inr (.inr a0)), (4, .inl x4)] [] h := (EX_at bk_Mod_laysWays_25 _ _ _).trans rfl
theorem bk_Mod_laysWays_31 : blk 186 31 = some (((cd_Mod_laysWays.lookup 31).getD ([], 0, []))) := rfl
theorem Mod_laysWays_31 (d : Nat) (a0 : Nat) (x4 : Int) (h : Hp) : EX d 186 31 [(0, .inr (.inr a0)), (4, .inl x4)] [] h = if sK h a0 = 11 then if okx h (hR h a0 1) 20 2 then EX d 186 41 [(0, .inr (.inr a0)), (4, .inl x4), (5, .inl ((hI h (hR h a0 1) 2) - 1))] [] h else none else none := (EX_at bk_Mod_laysWays_31 _ _ _).trans rfl
theorem bk_Mod_laysWays_41 : blk 186 41 = some (((cd_Mod_laysWays.lookup 41).getD ([], 0, []))) := rfl
theorem Mod_laysWays_41 (d : Nat) (a0 : Nat) (x4 : Int) (x5 : Int) (h : Hp) : EX d 186 41 [(0, .inr (.inr a0)), (4, .inl x4), (5, .inl x5)] [] h = if (wr x5) < (-1) then EX d 186 263 [(0, .inr (.inr a0)), (4, .inl x4)] [] h else EX d 186 47 [(0, .inr (.inr a0)), (4, .inl x4), (5, .inl x5)] [] h := (EX_at bk_Mod_laysWays_41 _ _ _).trans rfl
theorem bk_Mod_laysWays_47 : blk 186 47 = some (((cd_Mod_laysWays.lookup 47).getD ([], 0, []))) := rfl
theorem Mod_laysWays_47 (d : Nat) (a0 : Nat) (x4 : Int) (x5 : Int) (h : Hp) : EX d 186 47 [(0, .inr (.inr a0)), (4, .inl x4), (5, .inl x5)] [] h = if (wr x4) = (-1) then EX d 186 53 [(0, .inr (.inr a0)), (4, .inl x4), (5, .inl x5)] [] h else EX d 186 57 [(0, .inr (.inr a0)), (4, .inl x4), (5, .inl x5)] [] h := (EX_at bk_Mod_laysWays_47 _ _ _).trans rfl
theorem bk_Mod_laysWays_53 : blk 186 53 = some (((cd_Mod_laysWays.lookup 53).getD ([], 0, []))) := rfl
theorem Mod_laysWays_53 (d : Nat) (a0 : Nat) (x4 : Int) (x5 : Int) (h : Hp) : EX d 186 53 [(0, .inr (.inr a0)), (4, .inl x4), (5, .inl x5)] [] h = EX d 186 58 [(0, .inr (.inr a0)), (4, .inl x4), (5, .inl x5)] [.inl 1] h := (EX_at bk_Mod_laysWays_53 _ _ _).trans rfl
theorem bk_Mod_laysWays_57 : blk 186 57 = some (((cd_Mod_laysWays.lookup 57).getD ([], 0, []))) := rfl
theorem Mod_laysWays_57 (d : Nat) (a0 : Nat) (x4 : Int) (x5 : Int) (h : Hp) : EX d 186 57 [(0, .inr (.inr a0)), (4, .inl x4), (5, .inl x5)] [] h = EX d 186 58 [(0, .inr (.inr a0)), (4, .inl x4), (5, .inl x5)] [.inl 0] h := (EX_at bk_Mod_laysWays_57 _ _ _).trans rfl
theorem bk_Mod_laysWays_58 : blk 186 58 = some (((cd_Mod_laysWays.lookup 58).getD ([], 0, []))) := rfl
theorem Mod_laysWays_58 (d : Nat) (a0 : Nat) (x4 : Int) (x5 : Int) (s0 : Int) (h : Hp) : EX d 186 58 [(0, .inr (.inr a0)), (4, .inl x4), (5, .inl x5)] [.inl s0] h = if (wr x5) = (-1) then EX d 186 64 [(0, .inr (.inr a0)), (4, .inl x4), (5, .inl x5)] [.inl s0] h else EX d 186 68 [(0, .inr (.inr a0)), (4, .inl x4), (5, .inl x5)] [.inl s0] h := (EX_at bk_Mod_laysWays_58 _ _ _).trans rfl
theorem bk_Mod_laysWays_64 : blk 186 64 = some (((cd_Mod_laysWays.lookup 64).getD ([], 0, []))) := rfl
theorem Mod_laysWays_64 (d : Nat) (a0 : Nat) (x4 : Int) (x5 : Int) (s0 : Int) (h : Hp) : EX d 186 64 [(0, .inr (.inr a0)), (4, .inl x4), (5, .inl x5)] [.inl s0] h = EX d 186 69 [(0, .inr (.inr a0)), (4, .inl x4), (5, .inl x5)] [.inl 1, .inl s0] h := (EX_at bk_Mod_laysWays_64 _ _ _).trans rfl
theorem bk_Mod_laysWays_68 : blk 186 68 = some (((cd_Mod_laysWays.lookup 68).getD ([], 0, []))) := rfl
theorem Mod_laysWays_68 (d : Nat) (a0 : Nat) (x4 : Int) (x5 : Int) (s0 : Int) (h : Hp) : EX d 186 68 [(0, .inr (.inr a0)), (4, .inl x4), (5, .inl x5)] [.inl s0] h = EX d 186 69 [(0, .inr (.inr a0)), (4, .inl x4), (5, .inl x5)] [.inl 0, .inl s0] h := (EX_at bk_Mod_laysWays_68 _ _ _).trans rfl
theorem bk_Mod_laysWays_69 : blk 186 69 = some (((cd_Mod_laysWays.lookup 69).getD ([], 0, []))) := rfl
theorem Mod_laysWays_69 (d : Nat) (a0 : Nat) (x4 : Int) (x5 : Int) (s0 : Int) (s1 : Int) (h : Hp) : EX d 186 69 [(0, .inr (.inr a0)), (4, .inl x4), (5, .inl x5)] [.inl s1, .inl s0] h = if (wr s0) = (wr s1) then EX d 186 75 [(0, .inr (.inr a0)), (4, .inl x4), (5, .inl x5)] [] h else EX d 186 72 [(0, .inr (.inr a0)), (4, .inl x4), (5, .inl x5)] [] h := (EX_at bk_Mod_laysWays_69 _ _ _).trans rfl
theorem bk_Mod_laysWays_72 : blk 186 72 = some (((cd_Mod_laysWays.lookup 72).getD ([], 0, []))) := rfl
theorem Mod_laysWays_72 (d : Nat) (a0 : Nat) (x4 : Int) (x5 : Int) (h : Hp) : EX d 186 72 [(0, .inr (.inr a0)), (4, .inl x4), (5, .inl x5)] [] h = EX d 186 257 [(0, .inr (.inr a0)), (4, .inl x4), (5, .inl x5)] [] h := (EX_at bk_Mod_laysWays_72 _ _ _).trans rfl
theorem bk_Mod_laysWays_75 : blk 186 75 = some (((cd_Mod_laysWays.lookup 75).getD ([], 0, []))) := rfl
theorem Mod_laysWays_75 (d : Nat) (a0 : Nat) (x4 : Int) (x5 : Int) (h : Hp) : EX d 186 75 [(0, .inr (.inr a0)), (4, .inl x4), (5, .inl x5)] [] h = EX d 186 78 [(0, .inr (.inr a0)), (4, .inl x4), (5, .inl x5), (6, .inl 0)] [] h := (EX_at bk_Mod_laysWays_75 _ _ _).trans rfl
theorem bk_Mod_laysWays_78 : blk 186 78 = some (((cd_Mod_laysWays.lookup 78).getD ([], 0, []))) := rfl
theorem Mod_laysWays_78 (d : Nat) (a0 : Nat) (x4 : Int) (x5 : Int) (x6 : Int) (h : Hp) : EX d 186 78 [(0, .inr (.inr a0)), (4, .inl x4), (5, .inl x5), (6, .inl x6)] [] h = if 12 < (wr x6) then EX d 186 144 [(0, .inr (.inr a0)), (4, .inl x4), (5, .inl x5)] [] h else EX d 186 85 [(0, .inr (.inr a0)), (4, .inl x4), (5, .inl x5), (6, .inl x6)] [] h := (EX_at bk_Mod_laysWays_78 _ _ _).trans rfl
theorem bk_Mod_laysWays_85 : blk 186 85 = some (((cd_Mod_laysWays.lookup 85).getD ([], 0, []))) := rfl
theorem Mod_laysWays_85 (d : Nat) (a0 : Nat) (x4 : Int) (x5 : Int) (x6 : Int) (h : Hp) : EX d 186 85 [(0, .inr (.inr a0)), (4, .inl x4), (5, .inl x5), (6, .inl x6)] [] h = if sK h a0 = 11 then bak (EX d 186) 98 [(0, .inr (.inr a0)), (4, .inl x4), (5, .inl x5), (6, .inl x6)] [.inr (.inr (hR h a0 19))] false (cal d 183 [.inl x4, .inl x5, .inl x6] h) else none := (EX_at bk_Mod_laysWays_85 _ _ _).trans rfl
theorem bk_Mod_laysWays_98 : blk 186 98 = some (((cd_Mod_laysWays.lookup 98).getD ([], 0, []))) := rfl
theorem Mod_laysWays_98 (d : Nat) (a0 : Nat) (x4 : Int) (x5 : Int) (x6 : Int) (r0 : Nat) (s1 : Int) (h : Hp) : EX d 186 98 [(0, .inr (.inr a0)), (4, .inl x4), (5, .inl x5), (6, .inl x6)] [.inl s1, .inr (.inr r0)] h = if (wr x6) = 0 then EX d 186 103 [(0, .inr (.inr a0)), (4, .inl x4), (5, .inl x5), (6, .inl x6)] [.inl s1, .inr (.inr r0)] h else EX d 186 136 [(0, .inr (.inr a0)), (4, .inl x4), (5, .inl x5), (6, .inl x6)] [.inl s1, .inr (.inr r0)] h := (EX_at bk_Mod_laysWays_98 _ _ _).trans rfl
theorem bk_Mod_laysWays_103 : blk 186 103 = some (((cd_Mod_laysWays.lookup 103).getD ([], 0, []))) := rfl
theorem Mod_laysWays_103 (d : Nat) (a0 : Nat) (x4 : Int) (x5 : Int) (x6 : Int) (r0 : Nat) (s1 : Int) (h : Hp) : EX d 186 103 [(0, .inr (.inr a0)), (4, .inl x4), (5, .inl x5), (6, .inl x6)] [.inl s1, .inr (.inr r0)] h = if (wr x5) = (-1) then EX d 186 110 [(0, .inr (.inr a0)), (4, .inl x4), (5, .inl x5), (6, .inl x6)] [.inr (.inr a0), .inl s1, .inr (.inr r0)] h else EX d 186 114 [(0, .inr (.inr a0)), (4, .inl x4), (5, .inl x5), (6, .inl x6)] [.inr (.inr a0), .inl s1, .inr (.inr r0)] h := (EX_at bk_Mod_laysWays_103 _ _ _).trans rfl
theorem bk_Mod_laysWays_110 : blk 186 110 = some (((cd_Mod_laysWays.lookup 110).getD ([], 0, []))) := rfl
theorem Mod_laysWays_110 (d : Nat) (a0 : Nat) (x4 : Int) (x5 : Int) (x6 : Int) (r0 : Nat) (s1 : Int) (r2 : Nat) (h : Hp) : EX d 186 110 [(0, .inr (.inr a0)), (4, .inl x4), (5, .inl x5), (6, .inl x6)] [.inr (.inr r2), .inl s1, .inr (.inr r0)] h = EX d 186 116 [(0, .inr (.inr a0)), (4, .inl x4), (5, .inl x5), (6, .inl x6)] [.inl 0, .inr (.inr r2), .inl s1, .inr (.inr r0)] h := (EX_at bk_Mod_laysWays_110 _ _ _).trans rfl
theorem bk_Mod_laysWays_114 : blk 186 114 = some (((cd_Mod_laysWays.lookup 114).getD ([], 0, []))) := rfl
theorem Mod_laysWays_114 (d : Nat) (a0 : Nat) (x4 : Int) (x5 : Int) (x6 : Int) (r0 : Nat) (s1 : Int) (r2 : Nat) (h : Hp) : EX d 186 114 [(0, .inr (.inr a0)), (4, .inl x4), (5, .inl x5), (6, .inl x6)] [.inr (.inr r2), .inl s1, .inr (.inr r0)] h = EX d 186 116 [(0, .inr (.inr a0)), (4, .inl x4), (5, .inl x5), (6, .inl x6)] [.inl x5, .inr (.inr r2), .inl s1, .inr (.inr r0)] h := (EX_at bk_Mod_laysWays_114 _ _ _).trans rfl
theorem bk_Mod_laysWays_116 : blk 186 116 = some (((cd_Mod_laysWays.lookup 116).getD ([], 0, []))) := rfl
theorem Mod_laysWays_116 (d : Nat) (a0 : Nat) (x4 : Int) (x5 : Int) (x6 : Int) (r0 : Nat) (s1 : Int) (r2 : Nat) (s3 : Int) (h : Hp) : EX d 186 116 [(0, .inr (.inr a0)), (4, .inl x4), (5, .inl x5), (6, .inl x6)] [.inl s3, .inr (.inr r2), .inl s1, .inr (.inr r0)] h = if sK h a0 = 11 then if okx h (hR h a0 1) 20 2 then if sK h r2 = 11 then bak (EX d 186) 129 [(0, .inr (.inr a0)), (4, .inl x4), (5, .inl x5), (6, .inl x6)] [.inl s1, .inr (.inr r0)] false (cal d 184 [.inr (.inr r2), .inl s3, .inl ((hI h (hR h a0 1) 2) - 1), .inl (-2)] h) else none else none else none := (EX_at bk_Mod_laysWays_116 _ _ _).trans rfl
theorem bk_Mod_laysWays_129 : blk 186 129 = some (((cd_Mod_laysWays.lookup 129).getD ([], 0, []))) := rfl
theorem Mod_laysWays_129 (d : Nat) (a0 : Nat) (x4 : Int) (x5 : Int) (x6 : Int) (r0 : Nat) (s1 : Int) (s2 : Int) (h : Hp) : EX d 186 129 [(0, .inr (.inr a0)), (4, .inl x4), (5, .inl x5), (6, .inl x6)] [.inl s2, .inl s1, .inr (.inr r0)] h = if (wr s2) = 0 then EX d 186 136 [(0, .inr (.inr a0)), (4, .inl x4), (5, .inl x5), (6, .inl x6)] [.inl s1, .inr (.inr r0)] h else EX d 186 132 [(0, .inr (.inr a0)), (4, .inl x4), (5, .inl x5), (6, .inl x6)] [.inl s1, .inr (.inr r0)] h := (EX_at bk_Mod_laysWays_129 _ _ _).trans rfl
theorem bk_Mod_laysWays_132 : blk 186 132 = some (((cd_Mod_laysWays.lookup 132).getD ([], 0, []))) := rfl
theorem Mod_laysWays_132 (d : Nat) (a0 : Nat) (x4 : Int) (x5 : Int) (x6 : Int) (r0 : Nat) (s1 : Int) (h : Hp) : EX d 186 132 [(0, .inr (.inr a0)), (4, .inl x4), (5, .inl x5), (6, .inl x6)] [.inl s1, .inr (.inr r0)] h = EX d 186 137 [(0, .inr (.inr a0)), (4, .inl x4), (5, .inl x5), (6, .inl x6)] [.inr (.inl 1), .inl s1, .inr (.inr r0)] h := (EX_at bk_Mod_laysWays_132 _ _ _).trans rfl
theorem bk_Mod_laysWays_136 : blk 186 136 = some (((cd_Mod_laysWays.lookup 136).getD ([], 0, []))) := rfl
theorem Mod_laysWays_136 (d : Nat) (a0 : Nat) (x4 : Int) (x5 : Int) (x6 : Int) (r0 : Nat) (s1 : Int) (h : Hp) : EX d 186 136 [(0, .inr (.inr a0)), (4, .inl x4), (5, .inl x5), (6, .inl x6)] [.inl s1, .inr (.inr r0)] h = EX d 186 137 [(0, .inr (.inr a0)), (4, .inl x4), (5, .inl x5), (6, .inl x6)] [.inr (.inl 0), .inl s1, .inr (.inr r0)] h := (EX_at bk_Mod_laysWays_136 _ _ _).trans rfl
theorem bk_Mod_laysWays_137 : blk 186 137 = some (((cd_Mod_laysWays.lookup 137).getD ([], 0, []))) := rfl
theorem Mod_laysWays_137 (d : Nat) (a0 : Nat) (x4 : Int) (x5 : Int) (x6 : Int) (r0 : Nat) (s1 : Int) (t2 : Int) (h : Hp) : EX d 186 137 [(0, .inr (.inr a0)), (4, .inl x4), (5, .inl x5), (6, .inl x6)] [.inr (.inl t2), .inl s1, .inr (.inr r0)] h = if okx h r0 21 s1 then EX d 186 138 [(0, .inr (.inr a0)), (4, .inl x4), (5, .inl x5), (6, .inl x6)] [] (pL h r0 (ix s1) t2) else none := (EX_at bk_Mod_laysWays_137 _ _ _).trans rfl
theorem bk_Mod_laysWays_138 : blk 186 138 = some (((cd_Mod_laysWays.lookup 138).getD ([], 0, []))) := rfl
theorem Mod_laysWays_138 (d : Nat) (a0 : Nat) (x4 : Int) (x5 : Int) (x6 : Int) (h : Hp) : EX d 186 138 [(0, .inr (.inr a0)), (4, .inl x4), (5, .inl x5), (6, .inl x6)] [] h = EX d 186 78 [(0, .inr (.inr a0)), (4, .inl x4), (5, .inl x5), (6, .inl (x6 + 1))] [] h := (EX_at bk_Mod_laysWays_138 _ _ _).trans rfl
theorem bk_Mod_laysWays_144 : blk 186 144 = some (((cd_Mod_laysWays.lookup 144).getD ([], 0, []))) := rfl
theorem Mod_laysWays_144 (d : Nat) (a0 : Nat) (x4 : Int) (x5 : Int) (h : Hp) : EX d 186 144 [(0, .inr (.inr a0)), (4, .inl x4), (5, .inl x5)] [] h = EX d 186 150 [(0, .inr (.inr a0)), (4, .inl x4), (5, .inl x5), (6, .inl (x4 + 1))] [] h := (EX_at bk_Mod_laysWays_144 _ _ _).trans rfl
theorem bk_Mod_laysWays_150 : blk 186 150 = some (((cd_Mod_laysWays.lookup 150).getD ([], 0, []))) := rfl
theorem Mod_laysWays_150 (d : Nat) (a0 : Nat) (x4 : Int) (x5 : Int) (x6 : Int) (h : Hp) : EX d 186 150 [(0, .inr (.inr a0)), (4, .inl x4), (5, .inl x5), (6, .inl x6)] [] h = if sK h a0 = 11 then if okx h (hR h a0 1) 20 1 then if (wr x6) < (wr (hI h (hR h a0 1) 1)) then EX d 186 161 [(0, .inr (.inr a0)), (4, .inl x4), (5, .inl x5), (6, .inl x6)] [] h else EX d 186 257 [(0, .inr (.inr a0)), (4, .inl x4), (5, .inl x5)] [] h else none else none := (EX_at bk_Mod_laysWays_150 _ _ _).trans rfl
theorem bk_Mod_laysWays_161 : blk 186 161 = some (((cd_Mod_laysWays.lookup 161).getD ([], 0, []))) := rfl
theorem Mod_laysWays_161 (d : Nat) (a0 : Nat) (x4 : Int) (x5 : Int) (x6 : Int) (h : Hp) : EX d 186 161 [(0, .inr (.inr a0)), (4, .inl x4), (5, .inl x5), (6, .inl x6)] [] h = EX d 186 167 [(0, .inr (.inr a0)), (4, .inl x4), (5, .inl x5), (6, .inl x6), (7, .inl (x5 + 1))] [] h := (EX_at bk_Mod_laysWays_161 _ _ _).trans rfl
theorem bk_Mod_laysWays_167 : blk 186 167 = some (((cd_Mod_laysWays.lookup 167).getD ([], 0, []))) := rfl
theorem Mod_laysWays_167 (d : Nat) (a0 : Nat) (x4 : Int) (x5 : Int) (x6 : Int) (x7 : Int) (h : Hp) : EX d 186 167 [(0, .inr (.inr a0)), (4, .inl x4), (5, .inl x5), (6, .inl x6), (7, .inl x7)] [] h = if sK h a0 = 11 then if okx h (hR h a0 1) 20 2 then if (wr x7) < (wr (hI h (hR h a0 1) 2)) then EX d 186 178 [(0, .inr (.inr a0)), (4, .inl x4), (5, .inl x5), (6, .inl x6), (7, .inl x7)] [] h else EX d 186 251 [(0, .inr (.inr a0)), (4, .inl x4), (5, .inl x5), (6, .inl x6)] [] h else none else none := (EX_at bk_Mod_laysWays_167 _ _ _).trans rfl
theorem bk_Mod_laysWays_178 : blk 186 178 = some (((cd_Mod_laysWays.lookup 178).getD ([], 0, []))) := rfl
theorem Mod_laysWays_178 (d : Nat) (a0 : Nat) (x4 : Int) (x5 : Int) (x6 : Int) (x7 : Int) (h : Hp) : EX d 186 178 [(0, .inr (.inr a0)), (4, .inl x4), (5, .inl x5), (6, .inl x6), (7, .inl x7)] [] h = if sK h a0 = 11 then bak (EX d 186) 190 [(0, .inr (.inr a0)), (4, .inl x4), (5, .inl x5), (6, .inl x6), (7, .inl x7)] [] false (cal d 185 [.inr (.inr a0), .inl x4, .inl x5, .inl x6, .inl x7] h) else none := (EX_at bk_Mod_laysWays_178 _ _ _).trans rfl
theorem bk_Mod_laysWays_190 : blk 186 190 = some (((cd_Mod_laysWays.lookup 190).getD ([], 0, []))) := rfl
theorem Mod_laysWays_190 (d : Nat) (a0 : Nat) (x4 : Int) (x5 : Int) (x6 : Int) (x7 : Int) (s0 : Int) (h : Hp) : EX d 186 190 [(0, .inr (.inr a0)), (4, .inl x4), (5, .inl x5), (6, .inl x6), (7, .inl x7)] [.inl s0] h = if (wr s0) = 0 then EX d 186 193 [(0, .inr (.inr a0)), (4, .inl x4), (5, .inl x5), (6, .inl x6), (7, .inl x7)] [] h else EX d 186 196 [(0, .inr (.inr a0)), (4, .inl x4), (5, .inl x5), (6, .inl x6), (7, .inl x7)] [] h := (EX_at bk_Mod_laysWays_190 _ _ _).trans rfl
theorem bk_Mod_laysWays_193 : blk 186 193 = some (((cd_Mod_laysWays.lookup 193).getD ([], 0, []))) := rfl
theorem Mod_laysWays_193 (d : Nat) (a0 : Nat) (x4 : Int) (x5 : Int) (x6 : Int) (x7 : Int) (h : Hp) : EX d 186 193 [(0, .inr (.inr a0)), (4, .inl x4), (5, .inl x5), (6, .inl x6), (7, .inl x7)] [] h = EX d 186 245 [(0, .inr (.inr a0)), (4, .inl x4), (5, .inl x5), (6, .inl x6), (7, .inl x7)] [] h := (EX_at bk_Mod_laysWays_193 _ _ _).trans rfl
theorem bk_Mod_laysWays_196 : blk 186 196 = some (((cd_Mod_laysWays.lookup 196).getD ([], 0, []))) := rfl
theorem Mod_laysWays_196 (d : Nat) (a0 : Nat) (x4 : Int) (x5 : Int) (x6 : Int) (x7 : Int) (h : Hp) : EX d 186 196 [(0, .inr (.inr a0)), (4, .inl x4), (5, .inl x5), (6, .inl x6), (7, .inl x7)] [] h = EX d 186 199 [(0, .inr (.inr a0)), (4, .inl x4), (5, .inl x5), (6, .inl x6), (7, .inl x7), (8, .inl 1)] [] h := (EX_at bk_Mod_laysWays_196 _ _ _).trans rfl
theorem bk_Mod_laysWays_199 : blk 186 199 = some (((cd_Mod_laysWays.lookup 199).getD ([], 0, []))) := rfl
theorem Mod_laysWays_199 (d : Nat) (a0 : Nat) (x4 : Int) (x5 : Int) (x6 : Int) (x7 : Int) (x8 : Int) (h : Hp) : EX d 186 199 [(0, .inr (.inr a0)), (4, .inl x4), (5, .inl x5), (6, .inl x6), (7, .inl x7), (8, .inl x8)] [] h = if 12 < (wr x8) then EX d 186 245 [(0, .inr (.inr a0)), (4, .inl x4), (5, .inl x5), (6, .inl x6), (7, .inl x7)] [] h else EX d 186 206 [(0, .inr (.inr a0)), (4, .inl x4), (5, .inl x5), (6, .inl x6), (7, .inl x7), (8, .inl x8)] [] h := (EX_at bk_Mod_laysWays_199 _ _ _).trans rfl
theorem bk_Mod_laysWays_206 : blk 186 206 = some (((cd_Mod_laysWays.lookup 206).getD ([], 0, []))) := rfl
theorem Mod_laysWays_206 (d : Nat) (a0 : Nat) (x4 : Int) (x5 : Int) (x6 : Int) (x7 : Int) (x8 : Int) (h : Hp) : EX d 186 206 [(0, .inr (.inr a0)), (4, .inl x4), (5, .inl x5), (6, .inl x6), (7, .inl x7), (8, .inl x8)] [] h = if sK h a0 = 11 then bak (EX d 186) 219 [(0, .inr (.inr a0)), (4, .inl x4), (5, .inl x5), (6, .inl x6), (7, .inl x7), (8, .inl x8)] [.inr (.inr (hR h a0 19))] false (cal d 183 [.inl x4, .inl x5, .inl x8] h) else none := (EX_at bk_Mod_laysWays_206 _ _ _).trans rfl
theorem bk_Mod_laysWays_219 : blk 186 219 = some (((cd_Mod_laysWays.lookup 219).getD ([], 0, []))) := rfl
theorem Mod_laysWays_219 (d : Nat) (a0 : Nat) (x4 : Int) (x5 : Int) (x6 : Int) (x7 : Int) (x8 : Int) (r0 : Nat) (s1 : Int) (h : Hp) : EX d 186 219 [(0, .inr (.inr a0)), (4, .inl x4), (5, .inl x5), (6, .inl x6), (7, .inl x7), (8, .inl x8)] [.inl s1, .inr (.inr r0)] h = if okx h r0 21 s1 then if sK h a0 = 11 then bak (EX d 186) 236 [(0, .inr (.inr a0)), (4, .inl x4), (5, .inl x5), (6, .inl x6), (7, .inl x7), (8, .inl x8)] [.inr (.inr (hR h a0 19)), .inr (.inl (hL h r0 (ix s1))), .inl s1, .inr (.inr r0)] false (cal d 183 [.inl x6, .inl x7, .inl (x8 - 1)] h) else none else none := (EX_at bk_Mod_laysWays_219 _ _ _).trans rfl
theorem bk_Mod_laysWays_236 : blk 186 236 = some (((cd_Mod_laysWays.lookup 236).getD ([], 0, []))) := rfl
theorem Mod_laysWays_236 (d : Nat) (a0 : Nat) (x4 : Int) (x5 : Int) (x6 : Int) (x7 : Int) (x8 : Int) (r0 : Nat) (s1 : Int) (t2 : Int) (r3 : Nat) (s4 : Int) (h : Hp) : EX d 186 236 [(0, .inr (.inr a0)), (4, .inl x4), (5, .inl x5), (6, .inl x6), (7, .inl x7), (8, .inl x8)] [.inl s4, .inr (.inr r3), .inr (.inl t2), .inl s1, .inr (.inr r0)] h = if okx h r3 21 s4 then if okx h r0 21 s1 then EX d 186 239 [(0, .inr (.inr a0)), (4, .inl x4), (5, .inl x5), (6, .inl x6), (7, .inl x7), (8, .inl x8)] [] (pL h r0 (ix s1) (t2 + (hL h r3 (ix s4)))) else none else none := (EX_at bk_Mod_laysWays_236 _ _ _).trans rfl
theorem bk_Mod_laysWays_239 : blk 186 239 = some (((cd_Mod_laysWays.lookup 239).getD ([], 0, []))) := rfl
theorem Mod_laysWays_239 (d : Nat) (a0 : Nat) (x4 : Int) (x5 : Int) (x6 : Int) (x7 : Int) (x8 : Int) (h : Hp) : EX d 186 239 [(0, .inr (.inr a0)), (4, .inl x4), (5, .inl x5), (6, .inl x6), (7, .inl x7), (8, .inl x8)] [] h = EX d 186 199 [(0, .inr (.inr a0)), (4, .inl x4), (5, .inl x5), (6, .inl x6), (7, .inl x7), (8, .inl (x8 + 1))] [] h := (EX_at bk_Mod_laysWays_239 _ _ _).trans rfl
theorem bk_Mod_laysWays_245 : blk 186 245 = some (((cd_Mod_laysWays.lookup 245).getD ([], 0, []))) := rfl
theorem Mod_laysWays_245 (d : Nat) (a0 : Nat) (x4 : Int) (x5 : Int) (x6 : Int) (x7 : Int) (h : Hp) : EX d 186 245 [(0, .inr (.inr a0)), (4, .inl x4), (5, .inl x5), (6, .inl x6), (7, .inl x7)] [] h = EX d 186 167 [(0, .inr (.inr a0)), (4, .inl x4), (5, .inl x5), (6, .inl x6), (7, .inl (x7 + 1))] [] h := (EX_at bk_Mod_laysWays_245 _ _ _).trans rfl
theorem bk_Mod_laysWays_251 : blk 186 251 = some (((cd_Mod_laysWays.lookup 251).getD ([], 0, []))) := rfl
theorem Mod_laysWays_251 (d : Nat) (a0 : Nat) (x4 : Int) (x5 : Int) (x6 : Int) (h : Hp) : EX d 186 251 [(0, .inr (.inr a0)), (4, .inl x4), (5, .inl x5), (6, .inl x6)] [] h = EX d 186 150 [(0, .inr (.inr a0)), (4, .inl x4), (5, .inl x5), (6, .inl (x6 + 1))] [] h := (EX_at bk_Mod_laysWays_251 _ _ _).trans rfl
theorem bk_Mod_laysWays_257 : blk 186 257 = some (((cd_Mod_laysWays.lookup 257).getD ([], 0, []))) := rfl
theorem Mod_laysWays_257 (d : Nat) (a0 : Nat) (x4 : Int) (x5 : Int) (h : Hp) : EX d 186 257 [(0, .inr (.inr a0)), (4, .inl x4), (5, .inl x5)] [] h = EX d 186 41 [(0, .inr (.inr a0)), (4, .inl x4), (5, .inl (x5 + (-1)))] [] h := (EX_at bk_Mod_laysWays_257 _ _ _).trans rfl
theorem bk_Mod_laysWays_263 : blk 186 263 = some (((cd_Mod_laysWays.lookup 263).getD ([], 0, []))) := rfl
theorem Mod_laysWays_263 (d : Nat) (a0 : Nat) (x4 : Int) (h : Hp) : EX d 186 263 [(0, .inr (.inr a0)), (4, .inl x4)] [] h = EX d 186 25 [(0, .inr (.inr a0)), (4, .inl (x4 + (-1)))] [] h := (EX_at bk_Mod_laysWays_263 _ _ _).trans rfl
theorem bk_Mod_laysWays_269 : blk 186 269 = some (((cd_Mod_laysWays.lookup 269).getD ([], 0, []))) := rfl
theorem Mod_laysWays_269 (d : Nat) (h : Hp) : EX d 186 269 [] [] h = some (.inl 0, h) := (EX_at bk_Mod_laysWays_269 _ _ _).trans rfl
/-! laysAll()V of HookOverModel: method 187 -/
theorem bk_Mod_laysAll_0 : blk 187 0 = some (((cd_Mod_laysAll.lookup 0).getD ([], 0, []))) := rfl
theorem Mod_laysAll_0 (d : Nat) (a0 : Nat) (h : Hp) : EX d 187 0 [(0, .inr (.inr a0))] [] h = if sK h a0 = 11 then bak (EX d 187) 7 [] [] true (cal d 186 [.inr (.inr a0), .inl (-1), .inl (-1), .inl (-1)] h) else none := (EX_at bk_Mod_laysAll_0 _ _ _).trans rfl
theorem bk_Mod_laysAll_7 : blk 187 7 = some (((cd_Mod_laysAll.lookup 7).getD ([], 0, []))) := rfl
theorem Mod_laysAll_7 (d : Nat) (h : Hp) : EX d 187 7 [] [] h = some (.inl 0, h) := (EX_at bk_Mod_laysAll_7 _ _ _).trans rfl
/-! waysOf(I)J of HookOverModel: method 188 -/
theorem bk_Mod_waysOf_0 : blk 188 0 = some (((cd_Mod_waysOf.lookup 0).getD ([], 0, []))) := rfl
theorem Mod_waysOf_0 (d : Nat) (a0 : Nat) (x1 : Int) (h : Hp) : EX d 188 0 [(0, .inr (.inr a0)), (1, .inl x1)] [] h = if sK h a0 = 11 then bak (EX d 188) 10 [] [.inr (.inr (hR h a0 19))] false (cal d 183 [.inl (-1), .inl (-1), .inl x1] h) else none := (EX_at bk_Mod_waysOf_0 _ _ _).trans rfl
theorem bk_Mod_waysOf_10 : blk 188 10 = some (((cd_Mod_waysOf.lookup 10).getD ([], 0, []))) := rfl
theorem Mod_waysOf_10 (d : Nat) (r0 : Nat) (s1 : Int) (h : Hp) : EX d 188 10 [] [.inl s1, .inr (.inr r0)] h = if okx h r0 21 s1 then some (.inr (.inl (hL h r0 (ix s1))), h) else none := (EX_at bk_Mod_waysOf_10 _ _ _).trans rfl
/-! joinings(I)J of HookOverModel: method 189 -/
theorem bk_Mod_joinings_0 : blk 189 0 = some (((cd_Mod_joinings.lookup 0).getD ([], 0, []))) := rfl
theorem Mod_joinings_0 (d : Nat) (a0 : Nat) (x1 : Int) (h : Hp) : EX d 189 0 [(0, .inr (.inr a0)), (1, .inl x1)] [] h = if sK h a0 = 11 then EX d 189 5 [(0, .inr (.inr a0)), (1, .inl x1)] [] (pI h a0 0 0) else none := (EX_at bk_Mod_joinings_0 _ _ _).trans rfl
theorem bk_Mod_joinings_5 : blk 189 5 = some (((cd_Mod_joinings.lookup 5).getD ([], 0, []))) := rfl
theorem Mod_joinings_5 (d : Nat) (a0 : Nat) (x1 : Int) (h : Hp) : EX d 189 5 [(0, .inr (.inr a0)), (1, .inl x1)] [] h = bak (EX d 189) 14 [(0, .inr (.inr a0)), (1, .inl x1)] [] false (cal d 71 [.inr (.inl (wr x1)), .inr (.inl 0), .inr (.inl 12)] h) := (EX_at bk_Mod_joinings_5 _ _ _).trans rfl
theorem bk_Mod_joinings_14 : blk 189 14 = some (((cd_Mod_joinings.lookup 14).getD ([], 0, []))) := rfl
theorem Mod_joinings_14 (d : Nat) (a0 : Nat) (x1 : Int) (s0 : Int) (h : Hp) : EX d 189 14 [(0, .inr (.inr a0)), (1, .inl x1)] [.inl s0] h = if (wr s0) = 0 then EX d 189 17 [] [] h else EX d 189 21 [(0, .inr (.inr a0)), (1, .inl x1)] [] h := (EX_at bk_Mod_joinings_14 _ _ _).trans rfl
theorem bk_Mod_joinings_17 : blk 189 17 = some (((cd_Mod_joinings.lookup 17).getD ([], 0, []))) := rfl
theorem Mod_joinings_17 (d : Nat) (h : Hp) : EX d 189 17 [] [] h = some (.inr (.inl (-3)), h) := (EX_at bk_Mod_joinings_17 _ _ _).trans rfl
theorem bk_Mod_joinings_21 : blk 189 21 = some (((cd_Mod_joinings.lookup 21).getD ([], 0, []))) := rfl
theorem Mod_joinings_21 (d : Nat) (a0 : Nat) (x1 : Int) (h : Hp) : EX d 189 21 [(0, .inr (.inr a0)), (1, .inl x1)] [] h = if sK h a0 = 11 then bak (EX d 189) 25 [(0, .inr (.inr a0)), (1, .inl x1)] [] true (cal d 187 [.inr (.inr a0)] h) else none := (EX_at bk_Mod_joinings_21 _ _ _).trans rfl
theorem bk_Mod_joinings_25 : blk 189 25 = some (((cd_Mod_joinings.lookup 25).getD ([], 0, []))) := rfl
theorem Mod_joinings_25 (d : Nat) (a0 : Nat) (x1 : Int) (h : Hp) : EX d 189 25 [(0, .inr (.inr a0)), (1, .inl x1)] [] h = if sK h a0 = 11 then bak (EX d 189) 30 [] [] false (cal d 188 [.inr (.inr a0), .inl x1] h) else none := (EX_at bk_Mod_joinings_25 _ _ _).trans rfl
theorem bk_Mod_joinings_30 : blk 189 30 = some (((cd_Mod_joinings.lookup 30).getD ([], 0, []))) := rfl
theorem Mod_joinings_30 (d : Nat) (t0 : Int) (h : Hp) : EX d 189 30 [] [.inr (.inl t0)] h = some (.inr (.inl t0), h) := (EX_at bk_Mod_joinings_30 _ _ _).trans rfl
/-! fullOf()I of HookOverModel: method 191 -/
theorem bk_Mod_fullOf_0 : blk 191 0 = some (((cd_Mod_fullOf.lookup 0).getD ([], 0, []))) := rfl
theorem Mod_fullOf_0 (d : Nat) (a0 : Nat) (h : Hp) : EX d 191 0 [(0, .inr (.inr a0))] [] h = if sK h a0 = 11 then bak (EX d 191) 4 [(0, .inr (.inr a0))] [] true (cal d 187 [.inr (.inr a0)] h) else none := (EX_at bk_Mod_fullOf_0 _ _ _).trans rfl
theorem bk_Mod_fullOf_4 : blk 191 4 = some (((cd_Mod_fullOf.lookup 4).getD ([], 0, []))) := rfl
theorem Mod_fullOf_4 (d : Nat) (a0 : Nat) (h : Hp) : EX d 191 4 [(0, .inr (.inr a0))] [] h = EX d 191 7 [(0, .inr (.inr a0)), (1, .inl 12)] [] h := (EX_at bk_Mod_fullOf_4 _ _ _).trans rfl
theorem bk_Mod_fullOf_7 : blk 191 7 = some (((cd_Mod_fullOf.lookup 7).getD ([], 0, []))) := rfl
theorem Mod_fullOf_7 (d : Nat) (a0 : Nat) (x1 : Int) (h : Hp) : EX d 191 7 [(0, .inr (.inr a0)), (1, .inl x1)] [] h = if sK h a0 = 11 then bak (EX d 191) 12 [(0, .inr (.inr a0)), (1, .inl x1)] [] false (cal d 188 [.inr (.inr a0), .inl x1] h) else none := (EX_at bk_Mod_fullOf_7 _ _ _).trans rfl
theorem bk_Mod_fullOf_12 : blk 191 12 = some (((cd_Mod_fullOf.lookup 12).getD ([], 0, []))) := rfl
theorem Mod_fullOf_12 (d : Nat) (a0 : Nat) (x1 : Int) (t0 : Int) (h : Hp) : EX d 191 12 [(0, .inr (.inr a0)), (1, .inl x1)] [.inr (.inl t0)] h = if (wr (lCmp t0 0)) = 0 then EX d 191 17 [(0, .inr (.inr a0)), (1, .inl x1)] [] h else EX d 191 23 [(1, .inl x1)] [] h := (EX_at bk_Mod_fullOf_12 _ _ _).trans rfl
theorem bk_Mod_fullOf_17 : blk 191 17 = some (((cd_Mod_fullOf.lookup 17).getD ([], 0, []))) := rfl
theorem Mod_fullOf_17 (d : Nat) (a0 : Nat) (x1 : Int) (h : Hp) : EX d 191 17 [(0, .inr (.inr a0)), (1, .inl x1)] [] h = EX d 191 7 [(0, .inr (.inr a0)), (1, .inl (x1 + (-1)))] [] h := (EX_at bk_Mod_fullOf_17 _ _ _).trans rfl
theorem bk_Mod_fullOf_23 : blk 191 23 = some (((cd_Mod_fullOf.lookup 23).getD ([], 0, []))) := rfl
theorem Mod_fullOf_23 (d : Nat) (x1 : Int) (h : Hp) : EX d 191 23 [(1, .inl x1)] [] h = some (.inl x1, h) := (EX_at bk_Mod_fullOf_23 _ _ _).trans rfl
/-! full()I of HookOverModel: method 192 -/
theorem bk_Mod_full_0 : blk 192 0 = some (((cd_Mod_full.lookup 0).getD ([], 0, []))) := rfl
theorem Mod_full_0 (d : Nat) (a0 : Nat) (h : Hp) : EX d 192 0 [(0, .inr (.inr a0))] [] h = if sK h a0 = 11 then EX d 192 5 [(0, .inr (.inr a0))] [] (pI h a0 0 0) else none := (EX_at bk_Mod_full_0 _ _ _).trans rfl
theorem bk_Mod_full_5 : blk 192 5 = some (((cd_Mod_full.lookup 5).getD ([], 0, []))) := rfl
theorem Mod_full_5 (d : Nat) (a0 : Nat) (h : Hp) : EX d 192 5 [(0, .inr (.inr a0))] [] h = if sK h a0 = 11 then bak (EX d 192) 9 [] [] false (cal d 191 [.inr (.inr a0)] h) else none := (EX_at bk_Mod_full_5 _ _ _).trans rfl
theorem bk_Mod_full_9 : blk 192 9 = some (((cd_Mod_full.lookup 9).getD ([], 0, []))) := rfl
theorem Mod_full_9 (d : Nat) (s0 : Int) (h : Hp) : EX d 192 9 [] [.inl s0] h = some (.inl s0, h) := (EX_at bk_Mod_full_9 _ _ _).trans rfl
/-! asksHook(II)Z of HookOverModel: method 202 -/
theorem bk_Mod_asksHook_0 : blk 202 0 = some (((cd_Mod_asksHook.lookup 0).getD ([], 0, []))) := rfl
theorem Mod_asksHook_0 (d : Nat) (a0 : Nat) (x1 : Int) (x2 : Int) (h : Hp) : EX d 202 0 [(0, .inr (.inr a0)), (1, .inl x1), (2, .inl x2)] [] h = bak (EX d 202) 8 [(0, .inr (.inr a0)), (1, .inl x1)] [] false (cal d 71 [.inr (.inl (wr x1)), .inr (.inl 0), .inr (.inl (wr x2))] h) := (EX_at bk_Mod_asksHook_0 _ _ _).trans rfl
theorem bk_Mod_asksHook_8 : blk 202 8 = some (((cd_Mod_asksHook.lookup 8).getD ([], 0, []))) := rfl
theorem Mod_asksHook_8 (d : Nat) (a0 : Nat) (x1 : Int) (s0 : Int) (h : Hp) : EX d 202 8 [(0, .inr (.inr a0)), (1, .inl x1)] [.inl s0] h = if (wr s0) = 0 then EX d 202 11 [(0, .inr (.inr a0)), (1, .inl x1)] [] h else EX d 202 32 [] [] h := (EX_at bk_Mod_asksHook_8 _ _ _).trans rfl
theorem bk_Mod_asksHook_11 : blk 202 11 = some (((cd_Mod_asksHook.lookup 11).getD ([], 0, []))) := rfl
theorem Mod_asksHook_11 (d : Nat) (a0 : Nat) (x1 : Int) (h : Hp) : EX d 202 11 [(0, .inr (.inr a0)), (1, .inl x1)] [] h = if sK h a0 = 11 then if okx h (hR h a0 1) 20 1 then bak (EX d 202) 29 [] [] false (cal d 71 [.inr (.inl (wr x1)), .inr (.inl 10), .inr (.inl (wr (9 + (hI h (hR h a0 1) 1))))] h) else none else none := (EX_at bk_Mod_asksHook_11 _ _ _).trans rfl
theorem bk_Mod_asksHook_29 : blk 202 29 = some (((cd_Mod_asksHook.lookup 29).getD ([], 0, []))) := rfl
theorem Mod_asksHook_29 (d : Nat) (s0 : Int) (h : Hp) : EX d 202 29 [] [.inl s0] h = if (wr s0) = 0 then EX d 202 36 [] [] h else EX d 202 32 [] [] h := (EX_at bk_Mod_asksHook_29 _ _ _).trans rfl
theorem bk_Mod_asksHook_32 : blk 202 32 = some (((cd_Mod_asksHook.lookup 32).getD ([], 0, []))) := rfl
theorem Mod_asksHook_32 (d : Nat) (h : Hp) : EX d 202 32 [] [] h = EX d 202 37 [] [.inl 1] h := (EX_at bk_Mod_asksHook_32 _ _ _).trans rfl
theorem bk_Mod_asksHook_36 : blk 202 36 = some (((cd_Mod_asksHook.lookup 36).getD ([], 0, []))) := rfl
theorem Mod_asksHook_36 (d : Nat) (h : Hp) : EX d 202 36 [] [] h = EX d 202 37 [] [.inl 0] h := (EX_at bk_Mod_asksHook_36 _ _ _).trans rfl
theorem bk_Mod_asksHook_37 : blk 202 37 = some (((cd_Mod_asksHook.lookup 37).getD ([], 0, []))) := rfl
theorem Mod_asksHook_37 (d : Nat) (s0 : Int) (h : Hp) : EX d 202 37 [] [.inl s0] h = if ((s0 : Int) = 0 ∨ (s0 : Int) = 1) then some (.inl s0, h) else none := (EX_at bk_Mod_asksHook_37 _ _ _).trans rfl
/-! keptBy(II)I of HookOverModel: method 203 -/
theorem bk_Mod_keptBy_0 : blk 203 0 = some (((cd_Mod_keptBy.lookup 0).getD ([], 0, []))) := rfl
theorem Mod_keptBy_0 (d : Nat) (a0 : Nat) (x1 : Int) (x2 : Int) (h : Hp) : EX d 203 0 [(0, .inr (.inr a0)), (1, .inl x1), (2, .inl x2)] [] h = if sK h a0 = 11 then if okx h (hR h a0 1) 20 (61 + x1) then if (wr (hI h (hR h a0 1) (ix (61 + x1)))) = (wr x2) then EX d 203 15 [] [.inl 100] h else EX d 203 19 [] [.inl 100] h else none else none := (EX_at bk_Mod_keptBy_0 _ _ _).trans rfl
theorem bk_Mod_keptBy_15 : blk 203 15 = some (((cd_Mod_keptBy.lookup 15).getD ([], 0, []))) := rfl
theorem Mod_keptBy_15 (d : Nat) (s0 : Int) (h : Hp) : EX d 203 15 [] [.inl s0] h = EX d 203 20 [] [.inl 1, .inl s0] h := (EX_at bk_Mod_keptBy_15 _ _ _).trans rfl
theorem bk_Mod_keptBy_19 : blk 203 19 = some (((cd_Mod_keptBy.lookup 19).getD ([], 0, []))) := rfl
theorem Mod_keptBy_19 (d : Nat) (s0 : Int) (h : Hp) : EX d 203 19 [] [.inl s0] h = EX d 203 20 [] [.inl 0, .inl s0] h := (EX_at bk_Mod_keptBy_19 _ _ _).trans rfl
theorem bk_Mod_keptBy_20 : blk 203 20 = some (((cd_Mod_keptBy.lookup 20).getD ([], 0, []))) := rfl
theorem Mod_keptBy_20 (d : Nat) (s0 : Int) (s1 : Int) (h : Hp) : EX d 203 20 [] [.inl s1, .inl s0] h = some (.inl (s0 + s1), h) := (EX_at bk_Mod_keptBy_20 _ _ _).trans rfl
/-! laysRight()I of HookOverModel: method 204 -/
theorem bk_Mod_laysRight_0 : blk 204 0 = some (((cd_Mod_laysRight.lookup 0).getD ([], 0, []))) := rfl
theorem Mod_laysRight_0 (d : Nat) (a0 : Nat) (h : Hp) : EX d 204 0 [(0, .inr (.inr a0))] [] h = if sK h a0 = 11 then bak (EX d 204) 4 [(0, .inr (.inr a0))] [] true (cal d 187 [.inr (.inr a0)] h) else none := (EX_at bk_Mod_laysRight_0 _ _ _).trans rfl
theorem bk_Mod_laysRight_4 : blk 204 4 = some (((cd_Mod_laysRight.lookup 4).getD ([], 0, []))) := rfl
theorem Mod_laysRight_4 (d : Nat) (a0 : Nat) (h : Hp) : EX d 204 4 [(0, .inr (.inr a0))] [] h = if sK h a0 = 11 then if okx h (hR h a0 1) 20 1 then EX d 204 13 [(0, .inr (.inr a0)), (1, .inl ((hI h (hR h a0 1) 1) - 1))] [] h else none else none := (EX_at bk_Mod_laysRight_4 _ _ _).trans rfl
theorem bk_Mod_laysRight_13 : blk 204 13 = some (((cd_Mod_laysRight.lookup 13).getD ([], 0, []))) := rfl
theorem Mod_laysRight_13 (d : Nat) (a0 : Nat) (x1 : Int) (h : Hp) : EX d 204 13 [(0, .inr (.inr a0)), (1, .inl x1)] [] h = if (wr x1) < (-1) then EX d 204 200 [(0, .inr (.inr a0))] [] h else EX d 204 18 [(0, .inr (.inr a0)), (1, .inl x1)] [] h := (EX_at bk_Mod_laysRight_13 _ _ _).trans rfl
theorem bk_Mod_laysRight_18 : blk 204 18 = some (((cd_Mod_laysRight.lookup 18).getD ([], 0, []))) := rfl
theorem Mod_laysRight_18 (d : Nat) (a0 : Nat) (x1 : Int) (h : Hp) : EX d 204 18 [(0, .inr (.inr a0)), (1, .inl x1)] [] h = if sK h a0 = 11 then if okx h (hR h a0 1) 20 2 then EX d 204 27 [(0, .inr (.inr a0)), (1, .inl x1), (2, .inl ((hI h (hR h a0 1) 2) - 1))] [] h else none else none := (EX_at bk_Mod_laysRight_18 _ _ _).trans rfl
theorem bk_Mod_laysRight_27 : blk 204 27 = some (((cd_Mod_laysRight.lookup 27).getD ([], 0, []))) := rfl
theorem Mod_laysRight_27 (d : Nat) (a0 : Nat) (x1 : Int) (x2 : Int) (h : Hp) : EX d 204 27 [(0, .inr (.inr a0)), (1, .inl x1), (2, .inl x2)] [] h = if (wr x2) < (-1) then EX d 204 194 [(0, .inr (.inr a0)), (1, .inl x1)] [] h else EX d 204 32 [(0, .inr (.inr a0)), (1, .inl x1), (2, .inl x2)] [] h := (EX_at bk_Mod_laysRight_27 _ _ _).trans rfl
theorem bk_Mod_laysRight_32 : blk 204 32 = some (((cd_Mod_laysRight.lookup 32).getD ([], 0, []))) := rfl
theorem Mod_laysRight_32 (d : Nat) (a0 : Nat) (x1 : Int) (x2 : Int) (h : Hp) : EX d 204 32 [(0, .inr (.inr a0)), (1, .inl x1), (2, .inl x2)] [] h = if (wr x1) = (-1) then EX d 204 37 [(0, .inr (.inr a0)), (1, .inl x1), (2, .inl x2)] [] h else EX d 204 41 [(0, .inr (.inr a0)), (1, .inl x1), (2, .inl x2)] [] h := (EX_at bk_Mod_laysRight_32 _ _ _).trans rfl
theorem bk_Mod_laysRight_37 : blk 204 37 = some (((cd_Mod_laysRight.lookup 37).getD ([], 0, []))) := rfl
theorem Mod_laysRight_37 (d : Nat) (a0 : Nat) (x1 : Int) (x2 : Int) (h : Hp) : EX d 204 37 [(0, .inr (.inr a0)), (1, .inl x1), (2, .inl x2)] [] h = EX d 204 42 [(0, .inr (.inr a0)), (1, .inl x1), (2, .inl x2)] [.inl 1] h := (EX_at bk_Mod_laysRight_37 _ _ _).trans rfl
theorem bk_Mod_laysRight_41 : blk 204 41 = some (((cd_Mod_laysRight.lookup 41).getD ([], 0, []))) := rfl
theorem Mod_laysRight_41 (d : Nat) (a0 : Nat) (x1 : Int) (x2 : Int) (h : Hp) : EX d 204 41 [(0, .inr (.inr a0)), (1, .inl x1), (2, .inl x2)] [] h = EX d 204 42 [(0, .inr (.inr a0)), (1, .inl x1), (2, .inl x2)] [.inl 0] h := (EX_at bk_Mod_laysRight_41 _ _ _).trans rfl
theorem bk_Mod_laysRight_42 : blk 204 42 = some (((cd_Mod_laysRight.lookup 42).getD ([], 0, []))) := rfl
theorem Mod_laysRight_42 (d : Nat) (a0 : Nat) (x1 : Int) (x2 : Int) (s0 : Int) (h : Hp) : EX d 204 42 [(0, .inr (.inr a0)), (1, .inl x1), (2, .inl x2)] [.inl s0] h = if (wr x2) = (-1) then EX d 204 47 [(0, .inr (.inr a0)), (1, .inl x1), (2, .inl x2)] [.inl s0] h else EX d 204 51 [(0, .inr (.inr a0)), (1, .inl x1), (2, .inl x2)] [.inl s0] h := (EX_at bk_Mod_laysRight_42 _ _ _).trans rfl
theorem bk_Mod_laysRight_47 : blk 204 47 = some (((cd_Mod_laysRight.lookup 47).getD ([], 0, []))) := rfl
theorem Mod_laysRight_47 (d : Nat) (a0 : Nat) (x1 : Int) (x2 : Int) (s0 : Int) (h : Hp) : EX d 204 47 [(0, .inr (.inr a0)), (1, .inl x1), (2, .inl x2)] [.inl s0] h = EX d 204 52 [(0, .inr (.inr a0)), (1, .inl x1), (2, .inl x2)] [.inl 1, .inl s0] h := (EX_at bk_Mod_laysRight_47 _ _ _).trans rfl
theorem bk_Mod_laysRight_51 : blk 204 51 = some (((cd_Mod_laysRight.lookup 51).getD ([], 0, []))) := rfl
theorem Mod_laysRight_51 (d : Nat) (a0 : Nat) (x1 : Int) (x2 : Int) (s0 : Int) (h : Hp) : EX d 204 51 [(0, .inr (.inr a0)), (1, .inl x1), (2, .inl x2)] [.inl s0] h = EX d 204 52 [(0, .inr (.inr a0)), (1, .inl x1), (2, .inl x2)] [.inl 0, .inl s0] h := (EX_at bk_Mod_laysRight_51 _ _ _).trans rfl
theorem bk_Mod_laysRight_52 : blk 204 52 = some (((cd_Mod_laysRight.lookup 52).getD ([], 0, []))) := rfl
theorem Mod_laysRight_52 (d : Nat) (a0 : Nat) (x1 : Int) (x2 : Int) (s0 : Int) (s1 : Int) (h : Hp) : EX d 204 52 [(0, .inr (.inr a0)), (1, .inl x1), (2, .inl x2)] [.inl s1, .inl s0] h = if (wr s0) = (wr s1) then EX d 204 58 [(0, .inr (.inr a0)), (1, .inl x1), (2, .inl x2)] [] h else EX d 204 55 [(0, .inr (.inr a0)), (1, .inl x1), (2, .inl x2)] [] h := (EX_at bk_Mod_laysRight_52 _ _ _).trans rfl
theorem bk_Mod_laysRight_55 : blk 204 55 = some (((cd_Mod_laysRight.lookup 55).getD ([], 0, []))) := rfl
theorem Mod_laysRight_55 (d : Nat) (a0 : Nat) (x1 : Int) (x2 : Int) (h : Hp) : EX d 204 55 [(0, .inr (.inr a0)), (1, .inl x1), (2, .inl x2)] [] h = EX d 204 188 [(0, .inr (.inr a0)), (1, .inl x1), (2, .inl x2)] [] h := (EX_at bk_Mod_laysRight_55 _ _ _).trans rfl
theorem bk_Mod_laysRight_58 : blk 204 58 = some (((cd_Mod_laysRight.lookup 58).getD ([], 0, []))) := rfl
theorem Mod_laysRight_58 (d : Nat) (a0 : Nat) (x1 : Int) (x2 : Int) (h : Hp) : EX d 204 58 [(0, .inr (.inr a0)), (1, .inl x1), (2, .inl x2)] [] h = EX d 204 65 [(0, .inr (.inr a0)), (1, .inl x1), (2, .inl x2), (3, .inl 0), (4, .inl (x1 + 1))] [] h := (EX_at bk_Mod_laysRight_58 _ _ _).trans rfl
theorem bk_Mod_laysRight_65 : blk 204 65 = some (((cd_Mod_laysRight.lookup 65).getD ([], 0, []))) := rfl
theorem Mod_laysRight_65 (d : Nat) (a0 : Nat) (x1 : Int) (x2 : Int) (x3 : Int) (x4 : Int) (h : Hp) : EX d 204 65 [(0, .inr (.inr a0)), (1, .inl x1), (2, .inl x2), (3, .inl x3), (4, .inl x4)] [] h = if sK h a0 = 11 then if okx h (hR h a0 1) 20 1 then if (wr x4) < (wr (hI h (hR h a0 1) 1)) then EX d 204 76 [(0, .inr (.inr a0)), (1, .inl x1), (2, .inl x2), (3, .inl x3), (4, .inl x4)] [] h else EX d 204 172 [(0, .inr (.inr a0)), (1, .inl x1), (2, .inl x2), (3, .inl x3)] [] h else none else none := (EX_at bk_Mod_laysRight_65 _ _ _).trans rfl
theorem bk_Mod_laysRight_76 : blk 204 76 = some (((cd_Mod_laysRight.lookup 76).getD ([], 0, []))) := rfl
theorem Mod_laysRight_76 (d : Nat) (a0 : Nat) (x1 : Int) (x2 : Int) (x3 : Int) (x4 : Int) (h : Hp) : EX d 204 76 [(0, .inr (.inr a0)), (1, .inl x1), (2, .inl x2), (3, .inl x3), (4, .inl x4)] [] h = EX d 204 81 [(0, .inr (.inr a0)), (1, .inl x1), (2, .inl x2), (3, .inl x3), (4, .inl x4), (5, .inl (x2 + 1))] [] h := (EX_at bk_Mod_laysRight_76 _ _ _).trans rfl
theorem bk_Mod_laysRight_81 : blk 204 81 = some (((cd_Mod_laysRight.lookup 81).getD ([], 0, []))) := rfl
theorem Mod_laysRight_81 (d : Nat) (a0 : Nat) (x1 : Int) (x2 : Int) (x3 : Int) (x4 : Int) (x5 : Int) (h : Hp) : EX d 204 81 [(0, .inr (.inr a0)), (1, .inl x1), (2, .inl x2), (3, .inl x3), (4, .inl x4), (5, .inl x5)] [] h = if sK h a0 = 11 then if okx h (hR h a0 1) 20 2 then if (wr x5) < (wr (hI h (hR h a0 1) 2)) then EX d 204 92 [(0, .inr (.inr a0)), (1, .inl x1), (2, .inl x2), (3, .inl x3), (4, .inl x4), (5, .inl x5)] [] h else EX d 204 166 [(0, .inr (.inr a0)), (1, .inl x1), (2, .inl x2), (3, .inl x3), (4, .inl x4)] [] h else none else none := (EX_at bk_Mod_laysRight_81 _ _ _).trans rfl
theorem bk_Mod_laysRight_92 : blk 204 92 = some (((cd_Mod_laysRight.lookup 92).getD ([], 0, []))) := rfl
theorem Mod_laysRight_92 (d : Nat) (a0 : Nat) (x1 : Int) (x2 : Int) (x3 : Int) (x4 : Int) (x5 : Int) (h : Hp) : EX d 204 92 [(0, .inr (.inr a0)), (1, .inl x1), (2, .inl x2), (3, .inl x3), (4, .inl x4), (5, .inl x5)] [] h = if sK h a0 = 11 then bak (EX d 204) 102 [(0, .inr (.inr a0)), (1, .inl x1), (2, .inl x2), (3, .inl x3), (4, .inl x4), (5, .inl x5)] [] false (cal d 185 [.inr (.inr a0), .inl x1, .inl x2, .inl x4, .inl x5] h) else none := (EX_at bk_Mod_laysRight_92 _ _ _).trans rfl
theorem bk_Mod_laysRight_102 : blk 204 102 = some (((cd_Mod_laysRight.lookup 102).getD ([], 0, []))) := rfl
theorem Mod_laysRight_102 (d : Nat) (a0 : Nat) (x1 : Int) (x2 : Int) (x3 : Int) (x4 : Int) (x5 : Int) (s0 : Int) (h : Hp) : EX d 204 102 [(0, .inr (.inr a0)), (1, .inl x1), (2, .inl x2), (3, .inl x3), (4, .inl x4), (5, .inl x5)] [.inl s0] h = if (wr s0) = 0 then EX d 204 160 [(0, .inr (.inr a0)), (1, .inl x1), (2, .inl x2), (3, .inl x3), (4, .inl x4), (5, .inl x5)] [] h else EX d 204 105 [(0, .inr (.inr a0)), (1, .inl x1), (2, .inl x2), (3, .inl x3), (4, .inl x4), (5, .inl x5)] [] h := (EX_at bk_Mod_laysRight_102 _ _ _).trans rfl
theorem bk_Mod_laysRight_105 : blk 204 105 = some (((cd_Mod_laysRight.lookup 105).getD ([], 0, []))) := rfl
theorem Mod_laysRight_105 (d : Nat) (a0 : Nat) (x1 : Int) (x2 : Int) (x3 : Int) (x4 : Int) (x5 : Int) (h : Hp) : EX d 204 105 [(0, .inr (.inr a0)), (1, .inl x1), (2, .inl x2), (3, .inl x3), (4, .inl x4), (5, .inl x5)] [] h = if sK h a0 = 11 then bak (EX d 204) 113 [(0, .inr (.inr a0)), (1, .inl x1), (2, .inl x2), (3, .inl x3), (4, .inl x4), (5, .inl x5)] [] false (cal d 113 [.inr (.inr a0), .inl x4, .inl x5] h) else none := (EX_at bk_Mod_laysRight_105 _ _ _).trans rfl
theorem bk_Mod_laysRight_113 : blk 204 113 = some (((cd_Mod_laysRight.lookup 113).getD ([], 0, []))) := rfl
theorem Mod_laysRight_113 (d : Nat) (a0 : Nat) (x1 : Int) (x2 : Int) (x3 : Int) (x4 : Int) (x5 : Int) (s0 : Int) (h : Hp) : EX d 204 113 [(0, .inr (.inr a0)), (1, .inl x1), (2, .inl x2), (3, .inl x3), (4, .inl x4), (5, .inl x5)] [.inl s0] h = if (wr s0) = 0 then EX d 204 116 [(0, .inr (.inr a0)), (1, .inl x1), (2, .inl x2), (3, .inl x3), (4, .inl x4), (5, .inl x5)] [] h else EX d 204 119 [(0, .inr (.inr a0)), (1, .inl x1), (2, .inl x2), (3, .inl x3), (4, .inl x4), (5, .inl x5)] [] h := (EX_at bk_Mod_laysRight_113 _ _ _).trans rfl
theorem bk_Mod_laysRight_116 : blk 204 116 = some (((cd_Mod_laysRight.lookup 116).getD ([], 0, []))) := rfl
theorem Mod_laysRight_116 (d : Nat) (a0 : Nat) (x1 : Int) (x2 : Int) (x3 : Int) (x4 : Int) (x5 : Int) (h : Hp) : EX d 204 116 [(0, .inr (.inr a0)), (1, .inl x1), (2, .inl x2), (3, .inl x3), (4, .inl x4), (5, .inl x5)] [] h = EX d 204 160 [(0, .inr (.inr a0)), (1, .inl x1), (2, .inl x2), (3, .inl x3), (4, .inl x4), (5, .inl x5)] [] h := (EX_at bk_Mod_laysRight_116 _ _ _).trans rfl
theorem bk_Mod_laysRight_119 : blk 204 119 = some (((cd_Mod_laysRight.lookup 119).getD ([], 0, []))) := rfl
theorem Mod_laysRight_119 (d : Nat) (a0 : Nat) (x1 : Int) (x2 : Int) (x3 : Int) (x4 : Int) (x5 : Int) (h : Hp) : EX d 204 119 [(0, .inr (.inr a0)), (1, .inl x1), (2, .inl x2), (3, .inl x3), (4, .inl x4), (5, .inl x5)] [] h = if sK h a0 = 11 then bak (EX d 204) 127 [(0, .inr (.inr a0)), (1, .inl x1), (2, .inl x2), (3, .inl x3), (4, .inl x4), (5, .inl x5)] [] false (cal d 203 [.inr (.inr a0), .inl x4, .inl x5] h) else none := (EX_at bk_Mod_laysRight_119 _ _ _).trans rfl
theorem bk_Mod_laysRight_127 : blk 204 127 = some (((cd_Mod_laysRight.lookup 127).getD ([], 0, []))) := rfl
theorem Mod_laysRight_127 (d : Nat) (a0 : Nat) (x1 : Int) (x2 : Int) (x3 : Int) (x4 : Int) (x5 : Int) (s0 : Int) (h : Hp) : EX d 204 127 [(0, .inr (.inr a0)), (1, .inl x1), (2, .inl x2), (3, .inl x3), (4, .inl x4), (5, .inl x5)] [.inl s0] h = if sK h a0 = 11 then if okx h (hR h a0 24) 20 (((13 * (x4 + 1)) + x5) + 1) then if (wr x3) < (wr (s0 + (hI h (hR h a0 24) (ix (((13 * (x4 + 1)) + x5) + 1))))) then EX d 204 153 [(0, .inr (.inr a0)), (1, .inl x1), (2, .inl x2), (4, .inl x4), (5, .inl x5), (6, .inl (s0 + (hI h (hR h a0 24) (ix (((13 * (x4 + 1)) + x5) + 1)))))] [] h else EX d 204 158 [(0, .inr (.inr a0)), (1, .inl x1), (2, .inl x2), (3, .inl x3), (4, .inl x4), (5, .inl x5)] [] h else none else none := (EX_at bk_Mod_laysRight_127 _ _ _).trans rfl
theorem bk_Mod_laysRight_153 : blk 204 153 = some (((cd_Mod_laysRight.lookup 153).getD ([], 0, []))) := rfl
theorem Mod_laysRight_153 (d : Nat) (a0 : Nat) (x1 : Int) (x2 : Int) (x4 : Int) (x5 : Int) (x6 : Int) (h : Hp) : EX d 204 153 [(0, .inr (.inr a0)), (1, .inl x1), (2, .inl x2), (4, .inl x4), (5, .inl x5), (6, .inl x6)] [] h = EX d 204 159 [(0, .inr (.inr a0)), (1, .inl x1), (2, .inl x2), (4, .inl x4), (5, .inl x5)] [.inl x6] h := (EX_at bk_Mod_laysRight_153 _ _ _).trans rfl
theorem bk_Mod_laysRight_158 : blk 204 158 = some (((cd_Mod_laysRight.lookup 158).getD ([], 0, []))) := rfl
theorem Mod_laysRight_158 (d : Nat) (a0 : Nat) (x1 : Int) (x2 : Int) (x3 : Int) (x4 : Int) (x5 : Int) (h : Hp) : EX d 204 158 [(0, .inr (.inr a0)), (1, .inl x1), (2, .inl x2), (3, .inl x3), (4, .inl x4), (5, .inl x5)] [] h = EX d 204 159 [(0, .inr (.inr a0)), (1, .inl x1), (2, .inl x2), (4, .inl x4), (5, .inl x5)] [.inl x3] h := (EX_at bk_Mod_laysRight_158 _ _ _).trans rfl
theorem bk_Mod_laysRight_159 : blk 204 159 = some (((cd_Mod_laysRight.lookup 159).getD ([], 0, []))) := rfl
theorem Mod_laysRight_159 (d : Nat) (a0 : Nat) (x1 : Int) (x2 : Int) (x4 : Int) (x5 : Int) (s0 : Int) (h : Hp) : EX d 204 159 [(0, .inr (.inr a0)), (1, .inl x1), (2, .inl x2), (4, .inl x4), (5, .inl x5)] [.inl s0] h = EX d 204 160 [(0, .inr (.inr a0)), (1, .inl x1), (2, .inl x2), (3, .inl s0), (4, .inl x4), (5, .inl x5)] [] h := (EX_at bk_Mod_laysRight_159 _ _ _).trans rfl
theorem bk_Mod_laysRight_160 : blk 204 160 = some (((cd_Mod_laysRight.lookup 160).getD ([], 0, []))) := rfl
theorem Mod_laysRight_160 (d : Nat) (a0 : Nat) (x1 : Int) (x2 : Int) (x3 : Int) (x4 : Int) (x5 : Int) (h : Hp) : EX d 204 160 [(0, .inr (.inr a0)), (1, .inl x1), (2, .inl x2), (3, .inl x3), (4, .inl x4), (5, .inl x5)] [] h = EX d 204 81 [(0, .inr (.inr a0)), (1, .inl x1), (2, .inl x2), (3, .inl x3), (4, .inl x4), (5, .inl (x5 + 1))] [] h := (EX_at bk_Mod_laysRight_160 _ _ _).trans rfl
theorem bk_Mod_laysRight_166 : blk 204 166 = some (((cd_Mod_laysRight.lookup 166).getD ([], 0, []))) := rfl
theorem Mod_laysRight_166 (d : Nat) (a0 : Nat) (x1 : Int) (x2 : Int) (x3 : Int) (x4 : Int) (h : Hp) : EX d 204 166 [(0, .inr (.inr a0)), (1, .inl x1), (2, .inl x2), (3, .inl x3), (4, .inl x4)] [] h = EX d 204 65 [(0, .inr (.inr a0)), (1, .inl x1), (2, .inl x2), (3, .inl x3), (4, .inl (x4 + 1))] [] h := (EX_at bk_Mod_laysRight_166 _ _ _).trans rfl
theorem bk_Mod_laysRight_172 : blk 204 172 = some (((cd_Mod_laysRight.lookup 172).getD ([], 0, []))) := rfl
theorem Mod_laysRight_172 (d : Nat) (a0 : Nat) (x1 : Int) (x2 : Int) (x3 : Int) (h : Hp) : EX d 204 172 [(0, .inr (.inr a0)), (1, .inl x1), (2, .inl x2), (3, .inl x3)] [] h = if sK h a0 = 11 then if okx h (hR h a0 24) 20 (((13 * (x1 + 1)) + x2) + 1) then EX d 204 188 [(0, .inr (.inr a0)), (1, .inl x1), (2, .inl x2)] [] (pI h (hR h a0 24) (ix (((13 * (x1 + 1)) + x2) + 1)) x3) else none else none := (EX_at bk_Mod_laysRight_172 _ _ _).trans rfl
theorem bk_Mod_laysRight_188 : blk 204 188 = some (((cd_Mod_laysRight.lookup 188).getD ([], 0, []))) := rfl
theorem Mod_laysRight_188 (d : Nat) (a0 : Nat) (x1 : Int) (x2 : Int) (h : Hp) : EX d 204 188 [(0, .inr (.inr a0)), (1, .inl x1), (2, .inl x2)] [] h = EX d 204 27 [(0, .inr (.inr a0)), (1, .inl x1), (2, .inl (x2 + (-1)))] [] h := (EX_at bk_Mod_laysRight_188 _ _ _).trans rfl
theorem bk_Mod_laysRight_194 : blk 204 194 = some (((cd_Mod_laysRight.lookup 194).getD ([], 0, []))) := rfl
theorem Mod_laysRight_194 (d : Nat) (a0 : Nat) (x1 : Int) (h : Hp) : EX d 204 194 [(0, .inr (.inr a0)), (1, .inl x1)] [] h = EX d 204 13 [(0, .inr (.inr a0)), (1, .inl (x1 + (-1)))] [] h := (EX_at bk_Mod_laysRight_194 _ _ _).trans rfl
theorem bk_Mod_laysRight_200 : blk 204 200 = some (((cd_Mod_laysRight.lookup 200).getD ([], 0, []))) := rfl
theorem Mod_laysRight_200 (d : Nat) (a0 : Nat) (h : Hp) : EX d 204 200 [(0, .inr (.inr a0))] [] h = if sK h a0 = 11 then if okx h (hR h a0 24) 20 0 then some (.inl (hI h (hR h a0 24) 0), h) else none else none := (EX_at bk_Mod_laysRight_200 _ _ _).trans rfl
/-! foundNone()V of HookOverModel: method 205 -/
theorem bk_Mod_foundNone_0 : blk 205 0 = some (((cd_Mod_foundNone.lookup 0).getD ([], 0, []))) := rfl
theorem Mod_foundNone_0 (d : Nat) (a0 : Nat) (h : Hp) : EX d 205 0 [(0, .inr (.inr a0))] [] h = EX d 205 2 [(0, .inr (.inr a0)), (1, .inl 0)] [] h := (EX_at bk_Mod_foundNone_0 _ _ _).trans rfl
theorem bk_Mod_foundNone_2 : blk 205 2 = some (((cd_Mod_foundNone.lookup 2).getD ([], 0, []))) := rfl
theorem Mod_foundNone_2 (d : Nat) (a0 : Nat) (x1 : Int) (h : Hp) : EX d 205 2 [(0, .inr (.inr a0)), (1, .inl x1)] [] h = if (wr x1) < 12 then EX d 205 8 [(0, .inr (.inr a0)), (1, .inl x1)] [] h else EX d 205 21 [] [] h := (EX_at bk_Mod_foundNone_2 _ _ _).trans rfl
theorem bk_Mod_foundNone_8 : blk 205 8 = some (((cd_Mod_foundNone.lookup 8).getD ([], 0, []))) := rfl
theorem Mod_foundNone_8 (d : Nat) (a0 : Nat) (x1 : Int) (h : Hp) : EX d 205 8 [(0, .inr (.inr a0)), (1, .inl x1)] [] h = if sK h a0 = 11 then if okx h (hR h a0 23) 20 x1 then EX d 205 15 [(0, .inr (.inr a0)), (1, .inl x1)] [] (pI h (hR h a0 23) (ix x1) (-1)) else none else none := (EX_at bk_Mod_foundNone_8 _ _ _).trans rfl
theorem bk_Mod_foundNone_15 : blk 205 15 = some (((cd_Mod_foundNone.lookup 15).getD ([], 0, []))) := rfl
theorem Mod_foundNone_15 (d : Nat) (a0 : Nat) (x1 : Int) (h : Hp) : EX d 205 15 [(0, .inr (.inr a0)), (1, .inl x1)] [] h = EX d 205 2 [(0, .inr (.inr a0)), (1, .inl (x1 + 1))] [] h := (EX_at bk_Mod_foundNone_15 _ _ _).trans rfl
theorem bk_Mod_foundNone_21 : blk 205 21 = some (((cd_Mod_foundNone.lookup 21).getD ([], 0, []))) := rfl
theorem Mod_foundNone_21 (d : Nat) (h : Hp) : EX d 205 21 [] [] h = some (.inl 0, h) := (EX_at bk_Mod_foundNone_21 _ _ _).trans rfl
/-! findsRight()V of HookOverModel: method 206 -/
theorem bk_Mod_findsRight_0 : blk 206 0 = some (((cd_Mod_findsRight.lookup 0).getD ([], 0, []))) := rfl
theorem Mod_findsRight_0 (d : Nat) (a0 : Nat) (h : Hp) : EX d 206 0 [(0, .inr (.inr a0))] [] h = if sK h a0 = 11 then bak (EX d 206) 4 [(0, .inr (.inr a0))] [] true (cal d 205 [.inr (.inr a0)] h) else none := (EX_at bk_Mod_findsRight_0 _ _ _).trans rfl
theorem bk_Mod_findsRight_4 : blk 206 4 = some (((cd_Mod_findsRight.lookup 4).getD ([], 0, []))) := rfl
theorem Mod_findsRight_4 (d : Nat) (a0 : Nat) (h : Hp) : EX d 206 4 [(0, .inr (.inr a0))] [] h = EX d 206 8 [(0, .inr (.inr a0)), (1, .inl (-1)), (2, .inl (-1))] [] h := (EX_at bk_Mod_findsRight_4 _ _ _).trans rfl
theorem bk_Mod_findsRight_8 : blk 206 8 = some (((cd_Mod_findsRight.lookup 8).getD ([], 0, []))) := rfl
theorem Mod_findsRight_8 (d : Nat) (a0 : Nat) (x1 : Int) (x2 : Int) (h : Hp) : EX d 206 8 [(0, .inr (.inr a0)), (1, .inl x1), (2, .inl x2)] [] h = if sK h a0 = 11 then if okx h (hR h a0 24) 20 (((13 * (x1 + 1)) + x2) + 1) then if 0 < (wr (hI h (hR h a0 24) (ix (((13 * (x1 + 1)) + x2) + 1)))) then EX d 206 26 [(0, .inr (.inr a0)), (1, .inl x1), (2, .inl x2)] [] h else EX d 206 181 [] [] h else none else none := (EX_at bk_Mod_findsRight_8 _ _ _).trans rfl
theorem bk_Mod_findsRight_26 : blk 206 26 = some (((cd_Mod_findsRight.lookup 26).getD ([], 0, []))) := rfl
theorem Mod_findsRight_26 (d : Nat) (a0 : Nat) (x1 : Int) (x2 : Int) (h : Hp) : EX d 206 26 [(0, .inr (.inr a0)), (1, .inl x1), (2, .inl x2)] [] h = EX d 206 36 [(0, .inr (.inr a0)), (1, .inl x1), (2, .inl x2), (3, .inl x1), (4, .inl x2), (5, .inl (x1 + 1))] [] h := (EX_at bk_Mod_findsRight_26 _ _ _).trans rfl
theorem bk_Mod_findsRight_36 : blk 206 36 = some (((cd_Mod_findsRight.lookup 36).getD ([], 0, []))) := rfl
theorem Mod_findsRight_36 (d : Nat) (a0 : Nat) (x1 : Int) (x2 : Int) (x3 : Int) (x4 : Int) (x5 : Int) (h : Hp) : EX d 206 36 [(0, .inr (.inr a0)), (1, .inl x1), (2, .inl x2), (3, .inl x3), (4, .inl x4), (5, .inl x5)] [] h = if sK h a0 = 11 then if okx h (hR h a0 1) 20 1 then if (wr x5) < (wr (hI h (hR h a0 1) 1)) then EX d 206 47 [(0, .inr (.inr a0)), (1, .inl x1), (2, .inl x2), (3, .inl x3), (4, .inl x4), (5, .inl x5)] [] h else EX d 206 166 [(0, .inr (.inr a0)), (3, .inl x3), (4, .inl x4)] [] h else none else none := (EX_at bk_Mod_findsRight_36 _ _ _).trans rfl
theorem bk_Mod_findsRight_47 : blk 206 47 = some (((cd_Mod_findsRight.lookup 47).getD ([], 0, []))) := rfl
theorem Mod_findsRight_47 (d : Nat) (a0 : Nat) (x1 : Int) (x2 : Int) (x3 : Int) (x4 : Int) (x5 : Int) (h : Hp) : EX d 206 47 [(0, .inr (.inr a0)), (1, .inl x1), (2, .inl x2), (3, .inl x3), (4, .inl x4), (5, .inl x5)] [] h = if (wr x3) = (wr x1) then EX d 206 52 [(0, .inr (.inr a0)), (1, .inl x1), (2, .inl x2), (3, .inl x3), (4, .inl x4), (5, .inl x5)] [] h else EX d 206 166 [(0, .inr (.inr a0)), (3, .inl x3), (4, .inl x4)] [] h := (EX_at bk_Mod_findsRight_47 _ _ _).trans rfl
theorem bk_Mod_findsRight_52 : blk 206 52 = some (((cd_Mod_findsRight.lookup 52).getD ([], 0, []))) := rfl
theorem Mod_findsRight_52 (d : Nat) (a0 : Nat) (x1 : Int) (x2 : Int) (x3 : Int) (x4 : Int) (x5 : Int) (h : Hp) : EX d 206 52 [(0, .inr (.inr a0)), (1, .inl x1), (2, .inl x2), (3, .inl x3), (4, .inl x4), (5, .inl x5)] [] h = EX d 206 57 [(0, .inr (.inr a0)), (1, .inl x1), (2, .inl x2), (3, .inl x3), (4, .inl x4), (5, .inl x5), (6, .inl (x2 + 1))] [] h := (EX_at bk_Mod_findsRight_52 _ _ _).trans rfl
theorem bk_Mod_findsRight_57 : blk 206 57 = some (((cd_Mod_findsRight.lookup 57).getD ([], 0, []))) := rfl
theorem Mod_findsRight_57 (d : Nat) (a0 : Nat) (x1 : Int) (x2 : Int) (x3 : Int) (x4 : Int) (x5 : Int) (x6 : Int) (h : Hp) : EX d 206 57 [(0, .inr (.inr a0)), (1, .inl x1), (2, .inl x2), (3, .inl x3), (4, .inl x4), (5, .inl x5), (6, .inl x6)] [] h = if sK h a0 = 11 then if okx h (hR h a0 1) 20 2 then if (wr x6) < (wr (hI h (hR h a0 1) 2)) then EX d 206 68 [(0, .inr (.inr a0)), (1, .inl x1), (2, .inl x2), (3, .inl x3), (4, .inl x4), (5, .inl x5), (6, .inl x6)] [] h else EX d 206 160 [(0, .inr (.inr a0)), (1, .inl x1), (2, .inl x2), (3, .inl x3), (4, .inl x4), (5, .inl x5)] [] h else none else none := (EX_at bk_Mod_findsRight_57 _ _ _).trans rfl
theorem bk_Mod_findsRight_68 : blk 206 68 = some (((cd_Mod_findsRight.lookup 68).getD ([], 0, []))) := rfl
theorem Mod_findsRight_68 (d : Nat) (a0 : Nat) (x1 : Int) (x2 : Int) (x3 : Int) (x4 : Int) (x5 : Int) (x6 : Int) (h : Hp) : EX d 206 68 [(0, .inr (.inr a0)), (1, .inl x1), (2, .inl x2), (3, .inl x3), (4, .inl x4), (5, .inl x5), (6, .inl x6)] [] h = if (wr x3) = (wr x1) then EX d 206 73 [(0, .inr (.inr a0)), (1, .inl x1), (2, .inl x2), (3, .inl x3), (4, .inl x4), (5, .inl x5), (6, .inl x6)] [] h else EX d 206 160 [(0, .inr (.inr a0)), (1, .inl x1), (2, .inl x2), (3, .inl x3), (4, .inl x4), (5, .inl x5)] [] h := (EX_at bk_Mod_findsRight_68 _ _ _).trans rfl
theorem bk_Mod_findsRight_73 : blk 206 73 = some (((cd_Mod_findsRight.lookup 73).getD ([], 0, []))) := rfl
theorem Mod_findsRight_73 (d : Nat) (a0 : Nat) (x1 : Int) (x2 : Int) (x3 : Int) (x4 : Int) (x5 : Int) (x6 : Int) (h : Hp) : EX d 206 73 [(0, .inr (.inr a0)), (1, .inl x1), (2, .inl x2), (3, .inl x3), (4, .inl x4), (5, .inl x5), (6, .inl x6)] [] h = if sK h a0 = 11 then bak (EX d 206) 83 [(0, .inr (.inr a0)), (1, .inl x1), (2, .inl x2), (3, .inl x3), (4, .inl x4), (5, .inl x5), (6, .inl x6)] [] false (cal d 185 [.inr (.inr a0), .inl x1, .inl x2, .inl x5, .inl x6] h) else none := (EX_at bk_Mod_findsRight_73 _ _ _).trans rfl
theorem bk_Mod_findsRight_83 : blk 206 83 = some (((cd_Mod_findsRight.lookup 83).getD ([], 0, []))) := rfl
theorem Mod_findsRight_83 (d : Nat) (a0 : Nat) (x1 : Int) (x2 : Int) (x3 : Int) (x4 : Int) (x5 : Int) (x6 : Int) (s0 : Int) (h : Hp) : EX d 206 83 [(0, .inr (.inr a0)), (1, .inl x1), (2, .inl x2), (3, .inl x3), (4, .inl x4), (5, .inl x5), (6, .inl x6)] [.inl s0] h = if (wr s0) = 0 then EX d 206 154 [(0, .inr (.inr a0)), (1, .inl x1), (2, .inl x2), (3, .inl x3), (4, .inl x4), (5, .inl x5), (6, .inl x6)] [] h else EX d 206 86 [(0, .inr (.inr a0)), (1, .inl x1), (2, .inl x2), (3, .inl x3), (4, .inl x4), (5, .inl x5), (6, .inl x6)] [] h := (EX_at bk_Mod_findsRight_83 _ _ _).trans rfl
theorem bk_Mod_findsRight_86 : blk 206 86 = some (((cd_Mod_findsRight.lookup 86).getD ([], 0, []))) := rfl
theorem Mod_findsRight_86 (d : Nat) (a0 : Nat) (x1 : Int) (x2 : Int) (x3 : Int) (x4 : Int) (x5 : Int) (x6 : Int) (h : Hp) : EX d 206 86 [(0, .inr (.inr a0)), (1, .inl x1), (2, .inl x2), (3, .inl x3), (4, .inl x4), (5, .inl x5), (6, .inl x6)] [] h = if sK h a0 = 11 then bak (EX d 206) 94 [(0, .inr (.inr a0)), (1, .inl x1), (2, .inl x2), (3, .inl x3), (4, .inl x4), (5, .inl x5), (6, .inl x6)] [] false (cal d 113 [.inr (.inr a0), .inl x5, .inl x6] h) else none := (EX_at bk_Mod_findsRight_86 _ _ _).trans rfl
theorem bk_Mod_findsRight_94 : blk 206 94 = some (((cd_Mod_findsRight.lookup 94).getD ([], 0, []))) := rfl
theorem Mod_findsRight_94 (d : Nat) (a0 : Nat) (x1 : Int) (x2 : Int) (x3 : Int) (x4 : Int) (x5 : Int) (x6 : Int) (s0 : Int) (h : Hp) : EX d 206 94 [(0, .inr (.inr a0)), (1, .inl x1), (2, .inl x2), (3, .inl x3), (4, .inl x4), (5, .inl x5), (6, .inl x6)] [.inl s0] h = if (wr s0) = 0 then EX d 206 97 [(0, .inr (.inr a0)), (1, .inl x1), (2, .inl x2), (3, .inl x3), (4, .inl x4), (5, .inl x5), (6, .inl x6)] [] h else EX d 206 100 [(0, .inr (.inr a0)), (1, .inl x1), (2, .inl x2), (3, .inl x3), (4, .inl x4), (5, .inl x5), (6, .inl x6)] [] h := (EX_at bk_Mod_findsRight_94 _ _ _).trans rfl
theorem bk_Mod_findsRight_97 : blk 206 97 = some (((cd_Mod_findsRight.lookup 97).getD ([], 0, []))) := rfl
theorem Mod_findsRight_97 (d : Nat) (a0 : Nat) (x1 : Int) (x2 : Int) (x3 : Int) (x4 : Int) (x5 : Int) (x6 : Int) (h : Hp) : EX d 206 97 [(0, .inr (.inr a0)), (1, .inl x1), (2, .inl x2), (3, .inl x3), (4, .inl x4), (5, .inl x5), (6, .inl x6)] [] h = EX d 206 154 [(0, .inr (.inr a0)), (1, .inl x1), (2, .inl x2), (3, .inl x3), (4, .inl x4), (5, .inl x5), (6, .inl x6)] [] h := (EX_at bk_Mod_findsRight_97 _ _ _).trans rfl
theorem bk_Mod_findsRight_100 : blk 206 100 = some (((cd_Mod_findsRight.lookup 100).getD ([], 0, []))) := rfl
theorem Mod_findsRight_100 (d : Nat) (a0 : Nat) (x1 : Int) (x2 : Int) (x3 : Int) (x4 : Int) (x5 : Int) (x6 : Int) (h : Hp) : EX d 206 100 [(0, .inr (.inr a0)), (1, .inl x1), (2, .inl x2), (3, .inl x3), (4, .inl x4), (5, .inl x5), (6, .inl x6)] [] h = if sK h a0 = 11 then bak (EX d 206) 108 [(0, .inr (.inr a0)), (1, .inl x1), (2, .inl x2), (3, .inl x3), (4, .inl x4), (5, .inl x5), (6, .inl x6)] [] false (cal d 203 [.inr (.inr a0), .inl x5, .inl x6] h) else none := (EX_at bk_Mod_findsRight_100 _ _ _).trans rfl
theorem bk_Mod_findsRight_108 : blk 206 108 = some (((cd_Mod_findsRight.lookup 108).getD ([], 0, []))) := rfl
theorem Mod_findsRight_108 (d : Nat) (a0 : Nat) (x1 : Int) (x2 : Int) (x3 : Int) (x4 : Int) (x5 : Int) (x6 : Int) (s0 : Int) (h : Hp) : EX d 206 108 [(0, .inr (.inr a0)), (1, .inl x1), (2, .inl x2), (3, .inl x3), (4, .inl x4), (5, .inl x5), (6, .inl x6)] [.inl s0] h = if sK h a0 = 11 then if okx h (hR h a0 24) 20 (((13 * (x5 + 1)) + x6) + 1) then if sK h a0 = 11 then if okx h (hR h a0 24) 20 (((13 * (x1 + 1)) + x2) + 1) then if (wr (s0 + (hI h (hR h a0 24) (ix (((13 * (x5 + 1)) + x6) + 1))))) = (wr (hI h (hR h a0 24) (ix (((13 * (x1 + 1)) + x2) + 1)))) then EX d 206 147 [(0, .inr (.inr a0)), (1, .inl x1), (2, .inl x2), (5, .inl x5), (6, .inl x6)] [] h else EX d 206 144 [(0, .inr (.inr a0)), (1, .inl x1), (2, .inl x2), (3, .inl x3), (4, .inl x4), (5, .inl x5), (6, .inl x6)] [] h else none else none else none else none := (EX_at bk_Mod_findsRight_108 _ _ _).trans rfl
theorem bk_Mod_findsRight_144 : blk 206 144 = some (((cd_Mod_findsRight.lookup 144).getD ([], 0, []))) := rfl
theorem Mod_findsRight_144 (d : Nat) (a0 : Nat) (x1 : Int) (x2 : Int) (x3 : Int) (x4 : Int) (x5 : Int) (x6 : Int) (h : Hp) : EX d 206 144 [(0, .inr (.inr a0)), (1, .inl x1), (2, .inl x2), (3, .inl x3), (4, .inl x4), (5, .inl x5), (6, .inl x6)] [] h = EX d 206 154 [(0, .inr (.inr a0)), (1, .inl x1), (2, .inl x2), (3, .inl x3), (4, .inl x4), (5, .inl x5), (6, .inl x6)] [] h := (EX_at bk_Mod_findsRight_144 _ _ _).trans rfl
theorem bk_Mod_findsRight_147 : blk 206 147 = some (((cd_Mod_findsRight.lookup 147).getD ([], 0, []))) := rfl
theorem Mod_findsRight_147 (d : Nat) (a0 : Nat) (x1 : Int) (x2 : Int) (x5 : Int) (x6 : Int) (h : Hp) : EX d 206 147 [(0, .inr (.inr a0)), (1, .inl x1), (2, .inl x2), (5, .inl x5), (6, .inl x6)] [] h = EX d 206 154 [(0, .inr (.inr a0)), (1, .inl x1), (2, .inl x2), (3, .inl x5), (4, .inl x6), (5, .inl x5), (6, .inl x6)] [] h := (EX_at bk_Mod_findsRight_147 _ _ _).trans rfl
theorem bk_Mod_findsRight_154 : blk 206 154 = some (((cd_Mod_findsRight.lookup 154).getD ([], 0, []))) := rfl
theorem Mod_findsRight_154 (d : Nat) (a0 : Nat) (x1 : Int) (x2 : Int) (x3 : Int) (x4 : Int) (x5 : Int) (x6 : Int) (h : Hp) : EX d 206 154 [(0, .inr (.inr a0)), (1, .inl x1), (2, .inl x2), (3, .inl x3), (4, .inl x4), (5, .inl x5), (6, .inl x6)] [] h = EX d 206 57 [(0, .inr (.inr a0)), (1, .inl x1), (2, .inl x2), (3, .inl x3), (4, .inl x4), (5, .inl x5), (6, .inl (x6 + 1))] [] h := (EX_at bk_Mod_findsRight_154 _ _ _).trans rfl
theorem bk_Mod_findsRight_160 : blk 206 160 = some (((cd_Mod_findsRight.lookup 160).getD ([], 0, []))) := rfl
theorem Mod_findsRight_160 (d : Nat) (a0 : Nat) (x1 : Int) (x2 : Int) (x3 : Int) (x4 : Int) (x5 : Int) (h : Hp) : EX d 206 160 [(0, .inr (.inr a0)), (1, .inl x1), (2, .inl x2), (3, .inl x3), (4, .inl x4), (5, .inl x5)] [] h = EX d 206 36 [(0, .inr (.inr a0)), (1, .inl x1), (2, .inl x2), (3, .inl x3), (4, .inl x4), (5, .inl (x5 + 1))] [] h := (EX_at bk_Mod_findsRight_160 _ _ _).trans rfl
theorem bk_Mod_findsRight_166 : blk 206 166 = some (((cd_Mod_findsRight.lookup 166).getD ([], 0, []))) := rfl
theorem Mod_findsRight_166 (d : Nat) (a0 : Nat) (x3 : Int) (x4 : Int) (h : Hp) : EX d 206 166 [(0, .inr (.inr a0)), (3, .inl x3), (4, .inl x4)] [] h = if sK h a0 = 11 then if okx h (hR h a0 23) 20 x3 then EX d 206 178 [(0, .inr (.inr a0)), (1, .inl x3), (2, .inl x4)] [] (pI h (hR h a0 23) (ix x3) x4) else none else none := (EX_at bk_Mod_findsRight_166 _ _ _).trans rfl
theorem bk_Mod_findsRight_178 : blk 206 178 = some (((cd_Mod_findsRight.lookup 178).getD ([], 0, []))) := rfl
theorem Mod_findsRight_178 (d : Nat) (a0 : Nat) (x1 : Int) (x2 : Int) (h : Hp) : EX d 206 178 [(0, .inr (.inr a0)), (1, .inl x1), (2, .inl x2)] [] h = EX d 206 8 [(0, .inr (.inr a0)), (1, .inl x1), (2, .inl x2)] [] h := (EX_at bk_Mod_findsRight_178 _ _ _).trans rfl
theorem bk_Mod_findsRight_181 : blk 206 181 = some (((cd_Mod_findsRight.lookup 181).getD ([], 0, []))) := rfl
theorem Mod_findsRight_181 (d : Nat) (h : Hp) : EX d 206 181 [] [] h = some (.inl 0, h) := (EX_at bk_Mod_findsRight_181 _ _ _).trans rfl
/-! mended(I)I of HookOverModel: method 207 -/
theorem bk_Mod_mended_0 : blk 207 0 = some (((cd_Mod_mended.lookup 0).getD ([], 0, []))) := rfl
theorem Mod_mended_0 (d : Nat) (a0 : Nat) (x1 : Int) (h : Hp) : EX d 207 0 [(0, .inr (.inr a0)), (1, .inl x1)] [] h = if sK h a0 = 11 then EX d 207 5 [(0, .inr (.inr a0)), (1, .inl x1)] [] (pI h a0 0 0) else none := (EX_at bk_Mod_mended_0 _ _ _).trans rfl
theorem bk_Mod_mended_5 : blk 207 5 = some (((cd_Mod_mended.lookup 5).getD ([], 0, []))) := rfl
theorem Mod_mended_5 (d : Nat) (a0 : Nat) (x1 : Int) (h : Hp) : EX d 207 5 [(0, .inr (.inr a0)), (1, .inl x1)] [] h = if sK h a0 = 11 then bak (EX d 207) 11 [(0, .inr (.inr a0)), (1, .inl x1)] [] false (cal d 202 [.inr (.inr a0), .inl x1, .inl 1] h) else none := (EX_at bk_Mod_mended_5 _ _ _).trans rfl
theorem bk_Mod_mended_11 : blk 207 11 = some (((cd_Mod_mended.lookup 11).getD ([], 0, []))) := rfl
theorem Mod_mended_11 (d : Nat) (a0 : Nat) (x1 : Int) (s0 : Int) (h : Hp) : EX d 207 11 [(0, .inr (.inr a0)), (1, .inl x1)] [.inl s0] h = if (wr s0) = 0 then EX d 207 14 [] [] h else EX d 207 17 [(0, .inr (.inr a0)), (1, .inl x1)] [] h := (EX_at bk_Mod_mended_11 _ _ _).trans rfl
theorem bk_Mod_mended_14 : blk 207 14 = some (((cd_Mod_mended.lookup 14).getD ([], 0, []))) := rfl
theorem Mod_mended_14 (d : Nat) (h : Hp) : EX d 207 14 [] [] h = some (.inl (-2), h) := (EX_at bk_Mod_mended_14 _ _ _).trans rfl
theorem bk_Mod_mended_17 : blk 207 17 = some (((cd_Mod_mended.lookup 17).getD ([], 0, []))) := rfl
theorem Mod_mended_17 (d : Nat) (a0 : Nat) (x1 : Int) (h : Hp) : EX d 207 17 [(0, .inr (.inr a0)), (1, .inl x1)] [] h = if sK h a0 = 11 then bak (EX d 207) 21 [(0, .inr (.inr a0)), (1, .inl x1)] [] false (cal d 204 [.inr (.inr a0)] h) else none := (EX_at bk_Mod_mended_17 _ _ _).trans rfl
theorem bk_Mod_mended_21 : blk 207 21 = some (((cd_Mod_mended.lookup 21).getD ([], 0, []))) := rfl
theorem Mod_mended_21 (d : Nat) (a0 : Nat) (x1 : Int) (s0 : Int) (h : Hp) : EX d 207 21 [(0, .inr (.inr a0)), (1, .inl x1)] [.inl s0] h = if (wr x1) = 0 then EX d 207 26 [(2, .inl s0)] [] h else EX d 207 31 [(0, .inr (.inr a0)), (1, .inl x1), (2, .inl s0)] [] h := (EX_at bk_Mod_mended_21 _ _ _).trans rfl
theorem bk_Mod_mended_26 : blk 207 26 = some (((cd_Mod_mended.lookup 26).getD ([], 0, []))) := rfl
theorem Mod_mended_26 (d : Nat) (x2 : Int) (h : Hp) : EX d 207 26 [(2, .inl x2)] [] h = some (.inl (bDiv x2 100), h) := (EX_at bk_Mod_mended_26 _ _ _).trans rfl
theorem bk_Mod_mended_31 : blk 207 31 = some (((cd_Mod_mended.lookup 31).getD ([], 0, []))) := rfl
theorem Mod_mended_31 (d : Nat) (a0 : Nat) (x1 : Int) (x2 : Int) (h : Hp) : EX d 207 31 [(0, .inr (.inr a0)), (1, .inl x1), (2, .inl x2)] [] h = if (wr x1) = 1 then EX d 207 36 [(0, .inr (.inr a0)), (2, .inl x2)] [] h else EX d 207 46 [(0, .inr (.inr a0)), (1, .inl x1)] [] h := (EX_at bk_Mod_mended_31 _ _ _).trans rfl
theorem bk_Mod_mended_36 : blk 207 36 = some (((cd_Mod_mended.lookup 36).getD ([], 0, []))) := rfl
theorem Mod_mended_36 (d : Nat) (a0 : Nat) (x2 : Int) (h : Hp) : EX d 207 36 [(0, .inr (.inr a0)), (2, .inl x2)] [] h = if sK h a0 = 11 then bak (EX d 207) 40 [(2, .inl x2)] [] false (cal d 126 [.inr (.inr a0)] h) else none := (EX_at bk_Mod_mended_36 _ _ _).trans rfl
theorem bk_Mod_mended_40 : blk 207 40 = some (((cd_Mod_mended.lookup 40).getD ([], 0, []))) := rfl
theorem Mod_mended_40 (d : Nat) (x2 : Int) (s0 : Int) (h : Hp) : EX d 207 40 [(2, .inl x2)] [.inl s0] h = some (.inl (s0 - (bRem x2 100)), h) := (EX_at bk_Mod_mended_40 _ _ _).trans rfl
theorem bk_Mod_mended_46 : blk 207 46 = some (((cd_Mod_mended.lookup 46).getD ([], 0, []))) := rfl
theorem Mod_mended_46 (d : Nat) (a0 : Nat) (x1 : Int) (h : Hp) : EX d 207 46 [(0, .inr (.inr a0)), (1, .inl x1)] [] h = if sK h a0 = 11 then bak (EX d 207) 50 [(0, .inr (.inr a0)), (1, .inl x1)] [] true (cal d 206 [.inr (.inr a0)] h) else none := (EX_at bk_Mod_mended_46 _ _ _).trans rfl
theorem bk_Mod_mended_50 : blk 207 50 = some (((cd_Mod_mended.lookup 50).getD ([], 0, []))) := rfl
theorem Mod_mended_50 (d : Nat) (a0 : Nat) (x1 : Int) (h : Hp) : EX d 207 50 [(0, .inr (.inr a0)), (1, .inl x1)] [] h = if sK h a0 = 11 then if okx h (hR h a0 23) 20 (x1 - 10) then some (.inl (hI h (hR h a0 23) (ix (x1 - 10))), h) else none else none := (EX_at bk_Mod_mended_50 _ _ _).trans rfl
/-! worse(II)I of HookOverModel: method 213 -/
theorem bk_Mod_worse_0 : blk 213 0 = some (((cd_Mod_worse.lookup 0).getD ([], 0, []))) := rfl
theorem Mod_worse_0 (d : Nat) (x0 : Int) (x1 : Int) (h : Hp) : EX d 213 0 [(0, .inl x0), (1, .inl x1)] [] h = if (wr x1) < (wr x0) then EX d 213 5 [(0, .inl x0)] [] h else EX d 213 9 [(1, .inl x1)] [] h := (EX_at bk_Mod_worse_0 _ _ _).trans rfl
theorem bk_Mod_worse_5 : blk 213 5 = some (((cd_Mod_worse.lookup 5).getD ([], 0, []))) := rfl
theorem Mod_worse_5 (d : Nat) (x0 : Int) (h : Hp) : EX d 213 5 [(0, .inl x0)] [] h = EX d 213 10 [] [.inl x0] h := (EX_at bk_Mod_worse_5 _ _ _).trans rfl
theorem bk_Mod_worse_9 : blk 213 9 = some (((cd_Mod_worse.lookup 9).getD ([], 0, []))) := rfl
theorem Mod_worse_9 (d : Nat) (x1 : Int) (h : Hp) : EX d 213 9 [(1, .inl x1)] [] h = EX d 213 10 [] [.inl x1] h := (EX_at bk_Mod_worse_9 _ _ _).trans rfl
theorem bk_Mod_worse_10 : blk 213 10 = some (((cd_Mod_worse.lookup 10).getD ([], 0, []))) := rfl
theorem Mod_worse_10 (d : Nat) (s0 : Int) (h : Hp) : EX d 213 10 [] [.inl s0] h = some (.inl s0, h) := (EX_at bk_Mod_worse_10 _ _ _).trans rfl
/-! leastBy([IIIIIIIZ)I of HookOverModel: method 214 -/
theorem bk_Mod_leastBy_0 : blk 214 0 = some (((cd_Mod_leastBy.lookup 0).getD ([], 0, []))) := rfl
theorem Mod_leastBy_0 (d : Nat) (a0 : Nat) (a1 : Nat) (x2 : Int) (x3 : Int) (x4 : Int) (x5 : Int) (x6 : Int) (x7 : Int) (x8 : Int) (h : Hp) : EX d 214 0 [(0, .inr (.inr a0)), (1, .inr (.inr a1)), (2, .inl x2), (3, .inl x3), (4, .inl x4), (5, .inl x5), (6, .inl x6), (7, .inl x7), (8, .inl x8)] [] h = if sK h a0 = 11 then bak (EX d 214) 10 [(0, .inr (.inr a0)), (1, .inr (.inr a1)), (2, .inl x2), (3, .inl x3), (4, .inl x4), (5, .inl x5), (6, .inl x6), (7, .inl x7), (8, .inl x8)] [] false (cal d 185 [.inr (.inr a0), .inl x2, .inl x3, .inl x4, .inl x5] h) else none := (EX_at bk_Mod_leastBy_0 _ _ _).trans rfl
theorem bk_Mod_leastBy_10 : blk 214 10 = some (((cd_Mod_leastBy.lookup 10).getD ([], 0, []))) := rfl
theorem Mod_leastBy_10 (d : Nat) (a0 : Nat) (a1 : Nat) (x2 : Int) (x3 : Int) (x4 : Int) (x5 : Int) (x6 : Int) (x7 : Int) (x8 : Int) (s0 : Int) (h : Hp) : EX d 214 10 [(0, .inr (.inr a0)), (1, .inr (.inr a1)), (2, .inl x2), (3, .inl x3), (4, .inl x4), (5, .inl x5), (6, .inl x6), (7, .inl x7), (8, .inl x8)] [.inl s0] h = if (wr s0) = 0 then EX d 214 13 [] [] h else EX d 214 15 [(0, .inr (.inr a0)), (1, .inr (.inr a1)), (2, .inl x2), (3, .inl x3), (4, .inl x4), (5, .inl x5), (6, .inl x6), (7, .inl x7), (8, .inl x8)] [] h := (EX_at bk_Mod_leastBy_10 _ _ _).trans rfl
theorem bk_Mod_leastBy_13 : blk 214 13 = some (((cd_Mod_leastBy.lookup 13).getD ([], 0, []))) := rfl
theorem Mod_leastBy_13 (d : Nat) (h : Hp) : EX d 214 13 [] [] h = some (.inl (-1), h) := (EX_at bk_Mod_leastBy_13 _ _ _).trans rfl
theorem bk_Mod_leastBy_15 : blk 214 15 = some (((cd_Mod_leastBy.lookup 15).getD ([], 0, []))) := rfl
theorem Mod_leastBy_15 (d : Nat) (a0 : Nat) (a1 : Nat) (x2 : Int) (x3 : Int) (x4 : Int) (x5 : Int) (x6 : Int) (x7 : Int) (x8 : Int) (h : Hp) : EX d 214 15 [(0, .inr (.inr a0)), (1, .inr (.inr a1)), (2, .inl x2), (3, .inl x3), (4, .inl x4), (5, .inl x5), (6, .inl x6), (7, .inl x7), (8, .inl x8)] [] h = bak (EX d 214) 27 [(0, .inr (.inr a0)), (2, .inl x2), (3, .inl x3), (4, .inl x4), (5, .inl x5), (7, .inl x7), (8, .inl x8)] [.inr (.inr a1)] false (cal d 183 [.inl x4, .inl x5, .inl (x6 - 1)] h) := (EX_at bk_Mod_leastBy_15 _ _ _).trans rfl
theorem bk_Mod_leastBy_27 : blk 214 27 = some (((cd_Mod_leastBy.lookup 27).getD ([], 0, []))) := rfl
theorem Mod_leastBy_27 (d : Nat) (a0 : Nat) (x2 : Int) (x3 : Int) (x4 : Int) (x5 : Int) (x7 : Int) (x8 : Int) (r0 : Nat) (s1 : Int) (h : Hp) : EX d 214 27 [(0, .inr (.inr a0)), (2, .inl x2), (3, .inl x3), (4, .inl x4), (5, .inl x5), (7, .inl x7), (8, .inl x8)] [.inl s1, .inr (.inr r0)] h = if okx h r0 20 s1 then if (wr x2) = (-1) then EX d 214 35 [(7, .inl x7), (8, .inl x8), (9, .inl (hI h r0 (ix s1)))] [] h else EX d 214 39 [(0, .inr (.inr a0)), (2, .inl x2), (3, .inl x3), (4, .inl x4), (5, .inl x5), (7, .inl x7), (8, .inl x8), (9, .inl (hI h r0 (ix s1)))] [] h else none := (EX_at bk_Mod_leastBy_27 _ _ _).trans rfl
theorem bk_Mod_leastBy_35 : blk 214 35 = some (((cd_Mod_leastBy.lookup 35).getD ([], 0, []))) := rfl
theorem Mod_leastBy_35 (d : Nat) (x7 : Int) (x8 : Int) (x9 : Int) (h : Hp) : EX d 214 35 [(7, .inl x7), (8, .inl x8), (9, .inl x9)] [] h = EX d 214 52 [(7, .inl x7), (8, .inl x8), (9, .inl x9)] [.inl 0] h := (EX_at bk_Mod_leastBy_35 _ _ _).trans rfl
theorem bk_Mod_leastBy_39 : blk 214 39 = some (((cd_Mod_leastBy.lookup 39).getD ([], 0, []))) := rfl
theorem Mod_leastBy_39 (d : Nat) (a0 : Nat) (x2 : Int) (x3 : Int) (x4 : Int) (x5 : Int) (x7 : Int) (x8 : Int) (x9 : Int) (h : Hp) : EX d 214 39 [(0, .inr (.inr a0)), (2, .inl x2), (3, .inl x3), (4, .inl x4), (5, .inl x5), (7, .inl x7), (8, .inl x8), (9, .inl x9)] [] h = if sK h a0 = 11 then bak (EX d 214) 52 [(7, .inl x7), (8, .inl x8), (9, .inl x9)] [] false (cal d 97 [.inr (.inr (hR h a0 1)), .inl x2, .inl x3, .inl x4, .inl x5] h) else none := (EX_at bk_Mod_leastBy_39 _ _ _).trans rfl
theorem bk_Mod_leastBy_52 : blk 214 52 = some (((cd_Mod_leastBy.lookup 52).getD ([], 0, []))) := rfl
theorem Mod_leastBy_52 (d : Nat) (x7 : Int) (x8 : Int) (x9 : Int) (s0 : Int) (h : Hp) : EX d 214 52 [(7, .inl x7), (8, .inl x8), (9, .inl x9)] [.inl s0] h = if (wr x9) = (-1) then EX d 214 73 [] [] h else EX d 214 60 [(7, .inl x7), (8, .inl x8), (9, .inl x9), (10, .inl s0)] [] h := (EX_at bk_Mod_leastBy_52 _ _ _).trans rfl
theorem bk_Mod_leastBy_60 : blk 214 60 = some (((cd_Mod_leastBy.lookup 60).getD ([], 0, []))) := rfl
theorem Mod_leastBy_60 (d : Nat) (x7 : Int) (x8 : Int) (x9 : Int) (x10 : Int) (h : Hp) : EX d 214 60 [(7, .inl x7), (8, .inl x8), (9, .inl x9), (10, .inl x10)] [] h = if (wr x7) = (-1) then EX d 214 75 [(8, .inl x8), (9, .inl x9), (10, .inl x10)] [] h else EX d 214 66 [(7, .inl x7), (8, .inl x8), (9, .inl x9), (10, .inl x10)] [] h := (EX_at bk_Mod_leastBy_60 _ _ _).trans rfl
theorem bk_Mod_leastBy_66 : blk 214 66 = some (((cd_Mod_leastBy.lookup 66).getD ([], 0, []))) := rfl
theorem Mod_leastBy_66 (d : Nat) (x7 : Int) (x8 : Int) (x9 : Int) (x10 : Int) (h : Hp) : EX d 214 66 [(7, .inl x7), (8, .inl x8), (9, .inl x9), (10, .inl x10)] [] h = if (wr x7) < (wr x10) then EX d 214 73 [] [] h else EX d 214 75 [(8, .inl x8), (9, .inl x9), (10, .inl x10)] [] h := (EX_at bk_Mod_leastBy_66 _ _ _).trans rfl
theorem bk_Mod_leastBy_73 : blk 214 73 = some (((cd_Mod_leastBy.lookup 73).getD ([], 0, []))) := rfl
theorem Mod_leastBy_73 (d : Nat) (h : Hp) : EX d 214 73 [] [] h = some (.inl (-1), h) := (EX_at bk_Mod_leastBy_73 _ _ _).trans rfl
theorem bk_Mod_leastBy_75 : blk 214 75 = some (((cd_Mod_leastBy.lookup 75).getD ([], 0, []))) := rfl
theorem Mod_leastBy_75 (d : Nat) (x8 : Int) (x9 : Int) (x10 : Int) (h : Hp) : EX d 214 75 [(8, .inl x8), (9, .inl x9), (10, .inl x10)] [] h = if (wr x8) = 0 then EX d 214 91 [(9, .inl x9), (10, .inl x10)] [] h else EX d 214 80 [(9, .inl x9), (10, .inl x10)] [] h := (EX_at bk_Mod_leastBy_75 _ _ _).trans rfl
theorem bk_Mod_leastBy_80 : blk 214 80 = some (((cd_Mod_leastBy.lookup 80).getD ([], 0, []))) := rfl
theorem Mod_leastBy_80 (d : Nat) (x9 : Int) (x10 : Int) (h : Hp) : EX d 214 80 [(9, .inl x9), (10, .inl x10)] [] h = EX d 214 98 [] [.inl (x9 + (x10 * x10))] h := (EX_at bk_Mod_leastBy_80 _ _ _).trans rfl
theorem bk_Mod_leastBy_91 : blk 214 91 = some (((cd_Mod_leastBy.lookup 91).getD ([], 0, []))) := rfl
theorem Mod_leastBy_91 (d : Nat) (x9 : Int) (x10 : Int) (h : Hp) : EX d 214 91 [(9, .inl x9), (10, .inl x10)] [] h = bak (EX d 214) 98 [] [] false (cal d 213 [.inl x9, .inl x10] h) := (EX_at bk_Mod_leastBy_91 _ _ _).trans rfl
theorem bk_Mod_leastBy_98 : blk 214 98 = some (((cd_Mod_leastBy.lookup 98).getD ([], 0, []))) := rfl
theorem Mod_leastBy_98 (d : Nat) (s0 : Int) (h : Hp) : EX d 214 98 [] [.inl s0] h = some (.inl s0, h) := (EX_at bk_Mod_leastBy_98 _ _ _).trans rfl
/-! laysLeast([IIZ)V of HookOverModel: method 215 -/
theorem bk_Mod_laysLeast_0 : blk 215 0 = some (((cd_Mod_laysLeast.lookup 0).getD ([], 0, []))) := rfl
theorem Mod_laysLeast_0 (d : Nat) (a0 : Nat) (a1 : Nat) (x2 : Int) (x3 : Int) (h : Hp) : EX d 215 0 [(0, .inr (.inr a0)), (1, .inr (.inr a1)), (2, .inl x2), (3, .inl x3)] [] h = if sK h a0 = 11 then if okx h (hR h a0 1) 20 1 then EX d 215 10 [(0, .inr (.inr a0)), (1, .inr (.inr a1)), (2, .inl x2), (3, .inl x3), (4, .inl ((hI h (hR h a0 1) 1) - 1))] [] h else none else none := (EX_at bk_Mod_laysLeast_0 _ _ _).trans rfl
theorem bk_Mod_laysLeast_10 : blk 215 10 = some (((cd_Mod_laysLeast.lookup 10).getD ([], 0, []))) := rfl
theorem Mod_laysLeast_10 (d : Nat) (a0 : Nat) (a1 : Nat) (x2 : Int) (x3 : Int) (x4 : Int) (h : Hp) : EX d 215 10 [(0, .inr (.inr a0)), (1, .inr (.inr a1)), (2, .inl x2), (3, .inl x3), (4, .inl x4)] [] h = if (wr x4) < (-1) then EX d 215 206 [] [] h else EX d 215 16 [(0, .inr (.inr a0)), (1, .inr (.inr a1)), (2, .inl x2), (3, .inl x3), (4, .inl x4)] [] h := (EX_at bk_Mod_laysLeast_10 _ _ _).trans rfl
theorem bk_Mod_laysLeast_16 : blk 215 16 = some (((cd_Mod_laysLeast.lookup 16).getD ([], 0, []))) := rfl
theorem Mod_laysLeast_16 (d : Nat) (a0 : Nat) (a1 : Nat) (x2 : Int) (x3 : Int) (x4 : Int) (h : Hp) : EX d 215 16 [(0, .inr (.inr a0)), (1, .inr (.inr a1)), (2, .inl x2), (3, .inl x3), (4, .inl x4)] [] h = if sK h a0 = 11 then if okx h (hR h a0 1) 20 2 then EX d 215 26 [(0, .inr (.inr a0)), (1, .inr (.inr a1)), (2, .inl x2), (3, .inl x3), (4, .inl x4), (5, .inl ((hI h (hR h a0 1) 2) - 1))] [] h else none else none := (EX_at bk_Mod_laysLeast_16 _ _ _).trans rfl
theorem bk_Mod_laysLeast_26 : blk 215 26 = some (((cd_Mod_laysLeast.lookup 26).getD ([], 0, []))) := rfl
theorem Mod_laysLeast_26 (d : Nat) (a0 : Nat) (a1 : Nat) (x2 : Int) (x3 : Int) (x4 : Int) (x5 : Int) (h : Hp) : EX d 215 26 [(0, .inr (.inr a0)), (1, .inr (.inr a1)), (2, .inl x2), (3, .inl x3), (4, .inl x4), (5, .inl x5)] [] h = if (wr x5) < (-1) then EX d 215 200 [(0, .inr (.inr a0)), (1, .inr (.inr a1)), (2, .inl x2), (3, .inl x3), (4, .inl x4)] [] h else EX d 215 32 [(0, .inr (.inr a0)), (1, .inr (.inr a1)), (2, .inl x2), (3, .inl x3), (4, .inl x4), (5, .inl x5)] [] h := (EX_at bk_Mod_laysLeast_26 _ _ _).trans rfl
theorem bk_Mod_laysLeast_32 : blk 215 32 = some (((cd_Mod_laysLeast.lookup 32).getD ([], 0, []))) := rfl
theorem Mod_laysLeast_32 (d : Nat) (a0 : Nat) (a1 : Nat) (x2 : Int) (x3 : Int) (x4 : Int) (x5 : Int) (h : Hp) : EX d 215 32 [(0, .inr (.inr a0)), (1, .inr (.inr a1)), (2, .inl x2), (3, .inl x3), (4, .inl x4), (5, .inl x5)] [] h = if (wr x4) = (-1) then EX d 215 38 [(0, .inr (.inr a0)), (1, .inr (.inr a1)), (2, .inl x2), (3, .inl x3), (4, .inl x4), (5, .inl x5)] [] h else EX d 215 42 [(0, .inr (.inr a0)), (1, .inr (.inr a1)), (2, .inl x2), (3, .inl x3), (4, .inl x4), (5, .inl x5)] [] h := (EX_at bk_Mod_laysLeast_32 _ _ _).trans rfl
theorem bk_Mod_laysLeast_38 : blk 215 38 = some (((cd_Mod_laysLeast.lookup 38).getD ([], 0, []))) := rfl
theorem Mod_laysLeast_38 (d : Nat) (a0 : Nat) (a1 : Nat) (x2 : Int) (x3 : Int) (x4 : Int) (x5 : Int) (h : Hp) : EX d 215 38 [(0, .inr (.inr a0)), (1, .inr (.inr a1)), (2, .inl x2), (3, .inl x3), (4, .inl x4), (5, .inl x5)] [] h = EX d 215 43 [(0, .inr (.inr a0)), (1, .inr (.inr a1)), (2, .inl x2), (3, .inl x3), (4, .inl x4), (5, .inl x5)] [.inl 1] h := (EX_at bk_Mod_laysLeast_38 _ _ _).trans rfl
theorem bk_Mod_laysLeast_42 : blk 215 42 = some (((cd_Mod_laysLeast.lookup 42).getD ([], 0, []))) := rfl
theorem Mod_laysLeast_42 (d : Nat) (a0 : Nat) (a1 : Nat) (x2 : Int) (x3 : Int) (x4 : Int) (x5 : Int) (h : Hp) : EX d 215 42 [(0, .inr (.inr a0)), (1, .inr (.inr a1)), (2, .inl x2), (3, .inl x3), (4, .inl x4), (5, .inl x5)] [] h = EX d 215 43 [(0, .inr (.inr a0)), (1, .inr (.inr a1)), (2, .inl x2), (3, .inl x3), (4, .inl x4), (5, .inl x5)] [.inl 0] h := (EX_at bk_Mod_laysLeast_42 _ _ _).trans rfl
theorem bk_Mod_laysLeast_43 : blk 215 43 = some (((cd_Mod_laysLeast.lookup 43).getD ([], 0, []))) := rfl
theorem Mod_laysLeast_43 (d : Nat) (a0 : Nat) (a1 : Nat) (x2 : Int) (x3 : Int) (x4 : Int) (x5 : Int) (s0 : Int) (h : Hp) : EX d 215 43 [(0, .inr (.inr a0)), (1, .inr (.inr a1)), (2, .inl x2), (3, .inl x3), (4, .inl x4), (5, .inl x5)] [.inl s0] h = if (wr x5) = (-1) then EX d 215 49 [(0, .inr (.inr a0)), (1, .inr (.inr a1)), (2, .inl x2), (3, .inl x3), (4, .inl x4), (5, .inl x5)] [.inl s0] h else EX d 215 53 [(0, .inr (.inr a0)), (1, .inr (.inr a1)), (2, .inl x2), (3, .inl x3), (4, .inl x4), (5, .inl x5)] [.inl s0] h := (EX_at bk_Mod_laysLeast_43 _ _ _).trans rfl
theorem bk_Mod_laysLeast_49 : blk 215 49 = some (((cd_Mod_laysLeast.lookup 49).getD ([], 0, []))) := rfl
theorem Mod_laysLeast_49 (d : Nat) (a0 : Nat) (a1 : Nat) (x2 : Int) (x3 : Int) (x4 : Int) (x5 : Int) (s0 : Int) (h : Hp) : EX d 215 49 [(0, .inr (.inr a0)), (1, .inr (.inr a1)), (2, .inl x2), (3, .inl x3), (4, .inl x4), (5, .inl x5)] [.inl s0] h = EX d 215 54 [(0, .inr (.inr a0)), (1, .inr (.inr a1)), (2, .inl x2), (3, .inl x3), (4, .inl x4), (5, .inl x5)] [.inl 1, .inl s0] h := (EX_at bk_Mod_laysLeast_49 _ _ _).trans rfl
theorem bk_Mod_laysLeast_53 : blk 215 53 = some (((cd_Mod_laysLeast.lookup 53).getD ([], 0, []))) := rfl
theorem Mod_laysLeast_53 (d : Nat) (a0 : Nat) (a1 : Nat) (x2 : Int) (x3 : Int) (x4 : Int) (x5 : Int) (s0 : Int) (h : Hp) : EX d 215 53 [(0, .inr (.inr a0)), (1, .inr (.inr a1)), (2, .inl x2), (3, .inl x3), (4, .inl x4), (5, .inl x5)] [.inl s0] h = EX d 215 54 [(0, .inr (.inr a0)), (1, .inr (.inr a1)), (2, .inl x2), (3, .inl x3), (4, .inl x4), (5, .inl x5)] [.inl 0, .inl s0] h := (EX_at bk_Mod_laysLeast_53 _ _ _).trans rfl
theorem bk_Mod_laysLeast_54 : blk 215 54 = some (((cd_Mod_laysLeast.lookup 54).getD ([], 0, []))) := rfl
theorem Mod_laysLeast_54 (d : Nat) (a0 : Nat) (a1 : Nat) (x2 : Int) (x3 : Int) (x4 : Int) (x5 : Int) (s0 : Int) (s1 : Int) (h : Hp) : EX d 215 54 [(0, .inr (.inr a0)), (1, .inr (.inr a1)), (2, .inl x2), (3, .inl x3), (4, .inl x4), (5, .inl x5)] [.inl s1, .inl s0] h = if (wr s0) = (wr s1) then EX d 215 60 [(0, .inr (.inr a0)), (1, .inr (.inr a1)), (2, .inl x2), (3, .inl x3), (4, .inl x4), (5, .inl x5)] [] h else EX d 215 57 [(0, .inr (.inr a0)), (1, .inr (.inr a1)), (2, .inl x2), (3, .inl x3), (4, .inl x4), (5, .inl x5)] [] h := (EX_at bk_Mod_laysLeast_54 _ _ _).trans rfl
theorem bk_Mod_laysLeast_57 : blk 215 57 = some (((cd_Mod_laysLeast.lookup 57).getD ([], 0, []))) := rfl
theorem Mod_laysLeast_57 (d : Nat) (a0 : Nat) (a1 : Nat) (x2 : Int) (x3 : Int) (x4 : Int) (x5 : Int) (h : Hp) : EX d 215 57 [(0, .inr (.inr a0)), (1, .inr (.inr a1)), (2, .inl x2), (3, .inl x3), (4, .inl x4), (5, .inl x5)] [] h = EX d 215 194 [(0, .inr (.inr a0)), (1, .inr (.inr a1)), (2, .inl x2), (3, .inl x3), (4, .inl x4), (5, .inl x5)] [] h := (EX_at bk_Mod_laysLeast_57 _ _ _).trans rfl
theorem bk_Mod_laysLeast_60 : blk 215 60 = some (((cd_Mod_laysLeast.lookup 60).getD ([], 0, []))) := rfl
theorem Mod_laysLeast_60 (d : Nat) (a0 : Nat) (a1 : Nat) (x2 : Int) (x3 : Int) (x4 : Int) (x5 : Int) (h : Hp) : EX d 215 60 [(0, .inr (.inr a0)), (1, .inr (.inr a1)), (2, .inl x2), (3, .inl x3), (4, .inl x4), (5, .inl x5)] [] h = EX d 215 63 [(0, .inr (.inr a0)), (1, .inr (.inr a1)), (2, .inl x2), (3, .inl x3), (4, .inl x4), (5, .inl x5), (6, .inl 0)] [] h := (EX_at bk_Mod_laysLeast_60 _ _ _).trans rfl
theorem bk_Mod_laysLeast_63 : blk 215 63 = some (((cd_Mod_laysLeast.lookup 63).getD ([], 0, []))) := rfl
theorem Mod_laysLeast_63 (d : Nat) (a0 : Nat) (a1 : Nat) (x2 : Int) (x3 : Int) (x4 : Int) (x5 : Int) (x6 : Int) (h : Hp) : EX d 215 63 [(0, .inr (.inr a0)), (1, .inr (.inr a1)), (2, .inl x2), (3, .inl x3), (4, .inl x4), (5, .inl x5), (6, .inl x6)] [] h = if 12 < (wr x6) then EX d 215 194 [(0, .inr (.inr a0)), (1, .inr (.inr a1)), (2, .inl x2), (3, .inl x3), (4, .inl x4), (5, .inl x5)] [] h else EX d 215 70 [(0, .inr (.inr a0)), (1, .inr (.inr a1)), (2, .inl x2), (3, .inl x3), (4, .inl x4), (5, .inl x5), (6, .inl x6)] [] h := (EX_at bk_Mod_laysLeast_63 _ _ _).trans rfl
theorem bk_Mod_laysLeast_70 : blk 215 70 = some (((cd_Mod_laysLeast.lookup 70).getD ([], 0, []))) := rfl
theorem Mod_laysLeast_70 (d : Nat) (a0 : Nat) (a1 : Nat) (x2 : Int) (x3 : Int) (x4 : Int) (x5 : Int) (x6 : Int) (h : Hp) : EX d 215 70 [(0, .inr (.inr a0)), (1, .inr (.inr a1)), (2, .inl x2), (3, .inl x3), (4, .inl x4), (5, .inl x5), (6, .inl x6)] [] h = if (wr x6) = 0 then EX d 215 75 [(0, .inr (.inr a0)), (1, .inr (.inr a1)), (2, .inl x2), (3, .inl x3), (4, .inl x4), (5, .inl x5), (6, .inl x6)] [] h else EX d 215 79 [(0, .inr (.inr a0)), (1, .inr (.inr a1)), (2, .inl x2), (3, .inl x3), (4, .inl x4), (5, .inl x5), (6, .inl x6)] [] h := (EX_at bk_Mod_laysLeast_70 _ _ _).trans rfl
theorem bk_Mod_laysLeast_75 : blk 215 75 = some (((cd_Mod_laysLeast.lookup 75).getD ([], 0, []))) := rfl
theorem Mod_laysLeast_75 (d : Nat) (a0 : Nat) (a1 : Nat) (x2 : Int) (x3 : Int) (x4 : Int) (x5 : Int) (x6 : Int) (h : Hp) : EX d 215 75 [(0, .inr (.inr a0)), (1, .inr (.inr a1)), (2, .inl x2), (3, .inl x3), (4, .inl x4), (5, .inl x5), (6, .inl x6)] [] h = EX d 215 80 [(0, .inr (.inr a0)), (1, .inr (.inr a1)), (2, .inl x2), (3, .inl x3), (4, .inl x4), (5, .inl x5), (6, .inl x6)] [.inl 0] h := (EX_at bk_Mod_laysLeast_75 _ _ _).trans rfl
theorem bk_Mod_laysLeast_79 : blk 215 79 = some (((cd_Mod_laysLeast.lookup 79).getD ([], 0, []))) := rfl
theorem Mod_laysLeast_79 (d : Nat) (a0 : Nat) (a1 : Nat) (x2 : Int) (x3 : Int) (x4 : Int) (x5 : Int) (x6 : Int) (h : Hp) : EX d 215 79 [(0, .inr (.inr a0)), (1, .inr (.inr a1)), (2, .inl x2), (3, .inl x3), (4, .inl x4), (5, .inl x5), (6, .inl x6)] [] h = EX d 215 80 [(0, .inr (.inr a0)), (1, .inr (.inr a1)), (2, .inl x2), (3, .inl x3), (4, .inl x4), (5, .inl x5), (6, .inl x6)] [.inl (-1)] h := (EX_at bk_Mod_laysLeast_79 _ _ _).trans rfl
theorem bk_Mod_laysLeast_80 : blk 215 80 = some (((cd_Mod_laysLeast.lookup 80).getD ([], 0, []))) := rfl
theorem Mod_laysLeast_80 (d : Nat) (a0 : Nat) (a1 : Nat) (x2 : Int) (x3 : Int) (x4 : Int) (x5 : Int) (x6 : Int) (s0 : Int) (h : Hp) : EX d 215 80 [(0, .inr (.inr a0)), (1, .inr (.inr a1)), (2, .inl x2), (3, .inl x3), (4, .inl x4), (5, .inl x5), (6, .inl x6)] [.inl s0] h = EX d 215 88 [(0, .inr (.inr a0)), (1, .inr (.inr a1)), (2, .inl x2), (3, .inl x3), (4, .inl x4), (5, .inl x5), (6, .inl x6), (7, .inl s0), (8, .inl (x4 + 1))] [] h := (EX_at bk_Mod_laysLeast_80 _ _ _).trans rfl
theorem bk_Mod_laysLeast_88 : blk 215 88 = some (((cd_Mod_laysLeast.lookup 88).getD ([], 0, []))) := rfl
theorem Mod_laysLeast_88 (d : Nat) (a0 : Nat) (a1 : Nat) (x2 : Int) (x3 : Int) (x4 : Int) (x5 : Int) (x6 : Int) (x7 : Int) (x8 : Int) (h : Hp) : EX d 215 88 [(0, .inr (.inr a0)), (1, .inr (.inr a1)), (2, .inl x2), (3, .inl x3), (4, .inl x4), (5, .inl x5), (6, .inl x6), (7, .inl x7), (8, .inl x8)] [] h = if sK h a0 = 11 then if okx h (hR h a0 1) 20 1 then if (wr x8) < (wr (hI h (hR h a0 1) 1)) then EX d 215 99 [(0, .inr (.inr a0)), (1, .inr (.inr a1)), (2, .inl x2), (3, .inl x3), (4, .inl x4), (5, .inl x5), (6, .inl x6), (7, .inl x7), (8, .inl x8)] [] h else EX d 215 175 [(0, .inr (.inr a0)), (1, .inr (.inr a1)), (2, .inl x2), (3, .inl x3), (4, .inl x4), (5, .inl x5), (6, .inl x6), (7, .inl x7)] [] h else none else none := (EX_at bk_Mod_laysLeast_88 _ _ _).trans rfl
theorem bk_Mod_laysLeast_99 : blk 215 99 = some (((cd_Mod_laysLeast.lookup 99).getD ([], 0, []))) := rfl
theorem Mod_laysLeast_99 (d : Nat) (a0 : Nat) (a1 : Nat) (x2 : Int) (x3 : Int) (x4 : Int) (x5 : Int) (x6 : Int) (x7 : Int) (x8 : Int) (h : Hp) : EX d 215 99 [(0, .inr (.inr a0)), (1, .inr (.inr a1)), (2, .inl x2), (3, .inl x3), (4, .inl x4), (5, .inl x5), (6, .inl x6), (7, .inl x7), (8, .inl x8)] [] h = if 0 < (wr x6) then EX d 215 104 [(0, .inr (.inr a0)), (1, .inr (.inr a1)), (2, .inl x2), (3, .inl x3), (4, .inl x4), (5, .inl x5), (6, .inl x6), (7, .inl x7), (8, .inl x8)] [] h else EX d 215 175 [(0, .inr (.inr a0)), (1, .inr (.inr a1)), (2, .inl x2), (3, .inl x3), (4, .inl x4), (5, .inl x5), (6, .inl x6), (7, .inl x7)] [] h := (EX_at bk_Mod_laysLeast_99 _ _ _).trans rfl
theorem bk_Mod_laysLeast_104 : blk 215 104 = some (((cd_Mod_laysLeast.lookup 104).getD ([], 0, []))) := rfl
theorem Mod_laysLeast_104 (d : Nat) (a0 : Nat) (a1 : Nat) (x2 : Int) (x3 : Int) (x4 : Int) (x5 : Int) (x6 : Int) (x7 : Int) (x8 : Int) (h : Hp) : EX d 215 104 [(0, .inr (.inr a0)), (1, .inr (.inr a1)), (2, .inl x2), (3, .inl x3), (4, .inl x4), (5, .inl x5), (6, .inl x6), (7, .inl x7), (8, .inl x8)] [] h = EX d 215 110 [(0, .inr (.inr a0)), (1, .inr (.inr a1)), (2, .inl x2), (3, .inl x3), (4, .inl x4), (5, .inl x5), (6, .inl x6), (7, .inl x7), (8, .inl x8), (9, .inl (x5 + 1))] [] h := (EX_at bk_Mod_laysLeast_104 _ _ _).trans rfl
theorem bk_Mod_laysLeast_110 : blk 215 110 = some (((cd_Mod_laysLeast.lookup 110).getD ([], 0, []))) := rfl
theorem Mod_laysLeast_110 (d : Nat) (a0 : Nat) (a1 : Nat) (x2 : Int) (x3 : Int) (x4 : Int) (x5 : Int) (x6 : Int) (x7 : Int) (x8 : Int) (x9 : Int) (h : Hp) : EX d 215 110 [(0, .inr (.inr a0)), (1, .inr (.inr a1)), (2, .inl x2), (3, .inl x3), (4, .inl x4), (5, .inl x5), (6, .inl x6), (7, .inl x7), (8, .inl x8), (9, .inl x9)] [] h = if sK h a0 = 11 then if okx h (hR h a0 1) 20 2 then if (wr x9) < (wr (hI h (hR h a0 1) 2)) then EX d 215 121 [(0, .inr (.inr a0)), (1, .inr (.inr a1)), (2, .inl x2), (3, .inl x3), (4, .inl x4), (5, .inl x5), (6, .inl x6), (7, .inl x7), (8, .inl x8), (9, .inl x9)] [] h else EX d 215 169 [(0, .inr (.inr a0)), (1, .inr (.inr a1)), (2, .inl x2), (3, .inl x3), (4, .inl x4), (5, .inl x5), (6, .inl x6), (7, .inl x7), (8, .inl x8)] [] h else none else none := (EX_at bk_Mod_laysLeast_110 _ _ _).trans rfl
theorem bk_Mod_laysLeast_121 : blk 215 121 = some (((cd_Mod_laysLeast.lookup 121).getD ([], 0, []))) := rfl
theorem Mod_laysLeast_121 (d : Nat) (a0 : Nat) (a1 : Nat) (x2 : Int) (x3 : Int) (x4 : Int) (x5 : Int) (x6 : Int) (x7 : Int) (x8 : Int) (x9 : Int) (h : Hp) : EX d 215 121 [(0, .inr (.inr a0)), (1, .inr (.inr a1)), (2, .inl x2), (3, .inl x3), (4, .inl x4), (5, .inl x5), (6, .inl x6), (7, .inl x7), (8, .inl x8), (9, .inl x9)] [] h = if sK h a0 = 11 then bak (EX d 215) 138 [(0, .inr (.inr a0)), (1, .inr (.inr a1)), (2, .inl x2), (3, .inl x3), (4, .inl x4), (5, .inl x5), (6, .inl x6), (7, .inl x7), (8, .inl x8), (9, .inl x9)] [] false (cal d 214 [.inr (.inr a0), .inr (.inr a1), .inl x4, .inl x5, .inl x8, .inl x9, .inl x6, .inl x2, .inl x3] h) else none := (EX_at bk_Mod_laysLeast_121 _ _ _).trans rfl
theorem bk_Mod_laysLeast_138 : blk 215 138 = some (((cd_Mod_laysLeast.lookup 138).getD ([], 0, []))) := rfl
theorem Mod_laysLeast_138 (d : Nat) (a0 : Nat) (a1 : Nat) (x2 : Int) (x3 : Int) (x4 : Int) (x5 : Int) (x6 : Int) (x7 : Int) (x8 : Int) (x9 : Int) (s0 : Int) (h : Hp) : EX d 215 138 [(0, .inr (.inr a0)), (1, .inr (.inr a1)), (2, .inl x2), (3, .inl x3), (4, .inl x4), (5, .inl x5), (6, .inl x6), (7, .inl x7), (8, .inl x8), (9, .inl x9)] [.inl s0] h = if (wr s0) = (-1) then EX d 215 163 [(0, .inr (.inr a0)), (1, .inr (.inr a1)), (2, .inl x2), (3, .inl x3), (4, .inl x4), (5, .inl x5), (6, .inl x6), (7, .inl x7), (8, .inl x8), (9, .inl x9)] [] h else EX d 215 146 [(0, .inr (.inr a0)), (1, .inr (.inr a1)), (2, .inl x2), (3, .inl x3), (4, .inl x4), (5, .inl x5), (6, .inl x6), (7, .inl x7), (8, .inl x8), (9, .inl x9), (10, .inl s0)] [] h := (EX_at bk_Mod_laysLeast_138 _ _ _).trans rfl
theorem bk_Mod_laysLeast_146 : blk 215 146 = some (((cd_Mod_laysLeast.lookup 146).getD ([], 0, []))) := rfl
theorem Mod_laysLeast_146 (d : Nat) (a0 : Nat) (a1 : Nat) (x2 : Int) (x3 : Int) (x4 : Int) (x5 : Int) (x6 : Int) (x7 : Int) (x8 : Int) (x9 : Int) (x10 : Int) (h : Hp) : EX d 215 146 [(0, .inr (.inr a0)), (1, .inr (.inr a1)), (2, .inl x2), (3, .inl x3), (4, .inl x4), (5, .inl x5), (6, .inl x6), (7, .inl x7), (8, .inl x8), (9, .inl x9), (10, .inl x10)] [] h = if (wr x7) = (-1) then EX d 215 159 [(0, .inr (.inr a0)), (1, .inr (.inr a1)), (2, .inl x2), (3, .inl x3), (4, .inl x4), (5, .inl x5), (6, .inl x6), (8, .inl x8), (9, .inl x9), (10, .inl x10)] [] h else EX d 215 152 [(0, .inr (.inr a0)), (1, .inr (.inr a1)), (2, .inl x2), (3, .inl x3), (4, .inl x4), (5, .inl x5), (6, .inl x6), (7, .inl x7), (8, .inl x8), (9, .inl x9), (10, .inl x10)] [] h := (EX_at bk_Mod_laysLeast_146 _ _ _).trans rfl
theorem bk_Mod_laysLeast_152 : blk 215 152 = some (((cd_Mod_laysLeast.lookup 152).getD ([], 0, []))) := rfl
theorem Mod_laysLeast_152 (d : Nat) (a0 : Nat) (a1 : Nat) (x2 : Int) (x3 : Int) (x4 : Int) (x5 : Int) (x6 : Int) (x7 : Int) (x8 : Int) (x9 : Int) (x10 : Int) (h : Hp) : EX d 215 152 [(0, .inr (.inr a0)), (1, .inr (.inr a1)), (2, .inl x2), (3, .inl x3), (4, .inl x4), (5, .inl x5), (6, .inl x6), (7, .inl x7), (8, .inl x8), (9, .inl x9), (10, .inl x10)] [] h = if (wr x10) < (wr x7) then EX d 215 159 [(0, .inr (.inr a0)), (1, .inr (.inr a1)), (2, .inl x2), (3, .inl x3), (4, .inl x4), (5, .inl x5), (6, .inl x6), (8, .inl x8), (9, .inl x9), (10, .inl x10)] [] h else EX d 215 163 [(0, .inr (.inr a0)), (1, .inr (.inr a1)), (2, .inl x2), (3, .inl x3), (4, .inl x4), (5, .inl x5), (6, .inl x6), (7, .inl x7), (8, .inl x8), (9, .inl x9)] [] h := (EX_at bk_Mod_laysLeast_152 _ _ _).trans rfl
theorem bk_Mod_laysLeast_159 : blk 215 159 = some (((cd_Mod_laysLeast.lookup 159).getD ([], 0, []))) := rfl
theorem Mod_laysLeast_159 (d : Nat) (a0 : Nat) (a1 : Nat) (x2 : Int) (x3 : Int) (x4 : Int) (x5 : Int) (x6 : Int) (x8 : Int) (x9 : Int) (x10 : Int) (h : Hp) : EX d 215 159 [(0, .inr (.inr a0)), (1, .inr (.inr a1)), (2, .inl x2), (3, .inl x3), (4, .inl x4), (5, .inl x5), (6, .inl x6), (8, .inl x8), (9, .inl x9), (10, .inl x10)] [] h = EX d 215 163 [(0, .inr (.inr a0)), (1, .inr (.inr a1)), (2, .inl x2), (3, .inl x3), (4, .inl x4), (5, .inl x5), (6, .inl x6), (7, .inl x10), (8, .inl x8), (9, .inl x9)] [] h := (EX_at bk_Mod_laysLeast_159 _ _ _).trans rfl
theorem bk_Mod_laysLeast_163 : blk 215 163 = some (((cd_Mod_laysLeast.lookup 163).getD ([], 0, []))) := rfl
theorem Mod_laysLeast_163 (d : Nat) (a0 : Nat) (a1 : Nat) (x2 : Int) (x3 : Int) (x4 : Int) (x5 : Int) (x6 : Int) (x7 : Int) (x8 : Int) (x9 : Int) (h : Hp) : EX d 215 163 [(0, .inr (.inr a0)), (1, .inr (.inr a1)), (2, .inl x2), (3, .inl x3), (4, .inl x4), (5, .inl x5), (6, .inl x6), (7, .inl x7), (8, .inl x8), (9, .inl x9)] [] h = EX d 215 110 [(0, .inr (.inr a0)), (1, .inr (.inr a1)), (2, .inl x2), (3, .inl x3), (4, .inl x4), (5, .inl x5), (6, .inl x6), (7, .inl x7), (8, .inl x8), (9, .inl (x9 + 1))] [] h := (EX_at bk_Mod_laysLeast_163 _ _ _).trans rfl
theorem bk_Mod_laysLeast_169 : blk 215 169 = some (((cd_Mod_laysLeast.lookup 169).getD ([], 0, []))) := rfl
theorem Mod_laysLeast_169 (d : Nat) (a0 : Nat) (a1 : Nat) (x2 : Int) (x3 : Int) (x4 : Int) (x5 : Int) (x6 : Int) (x7 : Int) (x8 : Int) (h : Hp) : EX d 215 169 [(0, .inr (.inr a0)), (1, .inr (.inr a1)), (2, .inl x2), (3, .inl x3), (4, .inl x4), (5, .inl x5), (6, .inl x6), (7, .inl x7), (8, .inl x8)] [] h = EX d 215 88 [(0, .inr (.inr a0)), (1, .inr (.inr a1)), (2, .inl x2), (3, .inl x3), (4, .inl x4), (5, .inl x5), (6, .inl x6), (7, .inl x7), (8, .inl (x8 + 1))] [] h := (EX_at bk_Mod_laysLeast_169 _ _ _).trans rfl
theorem bk_Mod_laysLeast_175 : blk 215 175 = some (((cd_Mod_laysLeast.lookup 175).getD ([], 0, []))) := rfl
theorem Mod_laysLeast_175 (d : Nat) (a0 : Nat) (a1 : Nat) (x2 : Int) (x3 : Int) (x4 : Int) (x5 : Int) (x6 : Int) (x7 : Int) (h : Hp) : EX d 215 175 [(0, .inr (.inr a0)), (1, .inr (.inr a1)), (2, .inl x2), (3, .inl x3), (4, .inl x4), (5, .inl x5), (6, .inl x6), (7, .inl x7)] [] h = bak (EX d 215) 185 [(0, .inr (.inr a0)), (1, .inr (.inr a1)), (2, .inl x2), (3, .inl x3), (4, .inl x4), (5, .inl x5), (6, .inl x6), (7, .inl x7)] [.inr (.inr a1)] false (cal d 183 [.inl x4, .inl x5, .inl x6] h) := (EX_at bk_Mod_laysLeast_175 _ _ _).trans rfl
theorem bk_Mod_laysLeast_185 : blk 215 185 = some (((cd_Mod_laysLeast.lookup 185).getD ([], 0, []))) := rfl
theorem Mod_laysLeast_185 (d : Nat) (a0 : Nat) (a1 : Nat) (x2 : Int) (x3 : Int) (x4 : Int) (x5 : Int) (x6 : Int) (x7 : Int) (r0 : Nat) (s1 : Int) (h : Hp) : EX d 215 185 [(0, .inr (.inr a0)), (1, .inr (.inr a1)), (2, .inl x2), (3, .inl x3), (4, .inl x4), (5, .inl x5), (6, .inl x6), (7, .inl x7)] [.inl s1, .inr (.inr r0)] h = if okx h r0 20 s1 then EX d 215 188 [(0, .inr (.inr a0)), (1, .inr (.inr a1)), (2, .inl x2), (3, .inl x3), (4, .inl x4), (5, .inl x5), (6, .inl x6)] [] (pI h r0 (ix s1) x7) else none := (EX_at bk_Mod_laysLeast_185 _ _ _).trans rfl
theorem bk_Mod_laysLeast_188 : blk 215 188 = some (((cd_Mod_laysLeast.lookup 188).getD ([], 0, []))) := rfl
theorem Mod_laysLeast_188 (d : Nat) (a0 : Nat) (a1 : Nat) (x2 : Int) (x3 : Int) (x4 : Int) (x5 : Int) (x6 : Int) (h : Hp) : EX d 215 188 [(0, .inr (.inr a0)), (1, .inr (.inr a1)), (2, .inl x2), (3, .inl x3), (4, .inl x4), (5, .inl x5), (6, .inl x6)] [] h = EX d 215 63 [(0, .inr (.inr a0)), (1, .inr (.inr a1)), (2, .inl x2), (3, .inl x3), (4, .inl x4), (5, .inl x5), (6, .inl (x6 + 1))] [] h := (EX_at bk_Mod_laysLeast_188 _ _ _).trans rfl
theorem bk_Mod_laysLeast_194 : blk 215 194 = some (((cd_Mod_laysLeast.lookup 194).getD ([], 0, []))) := rfl
theorem Mod_laysLeast_194 (d : Nat) (a0 : Nat) (a1 : Nat) (x2 : Int) (x3 : Int) (x4 : Int) (x5 : Int) (h : Hp) : EX d 215 194 [(0, .inr (.inr a0)), (1, .inr (.inr a1)), (2, .inl x2), (3, .inl x3), (4, .inl x4), (5, .inl x5)] [] h = EX d 215 26 [(0, .inr (.inr a0)), (1, .inr (.inr a1)), (2, .inl x2), (3, .inl x3), (4, .inl x4), (5, .inl (x5 + (-1)))] [] h := (EX_at bk_Mod_laysLeast_194 _ _ _).trans rfl
theorem bk_Mod_laysLeast_200 : blk 215 200 = some (((cd_Mod_laysLeast.lookup 200).getD ([], 0, []))) := rfl
theorem Mod_laysLeast_200 (d : Nat) (a0 : Nat) (a1 : Nat) (x2 : Int) (x3 : Int) (x4 : Int) (h : Hp) : EX d 215 200 [(0, .inr (.inr a0)), (1, .inr (.inr a1)), (2, .inl x2), (3, .inl x3), (4, .inl x4)] [] h = EX d 215 10 [(0, .inr (.inr a0)), (1, .inr (.inr a1)), (2, .inl x2), (3, .inl x3), (4, .inl (x4 + (-1)))] [] h := (EX_at bk_Mod_laysLeast_200 _ _ _).trans rfl
theorem bk_Mod_laysLeast_206 : blk 215 206 = some (((cd_Mod_laysLeast.lookup 206).getD ([], 0, []))) := rfl
theorem Mod_laysLeast_206 (d : Nat) (h : Hp) : EX d 215 206 [] [] h = some (.inl 0, h) := (EX_at bk_Mod_laysLeast_206 _ _ _).trans rfl
/-! laysEvenest()V of HookOverModel: method 216 -/
theorem bk_Mod_laysEvenest_0 : blk 216 0 = some (((cd_Mod_laysEvenest.lookup 0).getD ([], 0, []))) := rfl
theorem Mod_laysEvenest_0 (d : Nat) (a0 : Nat) (h : Hp) : EX d 216 0 [(0, .inr (.inr a0))] [] h = if sK h a0 = 11 then bak (EX d 216) 5 [(0, .inr (.inr a0))] [.inr (.inr a0)] false (cal d 191 [.inr (.inr a0)] h) else none := (EX_at bk_Mod_laysEvenest_0 _ _ _).trans rfl
theorem bk_Mod_laysEvenest_5 : blk 216 5 = some (((cd_Mod_laysEvenest.lookup 5).getD ([], 0, []))) := rfl
theorem Mod_laysEvenest_5 (d : Nat) (a0 : Nat) (r0 : Nat) (s1 : Int) (h : Hp) : EX d 216 5 [(0, .inr (.inr a0))] [.inl s1, .inr (.inr r0)] h = if sK h r0 = 11 then EX d 216 8 [(0, .inr (.inr a0))] [] (pI h r0 27 s1) else none := (EX_at bk_Mod_laysEvenest_5 _ _ _).trans rfl
theorem bk_Mod_laysEvenest_8 : blk 216 8 = some (((cd_Mod_laysEvenest.lookup 8).getD ([], 0, []))) := rfl
theorem Mod_laysEvenest_8 (d : Nat) (a0 : Nat) (h : Hp) : EX d 216 8 [(0, .inr (.inr a0))] [] h = if sK h a0 = 11 then if sK h a0 = 11 then bak (EX d 216) 18 [(0, .inr (.inr a0))] [] true (cal d 215 [.inr (.inr a0), .inr (.inr (hR h a0 25)), .inl (-1), .inl 0] h) else none else none := (EX_at bk_Mod_laysEvenest_8 _ _ _).trans rfl
theorem bk_Mod_laysEvenest_18 : blk 216 18 = some (((cd_Mod_laysEvenest.lookup 18).getD ([], 0, []))) := rfl
theorem Mod_laysEvenest_18 (d : Nat) (a0 : Nat) (h : Hp) : EX d 216 18 [(0, .inr (.inr a0))] [] h = if sK h a0 = 11 then if sK h a0 = 11 then bak (EX d 216) 32 [(0, .inr (.inr a0))] [.inr (.inr (hR h a0 25)), .inr (.inr a0)] false (cal d 183 [.inl (-1), .inl (-1), .inl (hI h a0 27)] h) else none else none := (EX_at bk_Mod_laysEvenest_18 _ _ _).trans rfl
theorem bk_Mod_laysEvenest_32 : blk 216 32 = some (((cd_Mod_laysEvenest.lookup 32).getD ([], 0, []))) := rfl
theorem Mod_laysEvenest_32 (d : Nat) (a0 : Nat) (r0 : Nat) (r1 : Nat) (s2 : Int) (h : Hp) : EX d 216 32 [(0, .inr (.inr a0))] [.inl s2, .inr (.inr r1), .inr (.inr r0)] h = if okx h r1 20 s2 then if sK h r0 = 11 then EX d 216 36 [(0, .inr (.inr a0))] [] (pI h r0 28 (hI h r1 (ix s2))) else none else none := (EX_at bk_Mod_laysEvenest_32 _ _ _).trans rfl
theorem bk_Mod_laysEvenest_36 : blk 216 36 = some (((cd_Mod_laysEvenest.lookup 36).getD ([], 0, []))) := rfl
theorem Mod_laysEvenest_36 (d : Nat) (a0 : Nat) (h : Hp) : EX d 216 36 [(0, .inr (.inr a0))] [] h = if sK h a0 = 11 then if sK h a0 = 11 then if sK h a0 = 11 then bak (EX d 216) 49 [] [] true (cal d 215 [.inr (.inr a0), .inr (.inr (hR h a0 26)), .inl (hI h a0 28), .inl 1] h) else none else none else none := (EX_at bk_Mod_laysEvenest_36 _ _ _).trans rfl
theorem bk_Mod_laysEvenest_49 : blk 216 49 = some (((cd_Mod_laysEvenest.lookup 49).getD ([], 0, []))) := rfl
theorem Mod_laysEvenest_49 (d : Nat) (h : Hp) : EX d 216 49 [] [] h = some (.inl 0, h) := (EX_at bk_Mod_laysEvenest_49 _ _ _).trans rfl
/-! findsEvenest()V of HookOverModel: method 217 -/
theorem bk_Mod_findsEvenest_0 : blk 217 0 = some (((cd_Mod_findsEvenest.lookup 0).getD ([], 0, []))) := rfl
theorem Mod_findsEvenest_0 (d : Nat) (a0 : Nat) (h : Hp) : EX d 217 0 [(0, .inr (.inr a0))] [] h = if sK h a0 = 11 then bak (EX d 217) 4 [(0, .inr (.inr a0))] [] true (cal d 205 [.inr (.inr a0)] h) else none := (EX_at bk_Mod_findsEvenest_0 _ _ _).trans rfl
theorem bk_Mod_findsEvenest_4 : blk 217 4 = some (((cd_Mod_findsEvenest.lookup 4).getD ([], 0, []))) := rfl
theorem Mod_findsEvenest_4 (d : Nat) (a0 : Nat) (h : Hp) : EX d 217 4 [(0, .inr (.inr a0))] [] h = if sK h a0 = 11 then EX d 217 13 [(0, .inr (.inr a0)), (1, .inl (-1)), (2, .inl (-1)), (3, .inl (hI h a0 27))] [] h else none := (EX_at bk_Mod_findsEvenest_4 _ _ _).trans rfl
theorem bk_Mod_findsEvenest_13 : blk 217 13 = some (((cd_Mod_findsEvenest.lookup 13).getD ([], 0, []))) := rfl
theorem Mod_findsEvenest_13 (d : Nat) (a0 : Nat) (x1 : Int) (x2 : Int) (x3 : Int) (h : Hp) : EX d 217 13 [(0, .inr (.inr a0)), (1, .inl x1), (2, .inl x2), (3, .inl x3)] [] h = if 0 < (wr x3) then EX d 217 17 [(0, .inr (.inr a0)), (1, .inl x1), (2, .inl x2), (3, .inl x3)] [] h else EX d 217 143 [] [] h := (EX_at bk_Mod_findsEvenest_13 _ _ _).trans rfl
theorem bk_Mod_findsEvenest_17 : blk 217 17 = some (((cd_Mod_findsEvenest.lookup 17).getD ([], 0, []))) := rfl
theorem Mod_findsEvenest_17 (d : Nat) (a0 : Nat) (x1 : Int) (x2 : Int) (x3 : Int) (h : Hp) : EX d 217 17 [(0, .inr (.inr a0)), (1, .inl x1), (2, .inl x2), (3, .inl x3)] [] h = EX d 217 28 [(0, .inr (.inr a0)), (1, .inl x1), (2, .inl x2), (3, .inl x3), (4, .inl x1), (5, .inl x2), (6, .inl (x1 + 1))] [] h := (EX_at bk_Mod_findsEvenest_17 _ _ _).trans rfl
theorem bk_Mod_findsEvenest_28 : blk 217 28 = some (((cd_Mod_findsEvenest.lookup 28).getD ([], 0, []))) := rfl
theorem Mod_findsEvenest_28 (d : Nat) (a0 : Nat) (x1 : Int) (x2 : Int) (x3 : Int) (x4 : Int) (x5 : Int) (x6 : Int) (h : Hp) : EX d 217 28 [(0, .inr (.inr a0)), (1, .inl x1), (2, .inl x2), (3, .inl x3), (4, .inl x4), (5, .inl x5), (6, .inl x6)] [] h = if sK h a0 = 11 then if okx h (hR h a0 1) 20 1 then if (wr x6) < (wr (hI h (hR h a0 1) 1)) then EX d 217 39 [(0, .inr (.inr a0)), (1, .inl x1), (2, .inl x2), (3, .inl x3), (4, .inl x4), (5, .inl x5), (6, .inl x6)] [] h else EX d 217 124 [(0, .inr (.inr a0)), (3, .inl x3), (4, .inl x4), (5, .inl x5)] [] h else none else none := (EX_at bk_Mod_findsEvenest_28 _ _ _).trans rfl
theorem bk_Mod_findsEvenest_39 : blk 217 39 = some (((cd_Mod_findsEvenest.lookup 39).getD ([], 0, []))) := rfl
theorem Mod_findsEvenest_39 (d : Nat) (a0 : Nat) (x1 : Int) (x2 : Int) (x3 : Int) (x4 : Int) (x5 : Int) (x6 : Int) (h : Hp) : EX d 217 39 [(0, .inr (.inr a0)), (1, .inl x1), (2, .inl x2), (3, .inl x3), (4, .inl x4), (5, .inl x5), (6, .inl x6)] [] h = if (wr x4) = (wr x1) then EX d 217 45 [(0, .inr (.inr a0)), (1, .inl x1), (2, .inl x2), (3, .inl x3), (4, .inl x4), (5, .inl x5), (6, .inl x6)] [] h else EX d 217 124 [(0, .inr (.inr a0)), (3, .inl x3), (4, .inl x4), (5, .inl x5)] [] h := (EX_at bk_Mod_findsEvenest_39 _ _ _).trans rfl
theorem bk_Mod_findsEvenest_45 : blk 217 45 = some (((cd_Mod_findsEvenest.lookup 45).getD ([], 0, []))) := rfl
theorem Mod_findsEvenest_45 (d : Nat) (a0 : Nat) (x1 : Int) (x2 : Int) (x3 : Int) (x4 : Int) (x5 : Int) (x6 : Int) (h : Hp) : EX d 217 45 [(0, .inr (.inr a0)), (1, .inl x1), (2, .inl x2), (3, .inl x3), (4, .inl x4), (5, .inl x5), (6, .inl x6)] [] h = EX d 217 50 [(0, .inr (.inr a0)), (1, .inl x1), (2, .inl x2), (3, .inl x3), (4, .inl x4), (5, .inl x5), (6, .inl x6), (7, .inl (x2 + 1))] [] h := (EX_at bk_Mod_findsEvenest_45 _ _ _).trans rfl
theorem bk_Mod_findsEvenest_50 : blk 217 50 = some (((cd_Mod_findsEvenest.lookup 50).getD ([], 0, []))) := rfl
theorem Mod_findsEvenest_50 (d : Nat) (a0 : Nat) (x1 : Int) (x2 : Int) (x3 : Int) (x4 : Int) (x5 : Int) (x6 : Int) (x7 : Int) (h : Hp) : EX d 217 50 [(0, .inr (.inr a0)), (1, .inl x1), (2, .inl x2), (3, .inl x3), (4, .inl x4), (5, .inl x5), (6, .inl x6), (7, .inl x7)] [] h = if sK h a0 = 11 then if okx h (hR h a0 1) 20 2 then if (wr x7) < (wr (hI h (hR h a0 1) 2)) then EX d 217 61 [(0, .inr (.inr a0)), (1, .inl x1), (2, .inl x2), (3, .inl x3), (4, .inl x4), (5, .inl x5), (6, .inl x6), (7, .inl x7)] [] h else EX d 217 118 [(0, .inr (.inr a0)), (1, .inl x1), (2, .inl x2), (3, .inl x3), (4, .inl x4), (5, .inl x5), (6, .inl x6)] [] h else none else none := (EX_at bk_Mod_findsEvenest_50 _ _ _).trans rfl
theorem bk_Mod_findsEvenest_61 : blk 217 61 = some (((cd_Mod_findsEvenest.lookup 61).getD ([], 0, []))) := rfl
theorem Mod_findsEvenest_61 (d : Nat) (a0 : Nat) (x1 : Int) (x2 : Int) (x3 : Int) (x4 : Int) (x5 : Int) (x6 : Int) (x7 : Int) (h : Hp) : EX d 217 61 [(0, .inr (.inr a0)), (1, .inl x1), (2, .inl x2), (3, .inl x3), (4, .inl x4), (5, .inl x5), (6, .inl x6), (7, .inl x7)] [] h = if (wr x4) = (wr x1) then EX d 217 67 [(0, .inr (.inr a0)), (1, .inl x1), (2, .inl x2), (3, .inl x3), (4, .inl x4), (5, .inl x5), (6, .inl x6), (7, .inl x7)] [] h else EX d 217 118 [(0, .inr (.inr a0)), (1, .inl x1), (2, .inl x2), (3, .inl x3), (4, .inl x4), (5, .inl x5), (6, .inl x6)] [] h := (EX_at bk_Mod_findsEvenest_61 _ _ _).trans rfl
theorem bk_Mod_findsEvenest_67 : blk 217 67 = some (((cd_Mod_findsEvenest.lookup 67).getD ([], 0, []))) := rfl
theorem Mod_findsEvenest_67 (d : Nat) (a0 : Nat) (x1 : Int) (x2 : Int) (x3 : Int) (x4 : Int) (x5 : Int) (x6 : Int) (x7 : Int) (h : Hp) : EX d 217 67 [(0, .inr (.inr a0)), (1, .inl x1), (2, .inl x2), (3, .inl x3), (4, .inl x4), (5, .inl x5), (6, .inl x6), (7, .inl x7)] [] h = if sK h a0 = 11 then if sK h a0 = 11 then if sK h a0 = 11 then bak (EX d 217) 87 [(0, .inr (.inr a0)), (1, .inl x1), (2, .inl x2), (3, .inl x3), (4, .inl x4), (5, .inl x5), (6, .inl x6), (7, .inl x7)] [] false (cal d 214 [.inr (.inr a0), .inr (.inr (hR h a0 26)), .inl x1, .inl x2, .inl x6, .inl x7, .inl x3, .inl (hI h a0 28), .inl 1] h) else none else none else none := (EX_at bk_Mod_findsEvenest_67 _ _ _).trans rfl
theorem bk_Mod_findsEvenest_87 : blk 217 87 = some (((cd_Mod_findsEvenest.lookup 87).getD ([], 0, []))) := rfl
theorem Mod_findsEvenest_87 (d : Nat) (a0 : Nat) (x1 : Int) (x2 : Int) (x3 : Int) (x4 : Int) (x5 : Int) (x6 : Int) (x7 : Int) (s0 : Int) (h : Hp) : EX d 217 87 [(0, .inr (.inr a0)), (1, .inl x1), (2, .inl x2), (3, .inl x3), (4, .inl x4), (5, .inl x5), (6, .inl x6), (7, .inl x7)] [.inl s0] h = if sK h a0 = 11 then bak (EX d 217) 97 [(0, .inr (.inr a0)), (1, .inl x1), (2, .inl x2), (3, .inl x3), (4, .inl x4), (5, .inl x5), (6, .inl x6), (7, .inl x7)] [.inr (.inr (hR h a0 26)), .inl s0] false (cal d 183 [.inl x1, .inl x2, .inl x3] h) else none := (EX_at bk_Mod_findsEvenest_87 _ _ _).trans rfl
theorem bk_Mod_findsEvenest_97 : blk 217 97 = some (((cd_Mod_findsEvenest.lookup 97).getD ([], 0, []))) := rfl
theorem Mod_findsEvenest_97 (d : Nat) (a0 : Nat) (x1 : Int) (x2 : Int) (x3 : Int) (x4 : Int) (x5 : Int) (x6 : Int) (x7 : Int) (s0 : Int) (r1 : Nat) (s2 : Int) (h : Hp) : EX d 217 97 [(0, .inr (.inr a0)), (1, .inl x1), (2, .inl x2), (3, .inl x3), (4, .inl x4), (5, .inl x5), (6, .inl x6), (7, .inl x7)] [.inl s2, .inr (.inr r1), .inl s0] h = if okx h r1 20 s2 then if (wr s0) = (wr (hI h r1 (ix s2))) then EX d 217 104 [(0, .inr (.inr a0)), (1, .inl x1), (2, .inl x2), (3, .inl x3), (6, .inl x6), (7, .inl x7)] [] h else EX d 217 101 [(0, .inr (.inr a0)), (1, .inl x1), (2, .inl x2), (3, .inl x3), (4, .inl x4), (5, .inl x5), (6, .inl x6), (7, .inl x7)] [] h else none := (EX_at bk_Mod_findsEvenest_97 _ _ _).trans rfl
theorem bk_Mod_findsEvenest_101 : blk 217 101 = some (((cd_Mod_findsEvenest.lookup 101).getD ([], 0, []))) := rfl
theorem Mod_findsEvenest_101 (d : Nat) (a0 : Nat) (x1 : Int) (x2 : Int) (x3 : Int) (x4 : Int) (x5 : Int) (x6 : Int) (x7 : Int) (h : Hp) : EX d 217 101 [(0, .inr (.inr a0)), (1, .inl x1), (2, .inl x2), (3, .inl x3), (4, .inl x4), (5, .inl x5), (6, .inl x6), (7, .inl x7)] [] h = EX d 217 112 [(0, .inr (.inr a0)), (1, .inl x1), (2, .inl x2), (3, .inl x3), (4, .inl x4), (5, .inl x5), (6, .inl x6), (7, .inl x7)] [] h := (EX_at bk_Mod_findsEvenest_101 _ _ _).trans rfl
theorem bk_Mod_findsEvenest_104 : blk 217 104 = some (((cd_Mod_findsEvenest.lookup 104).getD ([], 0, []))) := rfl
theorem Mod_findsEvenest_104 (d : Nat) (a0 : Nat) (x1 : Int) (x2 : Int) (x3 : Int) (x6 : Int) (x7 : Int) (h : Hp) : EX d 217 104 [(0, .inr (.inr a0)), (1, .inl x1), (2, .inl x2), (3, .inl x3), (6, .inl x6), (7, .inl x7)] [] h = EX d 217 112 [(0, .inr (.inr a0)), (1, .inl x1), (2, .inl x2), (3, .inl x3), (4, .inl x6), (5, .inl x7), (6, .inl x6), (7, .inl x7)] [] h := (EX_at bk_Mod_findsEvenest_104 _ _ _).trans rfl
theorem bk_Mod_findsEvenest_112 : blk 217 112 = some (((cd_Mod_findsEvenest.lookup 112).getD ([], 0, []))) := rfl
theorem Mod_findsEvenest_112 (d : Nat) (a0 : Nat) (x1 : Int) (x2 : Int) (x3 : Int) (x4 : Int) (x5 : Int) (x6 : Int) (x7 : Int) (h : Hp) : EX d 217 112 [(0, .inr (.inr a0)), (1, .inl x1), (2, .inl x2), (3, .inl x3), (4, .inl x4), (5, .inl x5), (6, .inl x6), (7, .inl x7)] [] h = EX d 217 50 [(0, .inr (.inr a0)), (1, .inl x1), (2, .inl x2), (3, .inl x3), (4, .inl x4), (5, .inl x5), (6, .inl x6), (7, .inl (x7 + 1))] [] h := (EX_at bk_Mod_findsEvenest_112 _ _ _).trans rfl
theorem bk_Mod_findsEvenest_118 : blk 217 118 = some (((cd_Mod_findsEvenest.lookup 118).getD ([], 0, []))) := rfl
theorem Mod_findsEvenest_118 (d : Nat) (a0 : Nat) (x1 : Int) (x2 : Int) (x3 : Int) (x4 : Int) (x5 : Int) (x6 : Int) (h : Hp) : EX d 217 118 [(0, .inr (.inr a0)), (1, .inl x1), (2, .inl x2), (3, .inl x3), (4, .inl x4), (5, .inl x5), (6, .inl x6)] [] h = EX d 217 28 [(0, .inr (.inr a0)), (1, .inl x1), (2, .inl x2), (3, .inl x3), (4, .inl x4), (5, .inl x5), (6, .inl (x6 + 1))] [] h := (EX_at bk_Mod_findsEvenest_118 _ _ _).trans rfl
theorem bk_Mod_findsEvenest_124 : blk 217 124 = some (((cd_Mod_findsEvenest.lookup 124).getD ([], 0, []))) := rfl
theorem Mod_findsEvenest_124 (d : Nat) (a0 : Nat) (x3 : Int) (x4 : Int) (x5 : Int) (h : Hp) : EX d 217 124 [(0, .inr (.inr a0)), (3, .inl x3), (4, .inl x4), (5, .inl x5)] [] h = if sK h a0 = 11 then if okx h (hR h a0 23) 20 x4 then EX d 217 137 [(0, .inr (.inr a0)), (1, .inl x4), (2, .inl x5), (3, .inl x3)] [] (pI h (hR h a0 23) (ix x4) x5) else none else none := (EX_at bk_Mod_findsEvenest_124 _ _ _).trans rfl
theorem bk_Mod_findsEvenest_137 : blk 217 137 = some (((cd_Mod_findsEvenest.lookup 137).getD ([], 0, []))) := rfl
theorem Mod_findsEvenest_137 (d : Nat) (a0 : Nat) (x1 : Int) (x2 : Int) (x3 : Int) (h : Hp) : EX d 217 137 [(0, .inr (.inr a0)), (1, .inl x1), (2, .inl x2), (3, .inl x3)] [] h = EX d 217 13 [(0, .inr (.inr a0)), (1, .inl x1), (2, .inl x2), (3, .inl (x3 + (-1)))] [] h := (EX_at bk_Mod_findsEvenest_137 _ _ _).trans rfl
theorem bk_Mod_findsEvenest_143 : blk 217 143 = some (((cd_Mod_findsEvenest.lookup 143).getD ([], 0, []))) := rfl
theorem Mod_findsEvenest_143 (d : Nat) (h : Hp) : EX d 217 143 [] [] h = some (.inl 0, h) := (EX_at bk_Mod_findsEvenest_143 _ _ _).trans rfl
/-! evenest(I)I of HookOverModel: method 218 -/
theorem bk_Mod_evenest_0 : blk 218 0 = some (((cd_Mod_evenest.lookup 0).getD ([], 0, []))) := rfl
theorem Mod_evenest_0 (d : Nat) (a0 : Nat) (x1 : Int) (h : Hp) : EX d 218 0 [(0, .inr (.inr a0)), (1, .inl x1)] [] h = if sK h a0 = 11 then EX d 218 5 [(0, .inr (.inr a0)), (1, .inl x1)] [] (pI h a0 0 0) else none := (EX_at bk_Mod_evenest_0 _ _ _).trans rfl
theorem bk_Mod_evenest_5 : blk 218 5 = some (((cd_Mod_evenest.lookup 5).getD ([], 0, []))) := rfl
theorem Mod_evenest_5 (d : Nat) (a0 : Nat) (x1 : Int) (h : Hp) : EX d 218 5 [(0, .inr (.inr a0)), (1, .inl x1)] [] h = if sK h a0 = 11 then bak (EX d 218) 11 [(0, .inr (.inr a0)), (1, .inl x1)] [] false (cal d 202 [.inr (.inr a0), .inl x1, .inl 1] h) else none := (EX_at bk_Mod_evenest_5 _ _ _).trans rfl
theorem bk_Mod_evenest_11 : blk 218 11 = some (((cd_Mod_evenest.lookup 11).getD ([], 0, []))) := rfl
theorem Mod_evenest_11 (d : Nat) (a0 : Nat) (x1 : Int) (s0 : Int) (h : Hp) : EX d 218 11 [(0, .inr (.inr a0)), (1, .inl x1)] [.inl s0] h = if (wr s0) = 0 then EX d 218 14 [] [] h else EX d 218 17 [(0, .inr (.inr a0)), (1, .inl x1)] [] h := (EX_at bk_Mod_evenest_11 _ _ _).trans rfl
theorem bk_Mod_evenest_14 : blk 218 14 = some (((cd_Mod_evenest.lookup 14).getD ([], 0, []))) := rfl
theorem Mod_evenest_14 (d : Nat) (h : Hp) : EX d 218 14 [] [] h = some (.inl (-2), h) := (EX_at bk_Mod_evenest_14 _ _ _).trans rfl
theorem bk_Mod_evenest_17 : blk 218 17 = some (((cd_Mod_evenest.lookup 17).getD ([], 0, []))) := rfl
theorem Mod_evenest_17 (d : Nat) (a0 : Nat) (x1 : Int) (h : Hp) : EX d 218 17 [(0, .inr (.inr a0)), (1, .inl x1)] [] h = if sK h a0 = 11 then bak (EX d 218) 21 [(0, .inr (.inr a0)), (1, .inl x1)] [] true (cal d 216 [.inr (.inr a0)] h) else none := (EX_at bk_Mod_evenest_17 _ _ _).trans rfl
theorem bk_Mod_evenest_21 : blk 218 21 = some (((cd_Mod_evenest.lookup 21).getD ([], 0, []))) := rfl
theorem Mod_evenest_21 (d : Nat) (a0 : Nat) (x1 : Int) (h : Hp) : EX d 218 21 [(0, .inr (.inr a0)), (1, .inl x1)] [] h = if (wr x1) = 0 then EX d 218 25 [(0, .inr (.inr a0))] [] h else EX d 218 30 [(0, .inr (.inr a0)), (1, .inl x1)] [] h := (EX_at bk_Mod_evenest_21 _ _ _).trans rfl
theorem bk_Mod_evenest_25 : blk 218 25 = some (((cd_Mod_evenest.lookup 25).getD ([], 0, []))) := rfl
theorem Mod_evenest_25 (d : Nat) (a0 : Nat) (h : Hp) : EX d 218 25 [(0, .inr (.inr a0))] [] h = if sK h a0 = 11 then some (.inl (hI h a0 28), h) else none := (EX_at bk_Mod_evenest_25 _ _ _).trans rfl
theorem bk_Mod_evenest_30 : blk 218 30 = some (((cd_Mod_evenest.lookup 30).getD ([], 0, []))) := rfl
theorem Mod_evenest_30 (d : Nat) (a0 : Nat) (x1 : Int) (h : Hp) : EX d 218 30 [(0, .inr (.inr a0)), (1, .inl x1)] [] h = if (wr x1) = 1 then EX d 218 35 [(0, .inr (.inr a0))] [] h else EX d 218 50 [(0, .inr (.inr a0)), (1, .inl x1)] [] h := (EX_at bk_Mod_evenest_30 _ _ _).trans rfl
theorem bk_Mod_evenest_35 : blk 218 35 = some (((cd_Mod_evenest.lookup 35).getD ([], 0, []))) := rfl
theorem Mod_evenest_35 (d : Nat) (a0 : Nat) (h : Hp) : EX d 218 35 [(0, .inr (.inr a0))] [] h = if sK h a0 = 11 then if sK h a0 = 11 then bak (EX d 218) 48 [] [.inr (.inr (hR h a0 26))] false (cal d 183 [.inl (-1), .inl (-1), .inl (hI h a0 27)] h) else none else none := (EX_at bk_Mod_evenest_35 _ _ _).trans rfl
theorem bk_Mod_evenest_48 : blk 218 48 = some (((cd_Mod_evenest.lookup 48).getD ([], 0, []))) := rfl
theorem Mod_evenest_48 (d : Nat) (r0 : Nat) (s1 : Int) (h : Hp) : EX d 218 48 [] [.inl s1, .inr (.inr r0)] h = if okx h r0 20 s1 then some (.inl (hI h r0 (ix s1)), h) else none := (EX_at bk_Mod_evenest_48 _ _ _).trans rfl
theorem bk_Mod_evenest_50 : blk 218 50 = some (((cd_Mod_evenest.lookup 50).getD ([], 0, []))) := rfl
theorem Mod_evenest_50 (d : Nat) (a0 : Nat) (x1 : Int) (h : Hp) : EX d 218 50 [(0, .inr (.inr a0)), (1, .inl x1)] [] h = if sK h a0 = 11 then bak (EX d 218) 54 [(0, .inr (.inr a0)), (1, .inl x1)] [] true (cal d 217 [.inr (.inr a0)] h) else none := (EX_at bk_Mod_evenest_50 _ _ _).trans rfl
theorem bk_Mod_evenest_54 : blk 218 54 = some (((cd_Mod_evenest.lookup 54).getD ([], 0, []))) := rfl
theorem Mod_evenest_54 (d : Nat) (a0 : Nat) (x1 : Int) (h : Hp) : EX d 218 54 [(0, .inr (.inr a0)), (1, .inl x1)] [] h = if sK h a0 = 11 then if okx h (hR h a0 23) 20 (x1 - 10) then some (.inl (hI h (hR h a0 23) (ix (x1 - 10))), h) else none else none := (EX_at bk_Mod_evenest_54 _ _ _).trans rfl
/-! spread()I of HookOverModel: method 220 -/
theorem bk_Mod_spread_0 : blk 220 0 = some (((cd_Mod_spread.lookup 0).getD ([], 0, []))) := rfl
theorem Mod_spread_0 (d : Nat) (a0 : Nat) (h : Hp) : EX d 220 0 [(0, .inr (.inr a0))] [] h = if sK h a0 = 11 then EX d 220 5 [(0, .inr (.inr a0))] [] (pI h a0 0 0) else none := (EX_at bk_Mod_spread_0 _ _ _).trans rfl
theorem bk_Mod_spread_5 : blk 220 5 = some (((cd_Mod_spread.lookup 5).getD ([], 0, []))) := rfl
theorem Mod_spread_5 (d : Nat) (a0 : Nat) (h : Hp) : EX d 220 5 [(0, .inr (.inr a0))] [] h = if sK h a0 = 11 then bak (EX d 220) 9 [(0, .inr (.inr a0))] [] true (cal d 137 [.inr (.inr a0)] h) else none := (EX_at bk_Mod_spread_5 _ _ _).trans rfl
theorem bk_Mod_spread_9 : blk 220 9 = some (((cd_Mod_spread.lookup 9).getD ([], 0, []))) := rfl
theorem Mod_spread_9 (d : Nat) (a0 : Nat) (h : Hp) : EX d 220 9 [(0, .inr (.inr a0))] [] h = if sK h a0 = 11 then bak (EX d 220) 13 [(0, .inr (.inr a0))] [] true (cal d 216 [.inr (.inr a0)] h) else none := (EX_at bk_Mod_spread_9 _ _ _).trans rfl
theorem bk_Mod_spread_13 : blk 220 13 = some (((cd_Mod_spread.lookup 13).getD ([], 0, []))) := rfl
theorem Mod_spread_13 (d : Nat) (a0 : Nat) (h : Hp) : EX d 220 13 [(0, .inr (.inr a0))] [] h = if sK h a0 = 11 then bak (EX d 220) 17 [(0, .inr (.inr a0))] [] true (cal d 217 [.inr (.inr a0)] h) else none := (EX_at bk_Mod_spread_13 _ _ _).trans rfl
theorem bk_Mod_spread_17 : blk 220 17 = some (((cd_Mod_spread.lookup 17).getD ([], 0, []))) := rfl
theorem Mod_spread_17 (d : Nat) (a0 : Nat) (h : Hp) : EX d 220 17 [(0, .inr (.inr a0))] [] h = EX d 220 21 [(0, .inr (.inr a0)), (1, .inl 0), (2, .inl 0)] [] h := (EX_at bk_Mod_spread_17 _ _ _).trans rfl
theorem bk_Mod_spread_21 : blk 220 21 = some (((cd_Mod_spread.lookup 21).getD ([], 0, []))) := rfl
theorem Mod_spread_21 (d : Nat) (a0 : Nat) (x1 : Int) (x2 : Int) (h : Hp) : EX d 220 21 [(0, .inr (.inr a0)), (1, .inl x1), (2, .inl x2)] [] h = if sK h a0 = 11 then if okx h (hR h a0 1) 20 1 then if (wr x2) < (wr (hI h (hR h a0 1) 1)) then EX d 220 31 [(0, .inr (.inr a0)), (1, .inl x1), (2, .inl x2)] [] h else EX d 220 78 [(0, .inr (.inr a0)), (1, .inl x1)] [] h else none else none := (EX_at bk_Mod_spread_21 _ _ _).trans rfl
theorem bk_Mod_spread_31 : blk 220 31 = some (((cd_Mod_spread.lookup 31).getD ([], 0, []))) := rfl
theorem Mod_spread_31 (d : Nat) (a0 : Nat) (x1 : Int) (x2 : Int) (h : Hp) : EX d 220 31 [(0, .inr (.inr a0)), (1, .inl x1), (2, .inl x2)] [] h = if sK h a0 = 11 then if okx h (hR h a0 1) 20 (61 + x2) then if sK h a0 = 11 then if okx h (hR h a0 23) 20 x2 then if (wr (hI h (hR h a0 1) (ix (61 + x2)))) = (wr (hI h (hR h a0 23) (ix x2))) then EX d 220 50 [(0, .inr (.inr a0)), (2, .inl x2)] [.inl x1] h else EX d 220 54 [(0, .inr (.inr a0)), (2, .inl x2)] [.inl x1] h else none else none else none else none := (EX_at bk_Mod_spread_31 _ _ _).trans rfl
theorem bk_Mod_spread_50 : blk 220 50 = some (((cd_Mod_spread.lookup 50).getD ([], 0, []))) := rfl
theorem Mod_spread_50 (d : Nat) (a0 : Nat) (x2 : Int) (s0 : Int) (h : Hp) : EX d 220 50 [(0, .inr (.inr a0)), (2, .inl x2)] [.inl s0] h = EX d 220 55 [(0, .inr (.inr a0)), (2, .inl x2)] [.inl 0, .inl s0] h := (EX_at bk_Mod_spread_50 _ _ _).trans rfl
theorem bk_Mod_spread_54 : blk 220 54 = some (((cd_Mod_spread.lookup 54).getD ([], 0, []))) := rfl
theorem Mod_spread_54 (d : Nat) (a0 : Nat) (x2 : Int) (s0 : Int) (h : Hp) : EX d 220 54 [(0, .inr (.inr a0)), (2, .inl x2)] [.inl s0] h = EX d 220 55 [(0, .inr (.inr a0)), (2, .inl x2)] [.inl 1, .inl s0] h := (EX_at bk_Mod_spread_54 _ _ _).trans rfl
theorem bk_Mod_spread_55 : blk 220 55 = some (((cd_Mod_spread.lookup 55).getD ([], 0, []))) := rfl
theorem Mod_spread_55 (d : Nat) (a0 : Nat) (x2 : Int) (s0 : Int) (s1 : Int) (h : Hp) : EX d 220 55 [(0, .inr (.inr a0)), (2, .inl x2)] [.inl s1, .inl s0] h = if sK h a0 = 11 then if sK h a0 = 11 then if okx h (hR h a0 23) 20 x2 then if okx h (hR h a0 1) 20 (61 + x2) then EX d 220 72 [(0, .inr (.inr a0)), (1, .inl (s0 + s1)), (2, .inl x2)] [] (pI h (hR h a0 1) (ix (61 + x2)) (hI h (hR h a0 23) (ix x2))) else none else none else none else none := (EX_at bk_Mod_spread_55 _ _ _).trans rfl
theorem bk_Mod_spread_72 : blk 220 72 = some (((cd_Mod_spread.lookup 72).getD ([], 0, []))) := rfl
theorem Mod_spread_72 (d : Nat) (a0 : Nat) (x1 : Int) (x2 : Int) (h : Hp) : EX d 220 72 [(0, .inr (.inr a0)), (1, .inl x1), (2, .inl x2)] [] h = EX d 220 21 [(0, .inr (.inr a0)), (1, .inl x1), (2, .inl (x2 + 1))] [] h := (EX_at bk_Mod_spread_72 _ _ _).trans rfl
theorem bk_Mod_spread_78 : blk 220 78 = some (((cd_Mod_spread.lookup 78).getD ([], 0, []))) := rfl
theorem Mod_spread_78 (d : Nat) (a0 : Nat) (x1 : Int) (h : Hp) : EX d 220 78 [(0, .inr (.inr a0)), (1, .inl x1)] [] h = if 0 < (wr x1) then EX d 220 82 [(0, .inr (.inr a0)), (1, .inl x1)] [] h else EX d 220 86 [(1, .inl x1)] [] h := (EX_at bk_Mod_spread_78 _ _ _).trans rfl
theorem bk_Mod_spread_82 : blk 220 82 = some (((cd_Mod_spread.lookup 82).getD ([], 0, []))) := rfl
theorem Mod_spread_82 (d : Nat) (a0 : Nat) (x1 : Int) (h : Hp) : EX d 220 82 [(0, .inr (.inr a0)), (1, .inl x1)] [] h = if sK h a0 = 11 then bak (EX d 220) 86 [(1, .inl x1)] [] true (cal d 142 [.inr (.inr a0)] h) else none := (EX_at bk_Mod_spread_82 _ _ _).trans rfl
theorem bk_Mod_spread_86 : blk 220 86 = some (((cd_Mod_spread.lookup 86).getD ([], 0, []))) := rfl
theorem Mod_spread_86 (d : Nat) (x1 : Int) (h : Hp) : EX d 220 86 [(1, .inl x1)] [] h = some (.inl x1, h) := (EX_at bk_Mod_spread_86 _ _ _).trans rfl
/-! fullAt(II)I of HookOverModel: method 223 -/
theorem bk_Mod_fullAt_0 : blk 223 0 = some (((cd_Mod_fullAt.lookup 0).getD ([], 0, []))) := rfl
theorem Mod_fullAt_0 (d : Nat) (a0 : Nat) (x1 : Int) (x2 : Int) (h : Hp) : EX d 223 0 [(0, .inr (.inr a0)), (1, .inl x1), (2, .inl x2)] [] h = if sK h a0 = 11 then EX d 223 5 [(0, .inr (.inr a0)), (1, .inl x1), (2, .inl x2)] [] (pI h a0 0 0) else none := (EX_at bk_Mod_fullAt_0 _ _ _).trans rfl
theorem bk_Mod_fullAt_5 : blk 223 5 = some (((cd_Mod_fullAt.lookup 5).getD ([], 0, []))) := rfl
theorem Mod_fullAt_5 (d : Nat) (a0 : Nat) (x1 : Int) (x2 : Int) (h : Hp) : EX d 223 5 [(0, .inr (.inr a0)), (1, .inl x1), (2, .inl x2)] [] h = if sK h a0 = 11 then bak (EX d 223) 10 [(0, .inr (.inr a0)), (1, .inl x1), (2, .inl x2)] [] false (cal d 108 [.inr (.inr a0), .inl x2] h) else none := (EX_at bk_Mod_fullAt_5 _ _ _).trans rfl
theorem bk_Mod_fullAt_10 : blk 223 10 = some (((cd_Mod_fullAt.lookup 10).getD ([], 0, []))) := rfl
theorem Mod_fullAt_10 (d : Nat) (a0 : Nat) (x1 : Int) (x2 : Int) (s0 : Int) (h : Hp) : EX d 223 10 [(0, .inr (.inr a0)), (1, .inl x1), (2, .inl x2)] [.inl s0] h = if (wr s0) = 0 then EX d 223 13 [] [] h else EX d 223 16 [(0, .inr (.inr a0)), (1, .inl x1), (2, .inl x2)] [] h := (EX_at bk_Mod_fullAt_10 _ _ _).trans rfl
theorem bk_Mod_fullAt_13 : blk 223 13 = some (((cd_Mod_fullAt.lookup 13).getD ([], 0, []))) := rfl
theorem Mod_fullAt_13 (d : Nat) (h : Hp) : EX d 223 13 [] [] h = some (.inl (-2), h) := (EX_at bk_Mod_fullAt_13 _ _ _).trans rfl
theorem bk_Mod_fullAt_16 : blk 223 16 = some (((cd_Mod_fullAt.lookup 16).getD ([], 0, []))) := rfl
theorem Mod_fullAt_16 (d : Nat) (a0 : Nat) (x1 : Int) (x2 : Int) (h : Hp) : EX d 223 16 [(0, .inr (.inr a0)), (1, .inl x1), (2, .inl x2)] [] h = if (wr x1) < 0 then EX d 223 20 [] [] h else EX d 223 23 [(0, .inr (.inr a0)), (1, .inl x1), (2, .inl x2)] [] h := (EX_at bk_Mod_fullAt_16 _ _ _).trans rfl
theorem bk_Mod_fullAt_20 : blk 223 20 = some (((cd_Mod_fullAt.lookup 20).getD ([], 0, []))) := rfl
theorem Mod_fullAt_20 (d : Nat) (h : Hp) : EX d 223 20 [] [] h = some (.inl (-3), h) := (EX_at bk_Mod_fullAt_20 _ _ _).trans rfl
theorem bk_Mod_fullAt_23 : blk 223 23 = some (((cd_Mod_fullAt.lookup 23).getD ([], 0, []))) := rfl
theorem Mod_fullAt_23 (d : Nat) (a0 : Nat) (x1 : Int) (x2 : Int) (h : Hp) : EX d 223 23 [(0, .inr (.inr a0)), (1, .inl x1), (2, .inl x2)] [] h = if sK h a0 = 11 then bak (EX d 223) 27 [(0, .inr (.inr a0)), (1, .inl x1), (2, .inl x2)] [] false (cal d 191 [.inr (.inr a0)] h) else none := (EX_at bk_Mod_fullAt_23 _ _ _).trans rfl
theorem bk_Mod_fullAt_27 : blk 223 27 = some (((cd_Mod_fullAt.lookup 27).getD ([], 0, []))) := rfl
theorem Mod_fullAt_27 (d : Nat) (a0 : Nat) (x1 : Int) (x2 : Int) (s0 : Int) (h : Hp) : EX d 223 27 [(0, .inr (.inr a0)), (1, .inl x1), (2, .inl x2)] [.inl s0] h = if sK h a0 = 11 then bak (EX d 223) 33 [(0, .inr (.inr a0)), (1, .inl x1), (2, .inl x2), (3, .inl s0)] [] false (cal d 188 [.inr (.inr a0), .inl s0] h) else none := (EX_at bk_Mod_fullAt_27 _ _ _).trans rfl
theorem bk_Mod_fullAt_33 : blk 223 33 = some (((cd_Mod_fullAt.lookup 33).getD ([], 0, []))) := rfl
theorem Mod_fullAt_33 (d : Nat) (a0 : Nat) (x1 : Int) (x2 : Int) (x3 : Int) (t0 : Int) (h : Hp) : EX d 223 33 [(0, .inr (.inr a0)), (1, .inl x1), (2, .inl x2), (3, .inl x3)] [.inr (.inl t0)] h = if 0 < (wr (lCmp t0 (wr x1))) then EX d 223 42 [(0, .inr (.inr a0)), (1, .inl x1), (2, .inl x2), (3, .inl x3)] [] h else EX d 223 39 [] [] h := (EX_at bk_Mod_fullAt_33 _ _ _).trans rfl
theorem bk_Mod_fullAt_39 : blk 223 39 = some (((cd_Mod_fullAt.lookup 39).getD ([], 0, []))) := rfl
theorem Mod_fullAt_39 (d : Nat) (h : Hp) : EX d 223 39 [] [] h = some (.inl (-5), h) := (EX_at bk_Mod_fullAt_39 _ _ _).trans rfl
theorem bk_Mod_fullAt_42 : blk 223 42 = some (((cd_Mod_fullAt.lookup 42).getD ([], 0, []))) := rfl
theorem Mod_fullAt_42 (d : Nat) (a0 : Nat) (x1 : Int) (x2 : Int) (x3 : Int) (h : Hp) : EX d 223 42 [(0, .inr (.inr a0)), (1, .inl x1), (2, .inl x2), (3, .inl x3)] [] h = if sK h a0 = 11 then bak (EX d 223) 50 [(0, .inr (.inr a0)), (2, .inl x2), (3, .inl x3), (4, .inr (.inl (wr x1)))] [] true (cal d 205 [.inr (.inr a0)] h) else none := (EX_at bk_Mod_fullAt_42 _ _ _).trans rfl
theorem bk_Mod_fullAt_50 : blk 223 50 = some (((cd_Mod_fullAt.lookup 50).getD ([], 0, []))) := rfl
theorem Mod_fullAt_50 (d : Nat) (a0 : Nat) (x2 : Int) (x3 : Int) (y4 : Int) (h : Hp) : EX d 223 50 [(0, .inr (.inr a0)), (2, .inl x2), (3, .inl x3), (4, .inr (.inl y4))] [] h = EX d 223 56 [(0, .inr (.inr a0)), (2, .inl x2), (3, .inl x3), (4, .inr (.inl y4)), (6, .inl (-1)), (7, .inl (-1))] [] h := (EX_at bk_Mod_fullAt_50 _ _ _).trans rfl
theorem bk_Mod_fullAt_56 : blk 223 56 = some (((cd_Mod_fullAt.lookup 56).getD ([], 0, []))) := rfl
theorem Mod_fullAt_56 (d : Nat) (a0 : Nat) (x2 : Int) (x3 : Int) (y4 : Int) (x6 : Int) (x7 : Int) (h : Hp) : EX d 223 56 [(0, .inr (.inr a0)), (2, .inl x2), (3, .inl x3), (4, .inr (.inl y4)), (6, .inl x6), (7, .inl x7)] [] h = if 0 < (wr x3) then EX d 223 60 [(0, .inr (.inr a0)), (2, .inl x2), (3, .inl x3), (4, .inr (.inl y4)), (6, .inl x6), (7, .inl x7)] [] h else EX d 223 221 [(0, .inr (.inr a0)), (2, .inl x2)] [] h := (EX_at bk_Mod_fullAt_56 _ _ _).trans rfl
theorem bk_Mod_fullAt_60 : blk 223 60 = some (((cd_Mod_fullAt.lookup 60).getD ([], 0, []))) := rfl
theorem Mod_fullAt_60 (d : Nat) (a0 : Nat) (x2 : Int) (x3 : Int) (y4 : Int) (x6 : Int) (x7 : Int) (h : Hp) : EX d 223 60 [(0, .inr (.inr a0)), (2, .inl x2), (3, .inl x3), (4, .inr (.inl y4)), (6, .inl x6), (7, .inl x7)] [] h = EX d 223 74 [(0, .inr (.inr a0)), (2, .inl x2), (3, .inl x3), (4, .inr (.inl y4)), (6, .inl x6), (7, .inl x7), (8, .inl x6), (9, .inl x7), (10, .inl (x6 + 1))] [] h := (EX_at bk_Mod_fullAt_60 _ _ _).trans rfl
theorem bk_Mod_fullAt_74 : blk 223 74 = some (((cd_Mod_fullAt.lookup 74).getD ([], 0, []))) := rfl
theorem Mod_fullAt_74 (d : Nat) (a0 : Nat) (x2 : Int) (x3 : Int) (y4 : Int) (x6 : Int) (x7 : Int) (x8 : Int) (x9 : Int) (x10 : Int) (h : Hp) : EX d 223 74 [(0, .inr (.inr a0)), (2, .inl x2), (3, .inl x3), (4, .inr (.inl y4)), (6, .inl x6), (7, .inl x7), (8, .inl x8), (9, .inl x9), (10, .inl x10)] [] h = if sK h a0 = 11 then if okx h (hR h a0 1) 20 1 then if (wr x10) < (wr (hI h (hR h a0 1) 1)) then EX d 223 85 [(0, .inr (.inr a0)), (2, .inl x2), (3, .inl x3), (4, .inr (.inl y4)), (6, .inl x6), (7, .inl x7), (8, .inl x8), (9, .inl x9), (10, .inl x10)] [] h else EX d 223 198 [(0, .inr (.inr a0)), (2, .inl x2), (3, .inl x3), (4, .inr (.inl y4)), (8, .inl x8), (9, .inl x9)] [] h else none else none := (EX_at bk_Mod_fullAt_74 _ _ _).trans rfl
theorem bk_Mod_fullAt_85 : blk 223 85 = some (((cd_Mod_fullAt.lookup 85).getD ([], 0, []))) := rfl
theorem Mod_fullAt_85 (d : Nat) (a0 : Nat) (x2 : Int) (x3 : Int) (y4 : Int) (x6 : Int) (x7 : Int) (x8 : Int) (x9 : Int) (x10 : Int) (h : Hp) : EX d 223 85 [(0, .inr (.inr a0)), (2, .inl x2), (3, .inl x3), (4, .inr (.inl y4)), (6, .inl x6), (7, .inl x7), (8, .inl x8), (9, .inl x9), (10, .inl x10)] [] h = if (wr x8) = (wr x6) then EX d 223 92 [(0, .inr (.inr a0)), (2, .inl x2), (3, .inl x3), (4, .inr (.inl y4)), (6, .inl x6), (7, .inl x7), (8, .inl x8), (9, .inl x9), (10, .inl x10)] [] h else EX d 223 198 [(0, .inr (.inr a0)), (2, .inl x2), (3, .inl x3), (4, .inr (.inl y4)), (8, .inl x8), (9, .inl x9)] [] h := (EX_at bk_Mod_fullAt_85 _ _ _).trans rfl
theorem bk_Mod_fullAt_92 : blk 223 92 = some (((cd_Mod_fullAt.lookup 92).getD ([], 0, []))) := rfl
theorem Mod_fullAt_92 (d : Nat) (a0 : Nat) (x2 : Int) (x3 : Int) (y4 : Int) (x6 : Int) (x7 : Int) (x8 : Int) (x9 : Int) (x10 : Int) (h : Hp) : EX d 223 92 [(0, .inr (.inr a0)), (2, .inl x2), (3, .inl x3), (4, .inr (.inl y4)), (6, .inl x6), (7, .inl x7), (8, .inl x8), (9, .inl x9), (10, .inl x10)] [] h = EX d 223 98 [(0, .inr (.inr a0)), (2, .inl x2), (3, .inl x3), (4, .inr (.inl y4)), (6, .inl x6), (7, .inl x7), (8, .inl x8), (9, .inl x9), (10, .inl x10), (11, .inl (x7 + 1))] [] h := (EX_at bk_Mod_fullAt_92 _ _ _).trans rfl
theorem bk_Mod_fullAt_98 : blk 223 98 = some (((cd_Mod_fullAt.lookup 98).getD ([], 0, []))) := rfl
theorem Mod_fullAt_98 (d : Nat) (a0 : Nat) (x2 : Int) (x3 : Int) (y4 : Int) (x6 : Int) (x7 : Int) (x8 : Int) (x9 : Int) (x10 : Int) (x11 : Int) (h : Hp) : EX d 223 98 [(0, .inr (.inr a0)), (2, .inl x2), (3, .inl x3), (4, .inr (.inl y4)), (6, .inl x6), (7, .inl x7), (8, .inl x8), (9, .inl x9), (10, .inl x10), (11, .inl x11)] [] h = if sK h a0 = 11 then if okx h (hR h a0 1) 20 2 then if (wr x11) < (wr (hI h (hR h a0 1) 2)) then EX d 223 109 [(0, .inr (.inr a0)), (2, .inl x2), (3, .inl x3), (4, .inr (.inl y4)), (6, .inl x6), (7, .inl x7), (8, .inl x8), (9, .inl x9), (10, .inl x10), (11, .inl x11)] [] h else EX d 223 192 [(0, .inr (.inr a0)), (2, .inl x2), (3, .inl x3), (4, .inr (.inl y4)), (6, .inl x6), (7, .inl x7), (8, .inl x8), (9, .inl x9), (10, .inl x10)] [] h else none else none := (EX_at bk_Mod_fullAt_98 _ _ _).trans rfl
theorem bk_Mod_fullAt_109 : blk 223 109 = some (((cd_Mod_fullAt.lookup 109).getD ([], 0, []))) := rfl
theorem Mod_fullAt_109 (d : Nat) (a0 : Nat) (x2 : Int) (x3 : Int) (y4 : Int) (x6 : Int) (x7 : Int) (x8 : Int) (x9 : Int) (x10 : Int) (x11 : Int) (h : Hp) : EX d 223 109 [(0, .inr (.inr a0)), (2, .inl x2), (3, .inl x3), (4, .inr (.inl y4)), (6, .inl x6), (7, .inl x7), (8, .inl x8), (9, .inl x9), (10, .inl x10), (11, .inl x11)] [] h = if (wr x8) = (wr x6) then EX d 223 116 [(0, .inr (.inr a0)), (2, .inl x2), (3, .inl x3), (4, .inr (.inl y4)), (6, .inl x6), (7, .inl x7), (8, .inl x8), (9, .inl x9), (10, .inl x10), (11, .inl x11)] [] h else EX d 223 192 [(0, .inr (.inr a0)), (2, .inl x2), (3, .inl x3), (4, .inr (.inl y4)), (6, .inl x6), (7, .inl x7), (8, .inl x8), (9, .inl x9), (10, .inl x10)] [] h := (EX_at bk_Mod_fullAt_109 _ _ _).trans rfl
theorem bk_Mod_fullAt_116 : blk 223 116 = some (((cd_Mod_fullAt.lookup 116).getD ([], 0, []))) := rfl
theorem Mod_fullAt_116 (d : Nat) (a0 : Nat) (x2 : Int) (x3 : Int) (y4 : Int) (x6 : Int) (x7 : Int) (x8 : Int) (x9 : Int) (x10 : Int) (x11 : Int) (h : Hp) : EX d 223 116 [(0, .inr (.inr a0)), (2, .inl x2), (3, .inl x3), (4, .inr (.inl y4)), (6, .inl x6), (7, .inl x7), (8, .inl x8), (9, .inl x9), (10, .inl x10), (11, .inl x11)] [] h = if sK h a0 = 11 then bak (EX d 223) 128 [(0, .inr (.inr a0)), (2, .inl x2), (3, .inl x3), (4, .inr (.inl y4)), (6, .inl x6), (7, .inl x7), (8, .inl x8), (9, .inl x9), (10, .inl x10), (11, .inl x11)] [] false (cal d 185 [.inr (.inr a0), .inl x6, .inl x7, .inl x10, .inl x11] h) else none := (EX_at bk_Mod_fullAt_116 _ _ _).trans rfl
theorem bk_Mod_fullAt_128 : blk 223 128 = some (((cd_Mod_fullAt.lookup 128).getD ([], 0, []))) := rfl
theorem Mod_fullAt_128 (d : Nat) (a0 : Nat) (x2 : Int) (x3 : Int) (y4 : Int) (x6 : Int) (x7 : Int) (x8 : Int) (x9 : Int) (x10 : Int) (x11 : Int) (s0 : Int) (h : Hp) : EX d 223 128 [(0, .inr (.inr a0)), (2, .inl x2), (3, .inl x3), (4, .inr (.inl y4)), (6, .inl x6), (7, .inl x7), (8, .inl x8), (9, .inl x9), (10, .inl x10), (11, .inl x11)] [.inl s0] h = if (wr s0) = 0 then EX d 223 131 [(0, .inr (.inr a0)), (2, .inl x2), (3, .inl x3), (4, .inr (.inl y4)), (6, .inl x6), (7, .inl x7), (8, .inl x8), (9, .inl x9), (10, .inl x10), (11, .inl x11)] [] h else EX d 223 134 [(0, .inr (.inr a0)), (2, .inl x2), (3, .inl x3), (4, .inr (.inl y4)), (6, .inl x6), (7, .inl x7), (8, .inl x8), (9, .inl x9), (10, .inl x10), (11, .inl x11)] [] h := (EX_at bk_Mod_fullAt_128 _ _ _).trans rfl
theorem bk_Mod_fullAt_131 : blk 223 131 = some (((cd_Mod_fullAt.lookup 131).getD ([], 0, []))) := rfl
theorem Mod_fullAt_131 (d : Nat) (a0 : Nat) (x2 : Int) (x3 : Int) (y4 : Int) (x6 : Int) (x7 : Int) (x8 : Int) (x9 : Int) (x10 : Int) (x11 : Int) (h : Hp) : EX d 223 131 [(0, .inr (.inr a0)), (2, .inl x2), (3, .inl x3), (4, .inr (.inl y4)), (6, .inl x6), (7, .inl x7), (8, .inl x8), (9, .inl x9), (10, .inl x10), (11, .inl x11)] [] h = EX d 223 186 [(0, .inr (.inr a0)), (2, .inl x2), (3, .inl x3), (4, .inr (.inl y4)), (6, .inl x6), (7, .inl x7), (8, .inl x8), (9, .inl x9), (10, .inl x10), (11, .inl x11)] [] h := (EX_at bk_Mod_fullAt_131 _ _ _).trans rfl
theorem bk_Mod_fullAt_134 : blk 223 134 = some (((cd_Mod_fullAt.lookup 134).getD ([], 0, []))) := rfl
theorem Mod_fullAt_134 (d : Nat) (a0 : Nat) (x2 : Int) (x3 : Int) (y4 : Int) (x6 : Int) (x7 : Int) (x8 : Int) (x9 : Int) (x10 : Int) (x11 : Int) (h : Hp) : EX d 223 134 [(0, .inr (.inr a0)), (2, .inl x2), (3, .inl x3), (4, .inr (.inl y4)), (6, .inl x6), (7, .inl x7), (8, .inl x8), (9, .inl x9), (10, .inl x10), (11, .inl x11)] [] h = if sK h a0 = 11 then bak (EX d 223) 150 [(0, .inr (.inr a0)), (2, .inl x2), (3, .inl x3), (4, .inr (.inl y4)), (6, .inl x6), (7, .inl x7), (8, .inl x8), (9, .inl x9), (10, .inl x10), (11, .inl x11)] [.inr (.inr (hR h a0 19)), .inr (.inl y4)] false (cal d 183 [.inl x10, .inl x11, .inl (x3 - 1)] h) else none := (EX_at bk_Mod_fullAt_134 _ _ _).trans rfl
theorem bk_Mod_fullAt_150 : blk 223 150 = some (((cd_Mod_fullAt.lookup 150).getD ([], 0, []))) := rfl
theorem Mod_fullAt_150 (d : Nat) (a0 : Nat) (x2 : Int) (x3 : Int) (y4 : Int) (x6 : Int) (x7 : Int) (x8 : Int) (x9 : Int) (x10 : Int) (x11 : Int) (t0 : Int) (r1 : Nat) (s2 : Int) (h : Hp) : EX d 223 150 [(0, .inr (.inr a0)), (2, .inl x2), (3, .inl x3), (4, .inr (.inl y4)), (6, .inl x6), (7, .inl x7), (8, .inl x8), (9, .inl x9), (10, .inl x10), (11, .inl x11)] [.inl s2, .inr (.inr r1), .inr (.inl t0)] h = if okx h r1 21 s2 then if (wr (lCmp t0 (hL h r1 (ix s2)))) < 0 then EX d 223 178 [(0, .inr (.inr a0)), (2, .inl x2), (3, .inl x3), (4, .inr (.inl y4)), (6, .inl x6), (7, .inl x7), (10, .inl x10), (11, .inl x11)] [] h else EX d 223 155 [(0, .inr (.inr a0)), (2, .inl x2), (3, .inl x3), (4, .inr (.inl y4)), (6, .inl x6), (7, .inl x7), (8, .inl x8), (9, .inl x9), (10, .inl x10), (11, .inl x11)] [] h else none := (EX_at bk_Mod_fullAt_150 _ _ _).trans rfl
theorem bk_Mod_fullAt_155 : blk 223 155 = some (((cd_Mod_fullAt.lookup 155).getD ([], 0, []))) := rfl
theorem Mod_fullAt_155 (d : Nat) (a0 : Nat) (x2 : Int) (x3 : Int) (y4 : Int) (x6 : Int) (x7 : Int) (x8 : Int) (x9 : Int) (x10 : Int) (x11 : Int) (h : Hp) : EX d 223 155 [(0, .inr (.inr a0)), (2, .inl x2), (3, .inl x3), (4, .inr (.inl y4)), (6, .inl x6), (7, .inl x7), (8, .inl x8), (9, .inl x9), (10, .inl x10), (11, .inl x11)] [] h = if sK h a0 = 11 then bak (EX d 223) 171 [(0, .inr (.inr a0)), (2, .inl x2), (3, .inl x3), (6, .inl x6), (7, .inl x7), (8, .inl x8), (9, .inl x9), (10, .inl x10), (11, .inl x11)] [.inr (.inr (hR h a0 19)), .inr (.inl y4)] false (cal d 183 [.inl x10, .inl x11, .inl (x3 - 1)] h) else none := (EX_at bk_Mod_fullAt_155 _ _ _).trans rfl
theorem bk_Mod_fullAt_171 : blk 223 171 = some (((cd_Mod_fullAt.lookup 171).getD ([], 0, []))) := rfl
theorem Mod_fullAt_171 (d : Nat) (a0 : Nat) (x2 : Int) (x3 : Int) (x6 : Int) (x7 : Int) (x8 : Int) (x9 : Int) (x10 : Int) (x11 : Int) (t0 : Int) (r1 : Nat) (s2 : Int) (h : Hp) : EX d 223 171 [(0, .inr (.inr a0)), (2, .inl x2), (3, .inl x3), (6, .inl x6), (7, .inl x7), (8, .inl x8), (9, .inl x9), (10, .inl x10), (11, .inl x11)] [.inl s2, .inr (.inr r1), .inr (.inl t0)] h = if okx h r1 21 s2 then EX d 223 186 [(0, .inr (.inr a0)), (2, .inl x2), (3, .inl x3), (4, .inr (.inl (t0 - (hL h r1 (ix s2))))), (6, .inl x6), (7, .inl x7), (8, .inl x8), (9, .inl x9), (10, .inl x10), (11, .inl x11)] [] h else none := (EX_at bk_Mod_fullAt_171 _ _ _).trans rfl
theorem bk_Mod_fullAt_178 : blk 223 178 = some (((cd_Mod_fullAt.lookup 178).getD ([], 0, []))) := rfl
theorem Mod_fullAt_178 (d : Nat) (a0 : Nat) (x2 : Int) (x3 : Int) (y4 : Int) (x6 : Int) (x7 : Int) (x10 : Int) (x11 : Int) (h : Hp) : EX d 223 178 [(0, .inr (.inr a0)), (2, .inl x2), (3, .inl x3), (4, .inr (.inl y4)), (6, .inl x6), (7, .inl x7), (10, .inl x10), (11, .inl x11)] [] h = EX d 223 186 [(0, .inr (.inr a0)), (2, .inl x2), (3, .inl x3), (4, .inr (.inl y4)), (6, .inl x6), (7, .inl x7), (8, .inl x10), (9, .inl x11), (10, .inl x10), (11, .inl x11)] [] h := (EX_at bk_Mod_fullAt_178 _ _ _).trans rfl
theorem bk_Mod_fullAt_186 : blk 223 186 = some (((cd_Mod_fullAt.lookup 186).getD ([], 0, []))) := rfl
theorem Mod_fullAt_186 (d : Nat) (a0 : Nat) (x2 : Int) (x3 : Int) (y4 : Int) (x6 : Int) (x7 : Int) (x8 : Int) (x9 : Int) (x10 : Int) (x11 : Int) (h : Hp) : EX d 223 186 [(0, .inr (.inr a0)), (2, .inl x2), (3, .inl x3), (4, .inr (.inl y4)), (6, .inl x6), (7, .inl x7), (8, .inl x8), (9, .inl x9), (10, .inl x10), (11, .inl x11)] [] h = EX d 223 98 [(0, .inr (.inr a0)), (2, .inl x2), (3, .inl x3), (4, .inr (.inl y4)), (6, .inl x6), (7, .inl x7), (8, .inl x8), (9, .inl x9), (10, .inl x10), (11, .inl (x11 + 1))] [] h := (EX_at bk_Mod_fullAt_186 _ _ _).trans rfl
theorem bk_Mod_fullAt_192 : blk 223 192 = some (((cd_Mod_fullAt.lookup 192).getD ([], 0, []))) := rfl
theorem Mod_fullAt_192 (d : Nat) (a0 : Nat) (x2 : Int) (x3 : Int) (y4 : Int) (x6 : Int) (x7 : Int) (x8 : Int) (x9 : Int) (x10 : Int) (h : Hp) : EX d 223 192 [(0, .inr (.inr a0)), (2, .inl x2), (3, .inl x3), (4, .inr (.inl y4)), (6, .inl x6), (7, .inl x7), (8, .inl x8), (9, .inl x9), (10, .inl x10)] [] h = EX d 223 74 [(0, .inr (.inr a0)), (2, .inl x2), (3, .inl x3), (4, .inr (.inl y4)), (6, .inl x6), (7, .inl x7), (8, .inl x8), (9, .inl x9), (10, .inl (x10 + 1))] [] h := (EX_at bk_Mod_fullAt_192 _ _ _).trans rfl
theorem bk_Mod_fullAt_198 : blk 223 198 = some (((cd_Mod_fullAt.lookup 198).getD ([], 0, []))) := rfl
theorem Mod_fullAt_198 (d : Nat) (a0 : Nat) (x2 : Int) (x3 : Int) (y4 : Int) (x8 : Int) (x9 : Int) (h : Hp) : EX d 223 198 [(0, .inr (.inr a0)), (2, .inl x2), (3, .inl x3), (4, .inr (.inl y4)), (8, .inl x8), (9, .inl x9)] [] h = if sK h a0 = 11 then if okx h (hR h a0 23) 20 x8 then EX d 223 215 [(0, .inr (.inr a0)), (2, .inl x2), (3, .inl x3), (4, .inr (.inl y4)), (6, .inl x8), (7, .inl x9)] [] (pI h (hR h a0 23) (ix x8) x9) else none else none := (EX_at bk_Mod_fullAt_198 _ _ _).trans rfl
theorem bk_Mod_fullAt_215 : blk 223 215 = some (((cd_Mod_fullAt.lookup 215).getD ([], 0, []))) := rfl
theorem Mod_fullAt_215 (d : Nat) (a0 : Nat) (x2 : Int) (x3 : Int) (y4 : Int) (x6 : Int) (x7 : Int) (h : Hp) : EX d 223 215 [(0, .inr (.inr a0)), (2, .inl x2), (3, .inl x3), (4, .inr (.inl y4)), (6, .inl x6), (7, .inl x7)] [] h = EX d 223 56 [(0, .inr (.inr a0)), (2, .inl x2), (3, .inl (x3 + (-1))), (4, .inr (.inl y4)), (6, .inl x6), (7, .inl x7)] [] h := (EX_at bk_Mod_fullAt_215 _ _ _).trans rfl
theorem bk_Mod_fullAt_221 : blk 223 221 = some (((cd_Mod_fullAt.lookup 221).getD ([], 0, []))) := rfl
theorem Mod_fullAt_221 (d : Nat) (a0 : Nat) (x2 : Int) (h : Hp) : EX d 223 221 [(0, .inr (.inr a0)), (2, .inl x2)] [] h = if sK h a0 = 11 then if okx h (hR h a0 23) 20 x2 then some (.inl (hI h (hR h a0 23) (ix x2)), h) else none else none := (EX_at bk_Mod_fullAt_221 _ _ _).trans rfl
/-! lookAt(IIIIZ)I of HookOverModel: method 230 -/
theorem bk_Mod_lookAt_0 : blk 230 0 = some (((cd_Mod_lookAt.lookup 0).getD ([], 0, []))) := rfl
theorem Mod_lookAt_0 (d : Nat) (a0 : Nat) (x1 : Int) (x2 : Int) (x3 : Int) (x4 : Int) (x5 : Int) (h : Hp) : EX d 230 0 [(0, .inr (.inr a0)), (1, .inl x1), (2, .inl x2), (3, .inl x3), (4, .inl x4), (5, .inl x5)] [] h = if (wr x5) = 0 then EX d 230 9 [(0, .inr (.inr a0)), (1, .inl x1), (2, .inl x2), (3, .inl x3), (4, .inl x4)] [] h else EX d 230 5 [(0, .inr (.inr a0)), (2, .inl x2), (3, .inl x3), (4, .inl x4)] [] h := (EX_at bk_Mod_lookAt_0 _ _ _).trans rfl
theorem bk_Mod_lookAt_5 : blk 230 5 = some (((cd_Mod_lookAt.lookup 5).getD ([], 0, []))) := rfl
theorem Mod_lookAt_5 (d : Nat) (a0 : Nat) (x2 : Int) (x3 : Int) (x4 : Int) (h : Hp) : EX d 230 5 [(0, .inr (.inr a0)), (2, .inl x2), (3, .inl x3), (4, .inl x4)] [] h = EX d 230 21 [(0, .inr (.inr a0)), (2, .inl x2), (3, .inl x3), (4, .inl x4)] [.inl 1] h := (EX_at bk_Mod_lookAt_5 _ _ _).trans rfl
theorem bk_Mod_lookAt_9 : blk 230 9 = some (((cd_Mod_lookAt.lookup 9).getD ([], 0, []))) := rfl
theorem Mod_lookAt_9 (d : Nat) (a0 : Nat) (x1 : Int) (x2 : Int) (x3 : Int) (x4 : Int) (h : Hp) : EX d 230 9 [(0, .inr (.inr a0)), (1, .inl x1), (2, .inl x2), (3, .inl x3), (4, .inl x4)] [] h = if sK h a0 = 11 then if okx h (hR h a0 35) 21 ((40 * x1) + x3) then EX d 230 21 [(0, .inr (.inr a0)), (2, .inl x2), (3, .inl x3), (4, .inl x4)] [.inl (hL h (hR h a0 35) (ix ((40 * x1) + x3)))] h else none else none := (EX_at bk_Mod_lookAt_9 _ _ _).trans rfl
theorem bk_Mod_lookAt_21 : blk 230 21 = some (((cd_Mod_lookAt.lookup 21).getD ([], 0, []))) := rfl
theorem Mod_lookAt_21 (d : Nat) (a0 : Nat) (x2 : Int) (x3 : Int) (x4 : Int) (s0 : Int) (h : Hp) : EX d 230 21 [(0, .inr (.inr a0)), (2, .inl x2), (3, .inl x3), (4, .inl x4)] [.inl s0] h = if sK h a0 = 11 then if okx h (hR h a0 29) 20 ((21 * x2) + x3) then if sK h a0 = 11 then if okx h (hR h a0 29) 20 ((21 * (x3 + 1)) + x4) then bak (EX d 230) 49 [] [.inl s0] false (cal d 213 [.inl (hI h (hR h a0 29) (ix ((21 * x2) + x3))), .inl (hI h (hR h a0 29) (ix ((21 * (x3 + 1)) + x4)))] h) else none else none else none else none := (EX_at bk_Mod_lookAt_21 _ _ _).trans rfl
theorem bk_Mod_lookAt_49 : blk 230 49 = some (((cd_Mod_lookAt.lookup 49).getD ([], 0, []))) := rfl
theorem Mod_lookAt_49 (d : Nat) (s0 : Int) (s1 : Int) (h : Hp) : EX d 230 49 [] [.inl s1, .inl s0] h = some (.inl (s0 + s1), h) := (EX_at bk_Mod_lookAt_49 _ _ _).trans rfl
/-! laysLooks(IZ)V of HookOverModel: method 231 -/
theorem bk_Mod_laysLooks_0 : blk 231 0 = some (((cd_Mod_laysLooks.lookup 0).getD ([], 0, []))) := rfl
theorem Mod_laysLooks_0 (d : Nat) (a0 : Nat) (x1 : Int) (x2 : Int) (h : Hp) : EX d 231 0 [(0, .inr (.inr a0)), (1, .inl x1), (2, .inl x2)] [] h = if sK h a0 = 11 then if okx h (hR h a0 34) 20 x1 then EX d 231 10 [(0, .inr (.inr a0)), (1, .inl x1), (2, .inl x2), (3, .inl (hI h (hR h a0 34) (ix x1))), (4, .inl 0)] [] h else none else none := (EX_at bk_Mod_laysLooks_0 _ _ _).trans rfl
theorem bk_Mod_laysLooks_10 : blk 231 10 = some (((cd_Mod_laysLooks.lookup 10).getD ([], 0, []))) := rfl
theorem Mod_laysLooks_10 (d : Nat) (a0 : Nat) (x1 : Int) (x2 : Int) (x3 : Int) (x4 : Int) (h : Hp) : EX d 231 10 [(0, .inr (.inr a0)), (1, .inl x1), (2, .inl x2), (3, .inl x3), (4, .inl x4)] [] h = if (wr x3) < (wr x4) then EX d 231 129 [] [] h else EX d 231 16 [(0, .inr (.inr a0)), (1, .inl x1), (2, .inl x2), (3, .inl x3), (4, .inl x4)] [] h := (EX_at bk_Mod_laysLooks_10 _ _ _).trans rfl
theorem bk_Mod_laysLooks_16 : blk 231 16 = some (((cd_Mod_laysLooks.lookup 16).getD ([], 0, []))) := rfl
theorem Mod_laysLooks_16 (d : Nat) (a0 : Nat) (x1 : Int) (x2 : Int) (x3 : Int) (x4 : Int) (h : Hp) : EX d 231 16 [(0, .inr (.inr a0)), (1, .inl x1), (2, .inl x2), (3, .inl x3), (4, .inl x4)] [] h = EX d 231 19 [(0, .inr (.inr a0)), (1, .inl x1), (2, .inl x2), (3, .inl x3), (4, .inl x4), (5, .inl 0)] [] h := (EX_at bk_Mod_laysLooks_16 _ _ _).trans rfl
theorem bk_Mod_laysLooks_19 : blk 231 19 = some (((cd_Mod_laysLooks.lookup 19).getD ([], 0, []))) := rfl
theorem Mod_laysLooks_19 (d : Nat) (a0 : Nat) (x1 : Int) (x2 : Int) (x3 : Int) (x4 : Int) (x5 : Int) (h : Hp) : EX d 231 19 [(0, .inr (.inr a0)), (1, .inl x1), (2, .inl x2), (3, .inl x3), (4, .inl x4), (5, .inl x5)] [] h = if (wr x3) < (wr (x5 + x4)) then EX d 231 123 [(0, .inr (.inr a0)), (1, .inl x1), (2, .inl x2), (3, .inl x3), (4, .inl x4)] [] h else EX d 231 28 [(0, .inr (.inr a0)), (1, .inl x1), (2, .inl x2), (3, .inl x3), (4, .inl x4), (5, .inl x5)] [] h := (EX_at bk_Mod_laysLooks_19 _ _ _).trans rfl
theorem bk_Mod_laysLooks_28 : blk 231 28 = some (((cd_Mod_laysLooks.lookup 28).getD ([], 0, []))) := rfl
theorem Mod_laysLooks_28 (d : Nat) (a0 : Nat) (x1 : Int) (x2 : Int) (x3 : Int) (x4 : Int) (x5 : Int) (h : Hp) : EX d 231 28 [(0, .inr (.inr a0)), (1, .inl x1), (2, .inl x2), (3, .inl x3), (4, .inl x4), (5, .inl x5)] [] h = if (wr x4) = 0 then EX d 231 33 [(0, .inr (.inr a0)), (1, .inl x1), (2, .inl x2), (3, .inl x3), (4, .inl x4), (5, .inl x5)] [] h else EX d 231 37 [(0, .inr (.inr a0)), (1, .inl x1), (2, .inl x2), (3, .inl x3), (4, .inl x4), (5, .inl x5)] [] h := (EX_at bk_Mod_laysLooks_28 _ _ _).trans rfl
theorem bk_Mod_laysLooks_33 : blk 231 33 = some (((cd_Mod_laysLooks.lookup 33).getD ([], 0, []))) := rfl
theorem Mod_laysLooks_33 (d : Nat) (a0 : Nat) (x1 : Int) (x2 : Int) (x3 : Int) (x4 : Int) (x5 : Int) (h : Hp) : EX d 231 33 [(0, .inr (.inr a0)), (1, .inl x1), (2, .inl x2), (3, .inl x3), (4, .inl x4), (5, .inl x5)] [] h = EX d 231 38 [(0, .inr (.inr a0)), (1, .inl x1), (2, .inl x2), (3, .inl x3), (4, .inl x4), (5, .inl x5)] [.inl 0] h := (EX_at bk_Mod_laysLooks_33 _ _ _).trans rfl
theorem bk_Mod_laysLooks_37 : blk 231 37 = some (((cd_Mod_laysLooks.lookup 37).getD ([], 0, []))) := rfl
theorem Mod_laysLooks_37 (d : Nat) (a0 : Nat) (x1 : Int) (x2 : Int) (x3 : Int) (x4 : Int) (x5 : Int) (h : Hp) : EX d 231 37 [(0, .inr (.inr a0)), (1, .inl x1), (2, .inl x2), (3, .inl x3), (4, .inl x4), (5, .inl x5)] [] h = EX d 231 38 [(0, .inr (.inr a0)), (1, .inl x1), (2, .inl x2), (3, .inl x3), (4, .inl x4), (5, .inl x5)] [.inl (-1)] h := (EX_at bk_Mod_laysLooks_37 _ _ _).trans rfl
theorem bk_Mod_laysLooks_38 : blk 231 38 = some (((cd_Mod_laysLooks.lookup 38).getD ([], 0, []))) := rfl
theorem Mod_laysLooks_38 (d : Nat) (a0 : Nat) (x1 : Int) (x2 : Int) (x3 : Int) (x4 : Int) (x5 : Int) (s0 : Int) (h : Hp) : EX d 231 38 [(0, .inr (.inr a0)), (1, .inl x1), (2, .inl x2), (3, .inl x3), (4, .inl x4), (5, .inl x5)] [.inl s0] h = EX d 231 44 [(0, .inr (.inr a0)), (1, .inl x1), (2, .inl x2), (3, .inl x3), (4, .inl x4), (5, .inl x5), (6, .inl s0), (7, .inl x5)] [] h := (EX_at bk_Mod_laysLooks_38 _ _ _).trans rfl
theorem bk_Mod_laysLooks_44 : blk 231 44 = some (((cd_Mod_laysLooks.lookup 44).getD ([], 0, []))) := rfl
theorem Mod_laysLooks_44 (d : Nat) (a0 : Nat) (x1 : Int) (x2 : Int) (x3 : Int) (x4 : Int) (x5 : Int) (x6 : Int) (x7 : Int) (h : Hp) : EX d 231 44 [(0, .inr (.inr a0)), (1, .inl x1), (2, .inl x2), (3, .inl x3), (4, .inl x4), (5, .inl x5), (6, .inl x6), (7, .inl x7)] [] h = if (wr x7) < (wr (x5 + x4)) then EX d 231 54 [(0, .inr (.inr a0)), (1, .inl x1), (2, .inl x2), (3, .inl x3), (4, .inl x4), (5, .inl x5), (6, .inl x6), (7, .inl x7)] [] h else EX d 231 99 [(0, .inr (.inr a0)), (1, .inl x1), (2, .inl x2), (3, .inl x3), (4, .inl x4), (5, .inl x5), (6, .inl x6)] [] h := (EX_at bk_Mod_laysLooks_44 _ _ _).trans rfl
theorem bk_Mod_laysLooks_54 : blk 231 54 = some (((cd_Mod_laysLooks.lookup 54).getD ([], 0, []))) := rfl
theorem Mod_laysLooks_54 (d : Nat) (a0 : Nat) (x1 : Int) (x2 : Int) (x3 : Int) (x4 : Int) (x5 : Int) (x6 : Int) (x7 : Int) (h : Hp) : EX d 231 54 [(0, .inr (.inr a0)), (1, .inl x1), (2, .inl x2), (3, .inl x3), (4, .inl x4), (5, .inl x5), (6, .inl x6), (7, .inl x7)] [] h = if sK h a0 = 11 then bak (EX d 231) 69 [(0, .inr (.inr a0)), (1, .inl x1), (2, .inl x2), (3, .inl x3), (4, .inl x4), (5, .inl x5), (6, .inl x6), (7, .inl x7)] [] false (cal d 230 [.inr (.inr a0), .inl x1, .inl x5, .inl x7, .inl (x5 + x4), .inl x2] h) else none := (EX_at bk_Mod_laysLooks_54 _ _ _).trans rfl
theorem bk_Mod_laysLooks_69 : blk 231 69 = some (((cd_Mod_laysLooks.lookup 69).getD ([], 0, []))) := rfl
theorem Mod_laysLooks_69 (d : Nat) (a0 : Nat) (x1 : Int) (x2 : Int) (x3 : Int) (x4 : Int) (x5 : Int) (x6 : Int) (x7 : Int) (s0 : Int) (h : Hp) : EX d 231 69 [(0, .inr (.inr a0)), (1, .inl x1), (2, .inl x2), (3, .inl x3), (4, .inl x4), (5, .inl x5), (6, .inl x6), (7, .inl x7)] [.inl s0] h = if (wr x6) = (-1) then EX d 231 84 [(0, .inr (.inr a0)), (1, .inl x1), (2, .inl x2), (3, .inl x3), (4, .inl x4), (5, .inl x5), (7, .inl x7), (8, .inl s0)] [] h else EX d 231 77 [(0, .inr (.inr a0)), (1, .inl x1), (2, .inl x2), (3, .inl x3), (4, .inl x4), (5, .inl x5), (6, .inl x6), (7, .inl x7), (8, .inl s0)] [] h := (EX_at bk_Mod_laysLooks_69 _ _ _).trans rfl
theorem bk_Mod_laysLooks_77 : blk 231 77 = some (((cd_Mod_laysLooks.lookup 77).getD ([], 0, []))) := rfl
theorem Mod_laysLooks_77 (d : Nat) (a0 : Nat) (x1 : Int) (x2 : Int) (x3 : Int) (x4 : Int) (x5 : Int) (x6 : Int) (x7 : Int) (x8 : Int) (h : Hp) : EX d 231 77 [(0, .inr (.inr a0)), (1, .inl x1), (2, .inl x2), (3, .inl x3), (4, .inl x4), (5, .inl x5), (6, .inl x6), (7, .inl x7), (8, .inl x8)] [] h = if (wr x8) < (wr x6) then EX d 231 84 [(0, .inr (.inr a0)), (1, .inl x1), (2, .inl x2), (3, .inl x3), (4, .inl x4), (5, .inl x5), (7, .inl x7), (8, .inl x8)] [] h else EX d 231 89 [(0, .inr (.inr a0)), (1, .inl x1), (2, .inl x2), (3, .inl x3), (4, .inl x4), (5, .inl x5), (6, .inl x6), (7, .inl x7)] [] h := (EX_at bk_Mod_laysLooks_77 _ _ _).trans rfl
theorem bk_Mod_laysLooks_84 : blk 231 84 = some (((cd_Mod_laysLooks.lookup 84).getD ([], 0, []))) := rfl
theorem Mod_laysLooks_84 (d : Nat) (a0 : Nat) (x1 : Int) (x2 : Int) (x3 : Int) (x4 : Int) (x5 : Int) (x7 : Int) (x8 : Int) (h : Hp) : EX d 231 84 [(0, .inr (.inr a0)), (1, .inl x1), (2, .inl x2), (3, .inl x3), (4, .inl x4), (5, .inl x5), (7, .inl x7), (8, .inl x8)] [] h = EX d 231 91 [(0, .inr (.inr a0)), (1, .inl x1), (2, .inl x2), (3, .inl x3), (4, .inl x4), (5, .inl x5), (7, .inl x7)] [.inl x8] h := (EX_at bk_Mod_laysLooks_84 _ _ _).trans rfl
theorem bk_Mod_laysLooks_89 : blk 231 89 = some (((cd_Mod_laysLooks.lookup 89).getD ([], 0, []))) := rfl
theorem Mod_laysLooks_89 (d : Nat) (a0 : Nat) (x1 : Int) (x2 : Int) (x3 : Int) (x4 : Int) (x5 : Int) (x6 : Int) (x7 : Int) (h : Hp) : EX d 231 89 [(0, .inr (.inr a0)), (1, .inl x1), (2, .inl x2), (3, .inl x3), (4, .inl x4), (5, .inl x5), (6, .inl x6), (7, .inl x7)] [] h = EX d 231 91 [(0, .inr (.inr a0)), (1, .inl x1), (2, .inl x2), (3, .inl x3), (4, .inl x4), (5, .inl x5), (7, .inl x7)] [.inl x6] h := (EX_at bk_Mod_laysLooks_89 _ _ _).trans rfl
theorem bk_Mod_laysLooks_91 : blk 231 91 = some (((cd_Mod_laysLooks.lookup 91).getD ([], 0, []))) := rfl
theorem Mod_laysLooks_91 (d : Nat) (a0 : Nat) (x1 : Int) (x2 : Int) (x3 : Int) (x4 : Int) (x5 : Int) (x7 : Int) (s0 : Int) (h : Hp) : EX d 231 91 [(0, .inr (.inr a0)), (1, .inl x1), (2, .inl x2), (3, .inl x3), (4, .inl x4), (5, .inl x5), (7, .inl x7)] [.inl s0] h = EX d 231 44 [(0, .inr (.inr a0)), (1, .inl x1), (2, .inl x2), (3, .inl x3), (4, .inl x4), (5, .inl x5), (6, .inl s0), (7, .inl (x7 + 1))] [] h := (EX_at bk_Mod_laysLooks_91 _ _ _).trans rfl
theorem bk_Mod_laysLooks_99 : blk 231 99 = some (((cd_Mod_laysLooks.lookup 99).getD ([], 0, []))) := rfl
theorem Mod_laysLooks_99 (d : Nat) (a0 : Nat) (x1 : Int) (x2 : Int) (x3 : Int) (x4 : Int) (x5 : Int) (x6 : Int) (h : Hp) : EX d 231 99 [(0, .inr (.inr a0)), (1, .inl x1), (2, .inl x2), (3, .inl x3), (4, .inl x4), (5, .inl x5), (6, .inl x6)] [] h = if sK h a0 = 11 then if okx h (hR h a0 29) 20 (((21 * x5) + x5) + x4) then EX d 231 117 [(0, .inr (.inr a0)), (1, .inl x1), (2, .inl x2), (3, .inl x3), (4, .inl x4), (5, .inl x5)] [] (pI h (hR h a0 29) (ix (((21 * x5) + x5) + x4)) x6) else none else none := (EX_at bk_Mod_laysLooks_99 _ _ _).trans rfl
theorem bk_Mod_laysLooks_117 : blk 231 117 = some (((cd_Mod_laysLooks.lookup 117).getD ([], 0, []))) := rfl
theorem Mod_laysLooks_117 (d : Nat) (a0 : Nat) (x1 : Int) (x2 : Int) (x3 : Int) (x4 : Int) (x5 : Int) (h : Hp) : EX d 231 117 [(0, .inr (.inr a0)), (1, .inl x1), (2, .inl x2), (3, .inl x3), (4, .inl x4), (5, .inl x5)] [] h = EX d 231 19 [(0, .inr (.inr a0)), (1, .inl x1), (2, .inl x2), (3, .inl x3), (4, .inl x4), (5, .inl (x5 + 1))] [] h := (EX_at bk_Mod_laysLooks_117 _ _ _).trans rfl
theorem bk_Mod_laysLooks_123 : blk 231 123 = some (((cd_Mod_laysLooks.lookup 123).getD ([], 0, []))) := rfl
theorem Mod_laysLooks_123 (d : Nat) (a0 : Nat) (x1 : Int) (x2 : Int) (x3 : Int) (x4 : Int) (h : Hp) : EX d 231 123 [(0, .inr (.inr a0)), (1, .inl x1), (2, .inl x2), (3, .inl x3), (4, .inl x4)] [] h = EX d 231 10 [(0, .inr (.inr a0)), (1, .inl x1), (2, .inl x2), (3, .inl x3), (4, .inl (x4 + 1))] [] h := (EX_at bk_Mod_laysLooks_123 _ _ _).trans rfl
theorem bk_Mod_laysLooks_129 : blk 231 129 = some (((cd_Mod_laysLooks.lookup 129).getD ([], 0, []))) := rfl
theorem Mod_laysLooks_129 (d : Nat) (h : Hp) : EX d 231 129 [] [] h = some (.inl 0, h) := (EX_at bk_Mod_laysLooks_129 _ _ _).trans rfl
/-! looks(II)I of HookOverModel: method 232 -/
theorem bk_Mod_looks_0 : blk 232 0 = some (((cd_Mod_looks.lookup 0).getD ([], 0, []))) := rfl
theorem Mod_looks_0 (d : Nat) (a0 : Nat) (x1 : Int) (x2 : Int) (h : Hp) : EX d 232 0 [(0, .inr (.inr a0)), (1, .inl x1), (2, .inl x2)] [] h = if sK h a0 = 11 then EX d 232 5 [(0, .inr (.inr a0)), (1, .inl x1), (2, .inl x2)] [] (pI h a0 0 0) else none := (EX_at bk_Mod_looks_0 _ _ _).trans rfl
theorem bk_Mod_looks_5 : blk 232 5 = some (((cd_Mod_looks.lookup 5).getD ([], 0, []))) := rfl
theorem Mod_looks_5 (d : Nat) (a0 : Nat) (x1 : Int) (x2 : Int) (h : Hp) : EX d 232 5 [(0, .inr (.inr a0)), (1, .inl x1), (2, .inl x2)] [] h = bak (EX d 232) 14 [(0, .inr (.inr a0)), (1, .inl x1), (2, .inl x2)] [] false (cal d 71 [.inr (.inl (wr x2)), .inr (.inl 0), .inr (.inl 2)] h) := (EX_at bk_Mod_looks_5 _ _ _).trans rfl
theorem bk_Mod_looks_14 : blk 232 14 = some (((cd_Mod_looks.lookup 14).getD ([], 0, []))) := rfl
theorem Mod_looks_14 (d : Nat) (a0 : Nat) (x1 : Int) (x2 : Int) (s0 : Int) (h : Hp) : EX d 232 14 [(0, .inr (.inr a0)), (1, .inl x1), (2, .inl x2)] [.inl s0] h = if (wr s0) = 0 then EX d 232 17 [] [] h else EX d 232 20 [(0, .inr (.inr a0)), (1, .inl x1), (2, .inl x2)] [] h := (EX_at bk_Mod_looks_14 _ _ _).trans rfl
theorem bk_Mod_looks_17 : blk 232 17 = some (((cd_Mod_looks.lookup 17).getD ([], 0, []))) := rfl
theorem Mod_looks_17 (d : Nat) (h : Hp) : EX d 232 17 [] [] h = some (.inl (-2), h) := (EX_at bk_Mod_looks_17 _ _ _).trans rfl
theorem bk_Mod_looks_20 : blk 232 20 = some (((cd_Mod_looks.lookup 20).getD ([], 0, []))) := rfl
theorem Mod_looks_20 (d : Nat) (a0 : Nat) (x1 : Int) (x2 : Int) (h : Hp) : EX d 232 20 [(0, .inr (.inr a0)), (1, .inl x1), (2, .inl x2)] [] h = if sK h a0 = 11 then bak (EX d 232) 25 [(0, .inr (.inr a0)), (1, .inl x1), (2, .inl x2)] [] false (cal d 162 [.inr (.inr a0), .inl x1] h) else none := (EX_at bk_Mod_looks_20 _ _ _).trans rfl
theorem bk_Mod_looks_25 : blk 232 25 = some (((cd_Mod_looks.lookup 25).getD ([], 0, []))) := rfl
theorem Mod_looks_25 (d : Nat) (a0 : Nat) (x1 : Int) (x2 : Int) (s0 : Int) (h : Hp) : EX d 232 25 [(0, .inr (.inr a0)), (1, .inl x1), (2, .inl x2)] [.inl s0] h = if (wr s0) = 0 then EX d 232 32 [(0, .inr (.inr a0)), (1, .inl x1), (2, .inl x2)] [] h else EX d 232 30 [(3, .inl s0)] [] h := (EX_at bk_Mod_looks_25 _ _ _).trans rfl
theorem bk_Mod_looks_30 : blk 232 30 = some (((cd_Mod_looks.lookup 30).getD ([], 0, []))) := rfl
theorem Mod_looks_30 (d : Nat) (x3 : Int) (h : Hp) : EX d 232 30 [(3, .inl x3)] [] h = some (.inl x3, h) := (EX_at bk_Mod_looks_30 _ _ _).trans rfl
theorem bk_Mod_looks_32 : blk 232 32 = some (((cd_Mod_looks.lookup 32).getD ([], 0, []))) := rfl
theorem Mod_looks_32 (d : Nat) (a0 : Nat) (x1 : Int) (x2 : Int) (h : Hp) : EX d 232 32 [(0, .inr (.inr a0)), (1, .inl x1), (2, .inl x2)] [] h = if sK h a0 = 11 then if okx h (hR h a0 34) 20 x1 then bak (EX d 232) 50 [(0, .inr (.inr a0)), (1, .inl x1), (2, .inl x2), (4, .inl (hI h (hR h a0 34) (ix x1)))] [] false (cal d 71 [.inr (.inl (wr (hI h (hR h a0 34) (ix x1)))), .inr (.inl 1), .inr (.inl 20)] h) else none else none := (EX_at bk_Mod_looks_32 _ _ _).trans rfl
theorem bk_Mod_looks_50 : blk 232 50 = some (((cd_Mod_looks.lookup 50).getD ([], 0, []))) := rfl
theorem Mod_looks_50 (d : Nat) (a0 : Nat) (x1 : Int) (x2 : Int) (x4 : Int) (s0 : Int) (h : Hp) : EX d 232 50 [(0, .inr (.inr a0)), (1, .inl x1), (2, .inl x2), (4, .inl x4)] [.inl s0] h = if (wr s0) = 0 then EX d 232 53 [] [] h else EX d 232 56 [(0, .inr (.inr a0)), (1, .inl x1), (2, .inl x2), (4, .inl x4)] [] h := (EX_at bk_Mod_looks_50 _ _ _).trans rfl
theorem bk_Mod_looks_53 : blk 232 53 = some (((cd_Mod_looks.lookup 53).getD ([], 0, []))) := rfl
theorem Mod_looks_53 (d : Nat) (h : Hp) : EX d 232 53 [] [] h = some (.inl (-4), h) := (EX_at bk_Mod_looks_53 _ _ _).trans rfl
theorem bk_Mod_looks_56 : blk 232 56 = some (((cd_Mod_looks.lookup 56).getD ([], 0, []))) := rfl
theorem Mod_looks_56 (d : Nat) (a0 : Nat) (x1 : Int) (x2 : Int) (x4 : Int) (h : Hp) : EX d 232 56 [(0, .inr (.inr a0)), (1, .inl x1), (2, .inl x2), (4, .inl x4)] [] h = EX d 232 59 [(0, .inr (.inr a0)), (1, .inl x1), (2, .inl x2), (4, .inl x4), (5, .inl 0)] [] h := (EX_at bk_Mod_looks_56 _ _ _).trans rfl
theorem bk_Mod_looks_59 : blk 232 59 = some (((cd_Mod_looks.lookup 59).getD ([], 0, []))) := rfl
theorem Mod_looks_59 (d : Nat) (a0 : Nat) (x1 : Int) (x2 : Int) (x4 : Int) (x5 : Int) (h : Hp) : EX d 232 59 [(0, .inr (.inr a0)), (1, .inl x1), (2, .inl x2), (4, .inl x4), (5, .inl x5)] [] h = if (wr x5) < (wr x4) then EX d 232 66 [(0, .inr (.inr a0)), (1, .inl x1), (2, .inl x2), (4, .inl x4), (5, .inl x5)] [] h else EX d 232 97 [(0, .inr (.inr a0)), (1, .inl x1), (2, .inl x2), (4, .inl x4)] [] h := (EX_at bk_Mod_looks_59 _ _ _).trans rfl
theorem bk_Mod_looks_66 : blk 232 66 = some (((cd_Mod_looks.lookup 66).getD ([], 0, []))) := rfl
theorem Mod_looks_66 (d : Nat) (a0 : Nat) (x1 : Int) (x2 : Int) (x4 : Int) (x5 : Int) (h : Hp) : EX d 232 66 [(0, .inr (.inr a0)), (1, .inl x1), (2, .inl x2), (4, .inl x4), (5, .inl x5)] [] h = if sK h a0 = 11 then if okx h (hR h a0 35) 21 ((40 * x1) + x5) then bak (EX d 232) 85 [(0, .inr (.inr a0)), (1, .inl x1), (2, .inl x2), (4, .inl x4), (5, .inl x5)] [] false (cal d 71 [.inr (.inl (hL h (hR h a0 35) (ix ((40 * x1) + x5)))), .inr (.inl 0), .inr (.inl 999)] h) else none else none := (EX_at bk_Mod_looks_66 _ _ _).trans rfl
theorem bk_Mod_looks_85 : blk 232 85 = some (((cd_Mod_looks.lookup 85).getD ([], 0, []))) := rfl
theorem Mod_looks_85 (d : Nat) (a0 : Nat) (x1 : Int) (x2 : Int) (x4 : Int) (x5 : Int) (s0 : Int) (h : Hp) : EX d 232 85 [(0, .inr (.inr a0)), (1, .inl x1), (2, .inl x2), (4, .inl x4), (5, .inl x5)] [.inl s0] h = if (wr s0) = 0 then EX d 232 88 [] [] h else EX d 232 91 [(0, .inr (.inr a0)), (1, .inl x1), (2, .inl x2), (4, .inl x4), (5, .inl x5)] [] h := (EX_at bk_Mod_looks_85 _ _ _).trans rfl
theorem bk_Mod_looks_88 : blk 232 88 = some (((cd_Mod_looks.lookup 88).getD ([], 0, []))) := rfl
theorem Mod_looks_88 (d : Nat) (h : Hp) : EX d 232 88 [] [] h = some (.inl (-3), h) := (EX_at bk_Mod_looks_88 _ _ _).trans rfl
theorem bk_Mod_looks_91 : blk 232 91 = some (((cd_Mod_looks.lookup 91).getD ([], 0, []))) := rfl
theorem Mod_looks_91 (d : Nat) (a0 : Nat) (x1 : Int) (x2 : Int) (x4 : Int) (x5 : Int) (h : Hp) : EX d 232 91 [(0, .inr (.inr a0)), (1, .inl x1), (2, .inl x2), (4, .inl x4), (5, .inl x5)] [] h = EX d 232 59 [(0, .inr (.inr a0)), (1, .inl x1), (2, .inl x2), (4, .inl x4), (5, .inl (x5 + 1))] [] h := (EX_at bk_Mod_looks_91 _ _ _).trans rfl
theorem bk_Mod_looks_97 : blk 232 97 = some (((cd_Mod_looks.lookup 97).getD ([], 0, []))) := rfl
theorem Mod_looks_97 (d : Nat) (a0 : Nat) (x1 : Int) (x2 : Int) (x4 : Int) (h : Hp) : EX d 232 97 [(0, .inr (.inr a0)), (1, .inl x1), (2, .inl x2), (4, .inl x4)] [] h = if (wr x2) = 2 then EX d 232 104 [(0, .inr (.inr a0)), (1, .inl x1), (2, .inl x2), (4, .inl x4)] [.inl x1, .inr (.inr a0)] h else EX d 232 108 [(0, .inr (.inr a0)), (1, .inl x1), (2, .inl x2), (4, .inl x4)] [.inl x1, .inr (.inr a0)] h := (EX_at bk_Mod_looks_97 _ _ _).trans rfl
theorem bk_Mod_looks_104 : blk 232 104 = some (((cd_Mod_looks.lookup 104).getD ([], 0, []))) := rfl
theorem Mod_looks_104 (d : Nat) (a0 : Nat) (x1 : Int) (x2 : Int) (x4 : Int) (r0 : Nat) (s1 : Int) (h : Hp) : EX d 232 104 [(0, .inr (.inr a0)), (1, .inl x1), (2, .inl x2), (4, .inl x4)] [.inl s1, .inr (.inr r0)] h = EX d 232 109 [(0, .inr (.inr a0)), (1, .inl x1), (2, .inl x2), (4, .inl x4)] [.inl 1, .inl s1, .inr (.inr r0)] h := (EX_at bk_Mod_looks_104 _ _ _).trans rfl
theorem bk_Mod_looks_108 : blk 232 108 = some (((cd_Mod_looks.lookup 108).getD ([], 0, []))) := rfl
theorem Mod_looks_108 (d : Nat) (a0 : Nat) (x1 : Int) (x2 : Int) (x4 : Int) (r0 : Nat) (s1 : Int) (h : Hp) : EX d 232 108 [(0, .inr (.inr a0)), (1, .inl x1), (2, .inl x2), (4, .inl x4)] [.inl s1, .inr (.inr r0)] h = EX d 232 109 [(0, .inr (.inr a0)), (1, .inl x1), (2, .inl x2), (4, .inl x4)] [.inl 0, .inl s1, .inr (.inr r0)] h := (EX_at bk_Mod_looks_108 _ _ _).trans rfl
theorem bk_Mod_looks_109 : blk 232 109 = some (((cd_Mod_looks.lookup 109).getD ([], 0, []))) := rfl
theorem Mod_looks_109 (d : Nat) (a0 : Nat) (x1 : Int) (x2 : Int) (x4 : Int) (r0 : Nat) (s1 : Int) (s2 : Int) (h : Hp) : EX d 232 109 [(0, .inr (.inr a0)), (1, .inl x1), (2, .inl x2), (4, .inl x4)] [.inl s2, .inl s1, .inr (.inr r0)] h = if sK h r0 = 11 then bak (EX d 232) 112 [(0, .inr (.inr a0)), (1, .inl x1), (2, .inl x2), (4, .inl x4)] [] true (cal d 231 [.inr (.inr r0), .inl s1, .inl s2] h) else none := (EX_at bk_Mod_looks_109 _ _ _).trans rfl
theorem bk_Mod_looks_112 : blk 232 112 = some (((cd_Mod_looks.lookup 112).getD ([], 0, []))) := rfl
theorem Mod_looks_112 (d : Nat) (a0 : Nat) (x1 : Int) (x2 : Int) (x4 : Int) (h : Hp) : EX d 232 112 [(0, .inr (.inr a0)), (1, .inl x1), (2, .inl x2), (4, .inl x4)] [] h = if sK h a0 = 11 then if okx h (hR h a0 29) 20 x4 then if (wr x2) = 1 then EX d 232 129 [(0, .inr (.inr a0)), (1, .inl x1), (4, .inl x4), (5, .inl (hI h (hR h a0 29) (ix x4)))] [] h else EX d 232 126 [(5, .inl (hI h (hR h a0 29) (ix x4)))] [] h else none else none := (EX_at bk_Mod_looks_112 _ _ _).trans rfl
theorem bk_Mod_looks_126 : blk 232 126 = some (((cd_Mod_looks.lookup 126).getD ([], 0, []))) := rfl
theorem Mod_looks_126 (d : Nat) (x5 : Int) (h : Hp) : EX d 232 126 [(5, .inl x5)] [] h = some (.inl x5, h) := (EX_at bk_Mod_looks_126 _ _ _).trans rfl
theorem bk_Mod_looks_129 : blk 232 129 = some (((cd_Mod_looks.lookup 129).getD ([], 0, []))) := rfl
theorem Mod_looks_129 (d : Nat) (a0 : Nat) (x1 : Int) (x4 : Int) (x5 : Int) (h : Hp) : EX d 232 129 [(0, .inr (.inr a0)), (1, .inl x1), (4, .inl x4), (5, .inl x5)] [] h = EX d 232 132 [(0, .inr (.inr a0)), (1, .inl x1), (4, .inl x4), (5, .inl x5), (6, .inl 0)] [] h := (EX_at bk_Mod_looks_129 _ _ _).trans rfl
theorem bk_Mod_looks_132 : blk 232 132 = some (((cd_Mod_looks.lookup 132).getD ([], 0, []))) := rfl
theorem Mod_looks_132 (d : Nat) (a0 : Nat) (x1 : Int) (x4 : Int) (x5 : Int) (x6 : Int) (h : Hp) : EX d 232 132 [(0, .inr (.inr a0)), (1, .inl x1), (4, .inl x4), (5, .inl x5), (6, .inl x6)] [] h = if sK h a0 = 11 then bak (EX d 232) 143 [(0, .inr (.inr a0)), (1, .inl x1), (4, .inl x4), (5, .inl x5), (6, .inl x6)] [] false (cal d 230 [.inr (.inr a0), .inl x1, .inl 0, .inl x6, .inl x4, .inl 0] h) else none := (EX_at bk_Mod_looks_132 _ _ _).trans rfl
theorem bk_Mod_looks_143 : blk 232 143 = some (((cd_Mod_looks.lookup 143).getD ([], 0, []))) := rfl
theorem Mod_looks_143 (d : Nat) (a0 : Nat) (x1 : Int) (x4 : Int) (x5 : Int) (x6 : Int) (s0 : Int) (h : Hp) : EX d 232 143 [(0, .inr (.inr a0)), (1, .inl x1), (4, .inl x4), (5, .inl x5), (6, .inl x6)] [.inl s0] h = if (wr s0) = (wr x5) then EX d 232 154 [(6, .inl x6)] [] h else EX d 232 148 [(0, .inr (.inr a0)), (1, .inl x1), (4, .inl x4), (5, .inl x5), (6, .inl x6)] [] h := (EX_at bk_Mod_looks_143 _ _ _).trans rfl
theorem bk_Mod_looks_148 : blk 232 148 = some (((cd_Mod_looks.lookup 148).getD ([], 0, []))) := rfl
theorem Mod_looks_148 (d : Nat) (a0 : Nat) (x1 : Int) (x4 : Int) (x5 : Int) (x6 : Int) (h : Hp) : EX d 232 148 [(0, .inr (.inr a0)), (1, .inl x1), (4, .inl x4), (5, .inl x5), (6, .inl x6)] [] h = EX d 232 132 [(0, .inr (.inr a0)), (1, .inl x1), (4, .inl x4), (5, .inl x5), (6, .inl (x6 + 1))] [] h := (EX_at bk_Mod_looks_148 _ _ _).trans rfl
theorem bk_Mod_looks_154 : blk 232 154 = some (((cd_Mod_looks.lookup 154).getD ([], 0, []))) := rfl
theorem Mod_looks_154 (d : Nat) (x6 : Int) (h : Hp) : EX d 232 154 [(6, .inl x6)] [] h = some (.inl x6, h) := (EX_at bk_Mod_looks_154 _ _ _).trans rfl
/-! goesRound(IIIII)V of HookOverModel: method 239 -/
theorem bk_Mod_goesRound_0 : blk 239 0 = some (((cd_Mod_goesRound.lookup 0).getD ([], 0, []))) := rfl
theorem Mod_goesRound_0 (d : Nat) (a0 : Nat) (x1 : Int) (x2 : Int) (x3 : Int) (x4 : Int) (x5 : Int) (h : Hp) : EX d 239 0 [(0, .inr (.inr a0)), (1, .inl x1), (2, .inl x2), (3, .inl x3), (4, .inl x4), (5, .inl x5)] [] h = if sK h a0 = 11 then if okx h (hR h a0 34) 20 x1 then if (wr x2) = (wr (hI h (hR h a0 34) (ix x1))) then EX d 239 10 [(0, .inr (.inr a0)), (2, .inl x2), (5, .inl x5)] [] h else EX d 239 64 [(0, .inr (.inr a0)), (1, .inl x1), (2, .inl x2), (3, .inl x3), (4, .inl x4), (5, .inl x5)] [] h else none else none := (EX_at bk_Mod_goesRound_0 _ _ _).trans rfl
theorem bk_Mod_goesRound_10 : blk 239 10 = some (((cd_Mod_goesRound.lookup 10).getD ([], 0, []))) := rfl
theorem Mod_goesRound_10 (d : Nat) (a0 : Nat) (x2 : Int) (x5 : Int) (h : Hp) : EX d 239 10 [(0, .inr (.inr a0)), (2, .inl x2), (5, .inl x5)] [] h = if sK h a0 = 11 then if (wr (hI h a0 32)) = (-1) then EX d 239 28 [(0, .inr (.inr a0)), (2, .inl x2), (5, .inl x5)] [] h else EX d 239 18 [(0, .inr (.inr a0)), (2, .inl x2), (5, .inl x5)] [] h else none := (EX_at bk_Mod_goesRound_10 _ _ _).trans rfl
theorem bk_Mod_goesRound_18 : blk 239 18 = some (((cd_Mod_goesRound.lookup 18).getD ([], 0, []))) := rfl
theorem Mod_goesRound_18 (d : Nat) (a0 : Nat) (x2 : Int) (x5 : Int) (h : Hp) : EX d 239 18 [(0, .inr (.inr a0)), (2, .inl x2), (5, .inl x5)] [] h = if sK h a0 = 11 then if (wr x5) < (wr (hI h a0 32)) then EX d 239 28 [(0, .inr (.inr a0)), (2, .inl x2), (5, .inl x5)] [] h else EX d 239 27 [] [] h else none := (EX_at bk_Mod_goesRound_18 _ _ _).trans rfl
theorem bk_Mod_goesRound_27 : blk 239 27 = some (((cd_Mod_goesRound.lookup 27).getD ([], 0, []))) := rfl
theorem Mod_goesRound_27 (d : Nat) (h : Hp) : EX d 239 27 [] [] h = some (.inl 0, h) := (EX_at bk_Mod_goesRound_27 _ _ _).trans rfl
theorem bk_Mod_goesRound_28 : blk 239 28 = some (((cd_Mod_goesRound.lookup 28).getD ([], 0, []))) := rfl
theorem Mod_goesRound_28 (d : Nat) (a0 : Nat) (x2 : Int) (x5 : Int) (h : Hp) : EX d 239 28 [(0, .inr (.inr a0)), (2, .inl x2), (5, .inl x5)] [] h = if sK h a0 = 11 then EX d 239 34 [(0, .inr (.inr a0)), (2, .inl x2)] [] (pI h a0 32 x5) else none := (EX_at bk_Mod_goesRound_28 _ _ _).trans rfl
theorem bk_Mod_goesRound_34 : blk 239 34 = some (((cd_Mod_goesRound.lookup 34).getD ([], 0, []))) := rfl
theorem Mod_goesRound_34 (d : Nat) (a0 : Nat) (x2 : Int) (h : Hp) : EX d 239 34 [(0, .inr (.inr a0)), (2, .inl x2)] [] h = EX d 239 37 [(0, .inr (.inr a0)), (2, .inl x2), (6, .inl 0)] [] h := (EX_at bk_Mod_goesRound_34 _ _ _).trans rfl
theorem bk_Mod_goesRound_37 : blk 239 37 = some (((cd_Mod_goesRound.lookup 37).getD ([], 0, []))) := rfl
theorem Mod_goesRound_37 (d : Nat) (a0 : Nat) (x2 : Int) (x6 : Int) (h : Hp) : EX d 239 37 [(0, .inr (.inr a0)), (2, .inl x2), (6, .inl x6)] [] h = if (wr x6) < (wr x2) then EX d 239 43 [(0, .inr (.inr a0)), (2, .inl x2), (6, .inl x6)] [] h else EX d 239 63 [] [] h := (EX_at bk_Mod_goesRound_37 _ _ _).trans rfl
theorem bk_Mod_goesRound_43 : blk 239 43 = some (((cd_Mod_goesRound.lookup 43).getD ([], 0, []))) := rfl
theorem Mod_goesRound_43 (d : Nat) (a0 : Nat) (x2 : Int) (x6 : Int) (h : Hp) : EX d 239 43 [(0, .inr (.inr a0)), (2, .inl x2), (6, .inl x6)] [] h = if sK h a0 = 11 then if sK h a0 = 11 then if okx h (hR h a0 30) 20 x6 then if okx h (hR h a0 31) 20 x6 then EX d 239 57 [(0, .inr (.inr a0)), (2, .inl x2), (6, .inl x6)] [] (pI h (hR h a0 31) (ix x6) (hI h (hR h a0 30) (ix x6))) else none else none else none else none := (EX_at bk_Mod_goesRound_43 _ _ _).trans rfl
theorem bk_Mod_goesRound_57 : blk 239 57 = some (((cd_Mod_goesRound.lookup 57).getD ([], 0, []))) := rfl
theorem Mod_goesRound_57 (d : Nat) (a0 : Nat) (x2 : Int) (x6 : Int) (h : Hp) : EX d 239 57 [(0, .inr (.inr a0)), (2, .inl x2), (6, .inl x6)] [] h = EX d 239 37 [(0, .inr (.inr a0)), (2, .inl x2), (6, .inl (x6 + 1))] [] h := (EX_at bk_Mod_goesRound_57 _ _ _).trans rfl
theorem bk_Mod_goesRound_63 : blk 239 63 = some (((cd_Mod_goesRound.lookup 63).getD ([], 0, []))) := rfl
theorem Mod_goesRound_63 (d : Nat) (h : Hp) : EX d 239 63 [] [] h = some (.inl 0, h) := (EX_at bk_Mod_goesRound_63 _ _ _).trans rfl
theorem bk_Mod_goesRound_64 : blk 239 64 = some (((cd_Mod_goesRound.lookup 64).getD ([], 0, []))) := rfl
theorem Mod_goesRound_64 (d : Nat) (a0 : Nat) (x1 : Int) (x2 : Int) (x3 : Int) (x4 : Int) (x5 : Int) (h : Hp) : EX d 239 64 [(0, .inr (.inr a0)), (1, .inl x1), (2, .inl x2), (3, .inl x3), (4, .inl x4), (5, .inl x5)] [] h = EX d 239 67 [(0, .inr (.inr a0)), (1, .inl x1), (2, .inl x2), (3, .inl x3), (4, .inl x4), (5, .inl x5), (6, .inl 0)] [] h := (EX_at bk_Mod_goesRound_64 _ _ _).trans rfl
theorem bk_Mod_goesRound_67 : blk 239 67 = some (((cd_Mod_goesRound.lookup 67).getD ([], 0, []))) := rfl
theorem Mod_goesRound_67 (d : Nat) (a0 : Nat) (x1 : Int) (x2 : Int) (x3 : Int) (x4 : Int) (x5 : Int) (x6 : Int) (h : Hp) : EX d 239 67 [(0, .inr (.inr a0)), (1, .inl x1), (2, .inl x2), (3, .inl x3), (4, .inl x4), (5, .inl x5), (6, .inl x6)] [] h = if sK h a0 = 11 then if okx h (hR h a0 34) 20 x1 then if (wr x6) < (wr (hI h (hR h a0 34) (ix x1))) then EX d 239 78 [(0, .inr (.inr a0)), (1, .inl x1), (2, .inl x2), (3, .inl x3), (4, .inl x4), (5, .inl x5), (6, .inl x6)] [] h else EX d 239 153 [] [] h else none else none := (EX_at bk_Mod_goesRound_67 _ _ _).trans rfl
theorem bk_Mod_goesRound_78 : blk 239 78 = some (((cd_Mod_goesRound.lookup 78).getD ([], 0, []))) := rfl
theorem Mod_goesRound_78 (d : Nat) (a0 : Nat) (x1 : Int) (x2 : Int) (x3 : Int) (x4 : Int) (x5 : Int) (x6 : Int) (h : Hp) : EX d 239 78 [(0, .inr (.inr a0)), (1, .inl x1), (2, .inl x2), (3, .inl x3), (4, .inl x4), (5, .inl x5), (6, .inl x6)] [] h = bak (EX d 239) 85 [(0, .inr (.inr a0)), (1, .inl x1), (2, .inl x2), (3, .inl x3), (4, .inl x4), (5, .inl x5), (6, .inl x6)] [] false (cal d 96 [.inr (.inl (wr x3)), .inl x6] h) := (EX_at bk_Mod_goesRound_78 _ _ _).trans rfl
theorem bk_Mod_goesRound_85 : blk 239 85 = some (((cd_Mod_goesRound.lookup 85).getD ([], 0, []))) := rfl
theorem Mod_goesRound_85 (d : Nat) (a0 : Nat) (x1 : Int) (x2 : Int) (x3 : Int) (x4 : Int) (x5 : Int) (x6 : Int) (s0 : Int) (h : Hp) : EX d 239 85 [(0, .inr (.inr a0)), (1, .inl x1), (2, .inl x2), (3, .inl x3), (4, .inl x4), (5, .inl x5), (6, .inl x6)] [.inl s0] h = if (wr s0) = 0 then EX d 239 91 [(0, .inr (.inr a0)), (1, .inl x1), (2, .inl x2), (3, .inl x3), (4, .inl x4), (5, .inl x5), (6, .inl x6)] [] h else EX d 239 88 [(0, .inr (.inr a0)), (1, .inl x1), (2, .inl x2), (3, .inl x3), (4, .inl x4), (5, .inl x5), (6, .inl x6)] [] h := (EX_at bk_Mod_goesRound_85 _ _ _).trans rfl
theorem bk_Mod_goesRound_88 : blk 239 88 = some (((cd_Mod_goesRound.lookup 88).getD ([], 0, []))) := rfl
theorem Mod_goesRound_88 (d : Nat) (a0 : Nat) (x1 : Int) (x2 : Int) (x3 : Int) (x4 : Int) (x5 : Int) (x6 : Int) (h : Hp) : EX d 239 88 [(0, .inr (.inr a0)), (1, .inl x1), (2, .inl x2), (3, .inl x3), (4, .inl x4), (5, .inl x5), (6, .inl x6)] [] h = EX d 239 147 [(0, .inr (.inr a0)), (1, .inl x1), (2, .inl x2), (3, .inl x3), (4, .inl x4), (5, .inl x5), (6, .inl x6)] [] h := (EX_at bk_Mod_goesRound_88 _ _ _).trans rfl
theorem bk_Mod_goesRound_91 : blk 239 91 = some (((cd_Mod_goesRound.lookup 91).getD ([], 0, []))) := rfl
theorem Mod_goesRound_91 (d : Nat) (a0 : Nat) (x1 : Int) (x2 : Int) (x3 : Int) (x4 : Int) (x5 : Int) (x6 : Int) (h : Hp) : EX d 239 91 [(0, .inr (.inr a0)), (1, .inl x1), (2, .inl x2), (3, .inl x3), (4, .inl x4), (5, .inl x5), (6, .inl x6)] [] h = if sK h a0 = 11 then if okx h (hR h a0 35) 21 ((40 * x1) + x6) then if sK h a0 = 11 then if okx h (hR h a0 30) 20 x2 then EX d 239 114 [(0, .inr (.inr a0)), (1, .inl x1), (2, .inl x2), (3, .inl x3), (4, .inl x4), (5, .inl x5), (6, .inl x6), (7, .inl (hL h (hR h a0 35) (ix ((40 * x1) + x6))))] [] (pI h (hR h a0 30) (ix x2) (hL h (hR h a0 35) (ix ((40 * x1) + x6)))) else none else none else none else none := (EX_at bk_Mod_goesRound_91 _ _ _).trans rfl
theorem bk_Mod_goesRound_114 : blk 239 114 = some (((cd_Mod_goesRound.lookup 114).getD ([], 0, []))) := rfl
theorem Mod_goesRound_114 (d : Nat) (a0 : Nat) (x1 : Int) (x2 : Int) (x3 : Int) (x4 : Int) (x5 : Int) (x6 : Int) (x7 : Int) (h : Hp) : EX d 239 114 [(0, .inr (.inr a0)), (1, .inl x1), (2, .inl x2), (3, .inl x3), (4, .inl x4), (5, .inl x5), (6, .inl x6), (7, .inl x7)] [] h = if sK h a0 = 11 then bak (EX d 239) 133 [(0, .inr (.inr a0)), (1, .inl x1), (2, .inl x2), (3, .inl x3), (4, .inl x4), (5, .inl x5), (6, .inl x6), (7, .inl x7)] [.inl (bOr x3 (bShl 1 x6)), .inl (x2 + 1), .inl x1, .inr (.inr a0)] false (cal d 138 [.inr (.inr a0), .inl x4, .inl x7] h) else none := (EX_at bk_Mod_goesRound_114 _ _ _).trans rfl
theorem bk_Mod_goesRound_133 : blk 239 133 = some (((cd_Mod_goesRound.lookup 133).getD ([], 0, []))) := rfl
theorem Mod_goesRound_133 (d : Nat) (a0 : Nat) (x1 : Int) (x2 : Int) (x3 : Int) (x4 : Int) (x5 : Int) (x6 : Int) (x7 : Int) (r0 : Nat) (s1 : Int) (s2 : Int) (s3 : Int) (s4 : Int) (h : Hp) : EX d 239 133 [(0, .inr (.inr a0)), (1, .inl x1), (2, .inl x2), (3, .inl x3), (4, .inl x4), (5, .inl x5), (6, .inl x6), (7, .inl x7)] [.inl s4, .inl s3, .inl s2, .inl s1, .inr (.inr r0)] h = if sK h a0 = 11 then bak (EX d 239) 143 [(0, .inr (.inr a0)), (1, .inl x1), (2, .inl x2), (3, .inl x3), (4, .inl x4), (5, .inl x5), (6, .inl x6)] [.inl x5, .inl s4, .inl s3, .inl s2, .inl s1, .inr (.inr r0)] false (cal d 139 [.inr (.inr a0), .inl x4, .inl x7] h) else none := (EX_at bk_Mod_goesRound_133 _ _ _).trans rfl
theorem bk_Mod_goesRound_143 : blk 239 143 = some (((cd_Mod_goesRound.lookup 143).getD ([], 0, []))) := rfl
theorem Mod_goesRound_143 (d : Nat) (a0 : Nat) (x1 : Int) (x2 : Int) (x3 : Int) (x4 : Int) (x5 : Int) (x6 : Int) (r0 : Nat) (s1 : Int) (s2 : Int) (s3 : Int) (s4 : Int) (s5 : Int) (s6 : Int) (h : Hp) : EX d 239 143 [(0, .inr (.inr a0)), (1, .inl x1), (2, .inl x2), (3, .inl x3), (4, .inl x4), (5, .inl x5), (6, .inl x6)] [.inl s6, .inl s5, .inl s4, .inl s3, .inl s2, .inl s1, .inr (.inr r0)] h = if sK h r0 = 11 then bak (EX d 239) 147 [(0, .inr (.inr a0)), (1, .inl x1), (2, .inl x2), (3, .inl x3), (4, .inl x4), (5, .inl x5), (6, .inl x6)] [] true (cal d 239 [.inr (.inr r0), .inl s1, .inl s2, .inl s3, .inl s4, .inl (s5 + s6)] h) else none := (EX_at bk_Mod_goesRound_143 _ _ _).trans rfl
theorem bk_Mod_goesRound_147 : blk 239 147 = some (((cd_Mod_goesRound.lookup 147).getD ([], 0, []))) := rfl
theorem Mod_goesRound_147 (d : Nat) (a0 : Nat) (x1 : Int) (x2 : Int) (x3 : Int) (x4 : Int) (x5 : Int) (x6 : Int) (h : Hp) : EX d 239 147 [(0, .inr (.inr a0)), (1, .inl x1), (2, .inl x2), (3, .inl x3), (4, .inl x4), (5, .inl x5), (6, .inl x6)] [] h = EX d 239 67 [(0, .inr (.inr a0)), (1, .inl x1), (2, .inl x2), (3, .inl x3), (4, .inl x4), (5, .inl x5), (6, .inl (x6 + 1))] [] h := (EX_at bk_Mod_goesRound_147 _ _ _).trans rfl
theorem bk_Mod_goesRound_153 : blk 239 153 = some (((cd_Mod_goesRound.lookup 153).getD ([], 0, []))) := rfl
theorem Mod_goesRound_153 (d : Nat) (h : Hp) : EX d 239 153 [] [] h = some (.inl 0, h) := (EX_at bk_Mod_goesRound_153 _ _ _).trans rfl
/-! rounds(II)I of HookOverModel: method 240 -/
theorem bk_Mod_rounds_0 : blk 240 0 = some (((cd_Mod_rounds.lookup 0).getD ([], 0, []))) := rfl
theorem Mod_rounds_0 (d : Nat) (a0 : Nat) (x1 : Int) (x2 : Int) (h : Hp) : EX d 240 0 [(0, .inr (.inr a0)), (1, .inl x1), (2, .inl x2)] [] h = if sK h a0 = 11 then EX d 240 5 [(0, .inr (.inr a0)), (1, .inl x1), (2, .inl x2)] [] (pI h a0 0 0) else none := (EX_at bk_Mod_rounds_0 _ _ _).trans rfl
theorem bk_Mod_rounds_5 : blk 240 5 = some (((cd_Mod_rounds.lookup 5).getD ([], 0, []))) := rfl
theorem Mod_rounds_5 (d : Nat) (a0 : Nat) (x1 : Int) (x2 : Int) (h : Hp) : EX d 240 5 [(0, .inr (.inr a0)), (1, .inl x1), (2, .inl x2)] [] h = if (wr x2) = 0 then EX d 240 26 [(0, .inr (.inr a0)), (1, .inl x1), (2, .inl x2)] [] h else EX d 240 9 [(0, .inr (.inr a0)), (1, .inl x1), (2, .inl x2)] [] h := (EX_at bk_Mod_rounds_5 _ _ _).trans rfl
theorem bk_Mod_rounds_9 : blk 240 9 = some (((cd_Mod_rounds.lookup 9).getD ([], 0, []))) := rfl
theorem Mod_rounds_9 (d : Nat) (a0 : Nat) (x1 : Int) (x2 : Int) (h : Hp) : EX d 240 9 [(0, .inr (.inr a0)), (1, .inl x1), (2, .inl x2)] [] h = bak (EX d 240) 20 [(0, .inr (.inr a0)), (1, .inl x1), (2, .inl x2)] [] false (cal d 71 [.inr (.inl (wr x2)), .inr (.inl 10), .inr (.inl 17)] h) := (EX_at bk_Mod_rounds_9 _ _ _).trans rfl
theorem bk_Mod_rounds_20 : blk 240 20 = some (((cd_Mod_rounds.lookup 20).getD ([], 0, []))) := rfl
theorem Mod_rounds_20 (d : Nat) (a0 : Nat) (x1 : Int) (x2 : Int) (s0 : Int) (h : Hp) : EX d 240 20 [(0, .inr (.inr a0)), (1, .inl x1), (2, .inl x2)] [.inl s0] h = if (wr s0) = 0 then EX d 240 23 [] [] h else EX d 240 26 [(0, .inr (.inr a0)), (1, .inl x1), (2, .inl x2)] [] h := (EX_at bk_Mod_rounds_20 _ _ _).trans rfl
theorem bk_Mod_rounds_23 : blk 240 23 = some (((cd_Mod_rounds.lookup 23).getD ([], 0, []))) := rfl
theorem Mod_rounds_23 (d : Nat) (h : Hp) : EX d 240 23 [] [] h = some (.inl (-2), h) := (EX_at bk_Mod_rounds_23 _ _ _).trans rfl
theorem bk_Mod_rounds_26 : blk 240 26 = some (((cd_Mod_rounds.lookup 26).getD ([], 0, []))) := rfl
theorem Mod_rounds_26 (d : Nat) (a0 : Nat) (x1 : Int) (x2 : Int) (h : Hp) : EX d 240 26 [(0, .inr (.inr a0)), (1, .inl x1), (2, .inl x2)] [] h = if sK h a0 = 11 then bak (EX d 240) 31 [(0, .inr (.inr a0)), (1, .inl x1), (2, .inl x2)] [] false (cal d 162 [.inr (.inr a0), .inl x1] h) else none := (EX_at bk_Mod_rounds_26 _ _ _).trans rfl
theorem bk_Mod_rounds_31 : blk 240 31 = some (((cd_Mod_rounds.lookup 31).getD ([], 0, []))) := rfl
theorem Mod_rounds_31 (d : Nat) (a0 : Nat) (x1 : Int) (x2 : Int) (s0 : Int) (h : Hp) : EX d 240 31 [(0, .inr (.inr a0)), (1, .inl x1), (2, .inl x2)] [.inl s0] h = if (wr s0) = 0 then EX d 240 38 [(0, .inr (.inr a0)), (1, .inl x1), (2, .inl x2)] [] h else EX d 240 36 [(3, .inl s0)] [] h := (EX_at bk_Mod_rounds_31 _ _ _).trans rfl
theorem bk_Mod_rounds_36 : blk 240 36 = some (((cd_Mod_rounds.lookup 36).getD ([], 0, []))) := rfl
theorem Mod_rounds_36 (d : Nat) (x3 : Int) (h : Hp) : EX d 240 36 [(3, .inl x3)] [] h = some (.inl x3, h) := (EX_at bk_Mod_rounds_36 _ _ _).trans rfl
theorem bk_Mod_rounds_38 : blk 240 38 = some (((cd_Mod_rounds.lookup 38).getD ([], 0, []))) := rfl
theorem Mod_rounds_38 (d : Nat) (a0 : Nat) (x1 : Int) (x2 : Int) (h : Hp) : EX d 240 38 [(0, .inr (.inr a0)), (1, .inl x1), (2, .inl x2)] [] h = if sK h a0 = 11 then if okx h (hR h a0 34) 20 x1 then bak (EX d 240) 52 [(0, .inr (.inr a0)), (1, .inl x1), (2, .inl x2)] [] false (cal d 71 [.inr (.inl (wr (hI h (hR h a0 34) (ix x1)))), .inr (.inl 1), .inr (.inl 8)] h) else none else none := (EX_at bk_Mod_rounds_38 _ _ _).trans rfl
theorem bk_Mod_rounds_52 : blk 240 52 = some (((cd_Mod_rounds.lookup 52).getD ([], 0, []))) := rfl
theorem Mod_rounds_52 (d : Nat) (a0 : Nat) (x1 : Int) (x2 : Int) (s0 : Int) (h : Hp) : EX d 240 52 [(0, .inr (.inr a0)), (1, .inl x1), (2, .inl x2)] [.inl s0] h = if (wr s0) = 0 then EX d 240 55 [] [] h else EX d 240 58 [(0, .inr (.inr a0)), (1, .inl x1), (2, .inl x2)] [] h := (EX_at bk_Mod_rounds_52 _ _ _).trans rfl
theorem bk_Mod_rounds_55 : blk 240 55 = some (((cd_Mod_rounds.lookup 55).getD ([], 0, []))) := rfl
theorem Mod_rounds_55 (d : Nat) (h : Hp) : EX d 240 55 [] [] h = some (.inl (-4), h) := (EX_at bk_Mod_rounds_55 _ _ _).trans rfl
theorem bk_Mod_rounds_58 : blk 240 58 = some (((cd_Mod_rounds.lookup 58).getD ([], 0, []))) := rfl
theorem Mod_rounds_58 (d : Nat) (a0 : Nat) (x1 : Int) (x2 : Int) (h : Hp) : EX d 240 58 [(0, .inr (.inr a0)), (1, .inl x1), (2, .inl x2)] [] h = EX d 240 61 [(0, .inr (.inr a0)), (1, .inl x1), (2, .inl x2), (4, .inl 0)] [] h := (EX_at bk_Mod_rounds_58 _ _ _).trans rfl
theorem bk_Mod_rounds_61 : blk 240 61 = some (((cd_Mod_rounds.lookup 61).getD ([], 0, []))) := rfl
theorem Mod_rounds_61 (d : Nat) (a0 : Nat) (x1 : Int) (x2 : Int) (x4 : Int) (h : Hp) : EX d 240 61 [(0, .inr (.inr a0)), (1, .inl x1), (2, .inl x2), (4, .inl x4)] [] h = if sK h a0 = 11 then if okx h (hR h a0 34) 20 x1 then if (wr x4) < (wr (hI h (hR h a0 34) (ix x1))) then EX d 240 72 [(0, .inr (.inr a0)), (1, .inl x1), (2, .inl x2), (4, .inl x4)] [] h else EX d 240 147 [(0, .inr (.inr a0)), (1, .inl x1), (2, .inl x2)] [] h else none else none := (EX_at bk_Mod_rounds_61 _ _ _).trans rfl
theorem bk_Mod_rounds_72 : blk 240 72 = some (((cd_Mod_rounds.lookup 72).getD ([], 0, []))) := rfl
theorem Mod_rounds_72 (d : Nat) (a0 : Nat) (x1 : Int) (x2 : Int) (x4 : Int) (h : Hp) : EX d 240 72 [(0, .inr (.inr a0)), (1, .inl x1), (2, .inl x2), (4, .inl x4)] [] h = if sK h a0 = 11 then if okx h (hR h a0 35) 21 ((40 * x1) + x4) then if sK h a0 = 11 then bak (EX d 240) 88 [(0, .inr (.inr a0)), (1, .inl x1), (2, .inl x2), (4, .inl x4)] [] false (cal d 117 [.inr (.inr a0), .inr (.inl (hL h (hR h a0 35) (ix ((40 * x1) + x4))))] h) else none else none else none := (EX_at bk_Mod_rounds_72 _ _ _).trans rfl
theorem bk_Mod_rounds_88 : blk 240 88 = some (((cd_Mod_rounds.lookup 88).getD ([], 0, []))) := rfl
theorem Mod_rounds_88 (d : Nat) (a0 : Nat) (x1 : Int) (x2 : Int) (x4 : Int) (s0 : Int) (h : Hp) : EX d 240 88 [(0, .inr (.inr a0)), (1, .inl x1), (2, .inl x2), (4, .inl x4)] [.inl s0] h = if (wr s0) = 0 then EX d 240 91 [] [] h else EX d 240 94 [(0, .inr (.inr a0)), (1, .inl x1), (2, .inl x2), (4, .inl x4)] [] h := (EX_at bk_Mod_rounds_88 _ _ _).trans rfl
theorem bk_Mod_rounds_91 : blk 240 91 = some (((cd_Mod_rounds.lookup 91).getD ([], 0, []))) := rfl
theorem Mod_rounds_91 (d : Nat) (h : Hp) : EX d 240 91 [] [] h = some (.inl (-3), h) := (EX_at bk_Mod_rounds_91 _ _ _).trans rfl
theorem bk_Mod_rounds_94 : blk 240 94 = some (((cd_Mod_rounds.lookup 94).getD ([], 0, []))) := rfl
theorem Mod_rounds_94 (d : Nat) (a0 : Nat) (x1 : Int) (x2 : Int) (x4 : Int) (h : Hp) : EX d 240 94 [(0, .inr (.inr a0)), (1, .inl x1), (2, .inl x2), (4, .inl x4)] [] h = EX d 240 97 [(0, .inr (.inr a0)), (1, .inl x1), (2, .inl x2), (4, .inl x4), (5, .inl 0)] [] h := (EX_at bk_Mod_rounds_94 _ _ _).trans rfl
theorem bk_Mod_rounds_97 : blk 240 97 = some (((cd_Mod_rounds.lookup 97).getD ([], 0, []))) := rfl
theorem Mod_rounds_97 (d : Nat) (a0 : Nat) (x1 : Int) (x2 : Int) (x4 : Int) (x5 : Int) (h : Hp) : EX d 240 97 [(0, .inr (.inr a0)), (1, .inl x1), (2, .inl x2), (4, .inl x4), (5, .inl x5)] [] h = if (wr x5) < (wr x4) then EX d 240 104 [(0, .inr (.inr a0)), (1, .inl x1), (2, .inl x2), (4, .inl x4), (5, .inl x5)] [] h else EX d 240 141 [(0, .inr (.inr a0)), (1, .inl x1), (2, .inl x2), (4, .inl x4)] [] h := (EX_at bk_Mod_rounds_97 _ _ _).trans rfl
theorem bk_Mod_rounds_104 : blk 240 104 = some (((cd_Mod_rounds.lookup 104).getD ([], 0, []))) := rfl
theorem Mod_rounds_104 (d : Nat) (a0 : Nat) (x1 : Int) (x2 : Int) (x4 : Int) (x5 : Int) (h : Hp) : EX d 240 104 [(0, .inr (.inr a0)), (1, .inl x1), (2, .inl x2), (4, .inl x4), (5, .inl x5)] [] h = if sK h a0 = 11 then if okx h (hR h a0 35) 21 ((40 * x1) + x5) then if sK h a0 = 11 then if okx h (hR h a0 35) 21 ((40 * x1) + x4) then if (wr (lCmp (hL h (hR h a0 35) (ix ((40 * x1) + x5))) (hL h (hR h a0 35) (ix ((40 * x1) + x4))))) = 0 then EX d 240 132 [] [] h else EX d 240 135 [(0, .inr (.inr a0)), (1, .inl x1), (2, .inl x2), (4, .inl x4), (5, .inl x5)] [] h else none else none else none else none := (EX_at bk_Mod_rounds_104 _ _ _).trans rfl
theorem bk_Mod_rounds_132 : blk 240 132 = some (((cd_Mod_rounds.lookup 132).getD ([], 0, []))) := rfl
theorem Mod_rounds_132 (d : Nat) (h : Hp) : EX d 240 132 [] [] h = some (.inl (-3), h) := (EX_at bk_Mod_rounds_132 _ _ _).trans rfl
theorem bk_Mod_rounds_135 : blk 240 135 = some (((cd_Mod_rounds.lookup 135).getD ([], 0, []))) := rfl
theorem Mod_rounds_135 (d : Nat) (a0 : Nat) (x1 : Int) (x2 : Int) (x4 : Int) (x5 : Int) (h : Hp) : EX d 240 135 [(0, .inr (.inr a0)), (1, .inl x1), (2, .inl x2), (4, .inl x4), (5, .inl x5)] [] h = EX d 240 97 [(0, .inr (.inr a0)), (1, .inl x1), (2, .inl x2), (4, .inl x4), (5, .inl (x5 + 1))] [] h := (EX_at bk_Mod_rounds_135 _ _ _).trans rfl
theorem bk_Mod_rounds_141 : blk 240 141 = some (((cd_Mod_rounds.lookup 141).getD ([], 0, []))) := rfl
theorem Mod_rounds_141 (d : Nat) (a0 : Nat) (x1 : Int) (x2 : Int) (x4 : Int) (h : Hp) : EX d 240 141 [(0, .inr (.inr a0)), (1, .inl x1), (2, .inl x2), (4, .inl x4)] [] h = EX d 240 61 [(0, .inr (.inr a0)), (1, .inl x1), (2, .inl x2), (4, .inl (x4 + 1))] [] h := (EX_at bk_Mod_rounds_141 _ _ _).trans rfl
theorem bk_Mod_rounds_147 : blk 240 147 = some (((cd_Mod_rounds.lookup 147).getD ([], 0, []))) := rfl
theorem Mod_rounds_147 (d : Nat) (a0 : Nat) (x1 : Int) (x2 : Int) (h : Hp) : EX d 240 147 [(0, .inr (.inr a0)), (1, .inl x1), (2, .inl x2)] [] h = if sK h a0 = 11 then EX d 240 152 [(0, .inr (.inr a0)), (1, .inl x1), (2, .inl x2)] [] (pI h a0 32 (-1)) else none := (EX_at bk_Mod_rounds_147 _ _ _).trans rfl
theorem bk_Mod_rounds_152 : blk 240 152 = some (((cd_Mod_rounds.lookup 152).getD ([], 0, []))) := rfl
theorem Mod_rounds_152 (d : Nat) (a0 : Nat) (x1 : Int) (x2 : Int) (h : Hp) : EX d 240 152 [(0, .inr (.inr a0)), (1, .inl x1), (2, .inl x2)] [] h = if sK h a0 = 11 then if okx h (hR h a0 1) 20 59 then if sK h a0 = 11 then bak (EX d 240) 167 [(0, .inr (.inr a0)), (1, .inl x1), (2, .inl x2)] [] true (cal d 239 [.inr (.inr a0), .inl x1, .inl 0, .inl 0, .inl (hI h (hR h a0 1) 59), .inl 0] h) else none else none else none := (EX_at bk_Mod_rounds_152 _ _ _).trans rfl
theorem bk_Mod_rounds_167 : blk 240 167 = some (((cd_Mod_rounds.lookup 167).getD ([], 0, []))) := rfl
theorem Mod_rounds_167 (d : Nat) (a0 : Nat) (x1 : Int) (x2 : Int) (h : Hp) : EX d 240 167 [(0, .inr (.inr a0)), (1, .inl x1), (2, .inl x2)] [] h = if (wr x2) = 0 then EX d 240 171 [(0, .inr (.inr a0))] [] h else EX d 240 178 [(0, .inr (.inr a0)), (1, .inl x1), (2, .inl x2)] [] h := (EX_at bk_Mod_rounds_167 _ _ _).trans rfl
theorem bk_Mod_rounds_171 : blk 240 171 = some (((cd_Mod_rounds.lookup 171).getD ([], 0, []))) := rfl
theorem Mod_rounds_171 (d : Nat) (a0 : Nat) (h : Hp) : EX d 240 171 [(0, .inr (.inr a0))] [] h = if sK h a0 = 11 then EX d 240 204 [] [.inl (hI h a0 32)] h else none := (EX_at bk_Mod_rounds_171 _ _ _).trans rfl
theorem bk_Mod_rounds_178 : blk 240 178 = some (((cd_Mod_rounds.lookup 178).getD ([], 0, []))) := rfl
theorem Mod_rounds_178 (d : Nat) (a0 : Nat) (x1 : Int) (x2 : Int) (h : Hp) : EX d 240 178 [(0, .inr (.inr a0)), (1, .inl x1), (2, .inl x2)] [] h = if sK h a0 = 11 then if okx h (hR h a0 34) 20 x1 then if (wr (x2 - 10)) < (wr (hI h (hR h a0 34) (ix x1))) then EX d 240 191 [(0, .inr (.inr a0)), (2, .inl x2)] [] h else EX d 240 203 [] [] h else none else none := (EX_at bk_Mod_rounds_178 _ _ _).trans rfl
theorem bk_Mod_rounds_191 : blk 240 191 = some (((cd_Mod_rounds.lookup 191).getD ([], 0, []))) := rfl
theorem Mod_rounds_191 (d : Nat) (a0 : Nat) (x2 : Int) (h : Hp) : EX d 240 191 [(0, .inr (.inr a0)), (2, .inl x2)] [] h = if sK h a0 = 11 then if okx h (hR h a0 31) 20 (x2 - 10) then EX d 240 204 [] [.inl (hI h (hR h a0 31) (ix (x2 - 10)))] h else none else none := (EX_at bk_Mod_rounds_191 _ _ _).trans rfl
theorem bk_Mod_rounds_203 : blk 240 203 = some (((cd_Mod_rounds.lookup 203).getD ([], 0, []))) := rfl
theorem Mod_rounds_203 (d : Nat) (h : Hp) : EX d 240 203 [] [] h = EX d 240 204 [] [.inl (-1)] h := (EX_at bk_Mod_rounds_203 _ _ _).trans rfl
theorem bk_Mod_rounds_204 : blk 240 204 = some (((cd_Mod_rounds.lookup 204).getD ([], 0, []))) := rfl
theorem Mod_rounds_204 (d : Nat) (s0 : Int) (h : Hp) : EX d 240 204 [] [.inl s0] h = some (.inl s0, h) := (EX_at bk_Mod_rounds_204 _ _ _).trans rfl
/-! pleats(I)I of HookOverModel: method 243 -/
theorem bk_Mod_pleats_0 : blk 243 0 = some (((cd_Mod_pleats.lookup 0).getD ([], 0, []))) := rfl
theorem Mod_pleats_0 (d : Nat) (a0 : Nat) (x1 : Int) (h : Hp) : EX d 243 0 [(0, .inr (.inr a0)), (1, .inl x1)] [] h = if sK h a0 = 11 then EX d 243 5 [(0, .inr (.inr a0)), (1, .inl x1)] [] (pI h a0 0 0) else none := (EX_at bk_Mod_pleats_0 _ _ _).trans rfl
theorem bk_Mod_pleats_5 : blk 243 5 = some (((cd_Mod_pleats.lookup 5).getD ([], 0, []))) := rfl
theorem Mod_pleats_5 (d : Nat) (a0 : Nat) (x1 : Int) (h : Hp) : EX d 243 5 [(0, .inr (.inr a0)), (1, .inl x1)] [] h = bak (EX d 243) 12 [(0, .inr (.inr a0)), (1, .inl x1)] [] false (cal d 71 [.inr (.inl (wr x1)), .inr (.inl 0), .inr (.inl 1)] h) := (EX_at bk_Mod_pleats_5 _ _ _).trans rfl
theorem bk_Mod_pleats_12 : blk 243 12 = some (((cd_Mod_pleats.lookup 12).getD ([], 0, []))) := rfl
theorem Mod_pleats_12 (d : Nat) (a0 : Nat) (x1 : Int) (s0 : Int) (h : Hp) : EX d 243 12 [(0, .inr (.inr a0)), (1, .inl x1)] [.inl s0] h = if (wr s0) = 0 then EX d 243 15 [] [] h else EX d 243 18 [(0, .inr (.inr a0)), (1, .inl x1)] [] h := (EX_at bk_Mod_pleats_12 _ _ _).trans rfl
theorem bk_Mod_pleats_15 : blk 243 15 = some (((cd_Mod_pleats.lookup 15).getD ([], 0, []))) := rfl
theorem Mod_pleats_15 (d : Nat) (h : Hp) : EX d 243 15 [] [] h = some (.inl (-2), h) := (EX_at bk_Mod_pleats_15 _ _ _).trans rfl
theorem bk_Mod_pleats_18 : blk 243 18 = some (((cd_Mod_pleats.lookup 18).getD ([], 0, []))) := rfl
theorem Mod_pleats_18 (d : Nat) (a0 : Nat) (x1 : Int) (h : Hp) : EX d 243 18 [(0, .inr (.inr a0)), (1, .inl x1)] [] h = if sK h a0 = 11 then if okx h (hR h a0 1) 20 6 then if (wr (hI h (hR h a0 1) 6)) = 0 then EX d 243 28 [] [] h else EX d 243 31 [(0, .inr (.inr a0)), (1, .inl x1)] [] h else none else none := (EX_at bk_Mod_pleats_18 _ _ _).trans rfl
theorem bk_Mod_pleats_28 : blk 243 28 = some (((cd_Mod_pleats.lookup 28).getD ([], 0, []))) := rfl
theorem Mod_pleats_28 (d : Nat) (h : Hp) : EX d 243 28 [] [] h = some (.inl (-5), h) := (EX_at bk_Mod_pleats_28 _ _ _).trans rfl
theorem bk_Mod_pleats_31 : blk 243 31 = some (((cd_Mod_pleats.lookup 31).getD ([], 0, []))) := rfl
theorem Mod_pleats_31 (d : Nat) (a0 : Nat) (x1 : Int) (h : Hp) : EX d 243 31 [(0, .inr (.inr a0)), (1, .inl x1)] [] h = EX d 243 38 [(0, .inr (.inr a0)), (1, .inl x1), (2, .inl 0), (3, .inl (-1)), (4, .inl 0)] [] h := (EX_at bk_Mod_pleats_31 _ _ _).trans rfl
theorem bk_Mod_pleats_38 : blk 243 38 = some (((cd_Mod_pleats.lookup 38).getD ([], 0, []))) := rfl
theorem Mod_pleats_38 (d : Nat) (a0 : Nat) (x1 : Int) (x2 : Int) (x3 : Int) (x4 : Int) (h : Hp) : EX d 243 38 [(0, .inr (.inr a0)), (1, .inl x1), (2, .inl x2), (3, .inl x3), (4, .inl x4)] [] h = if sK h a0 = 11 then if okx h (hR h a0 1) 20 6 then if (wr x4) < (wr (hI h (hR h a0 1) 6)) then EX d 243 50 [(0, .inr (.inr a0)), (1, .inl x1), (2, .inl x2), (3, .inl x3), (4, .inl x4)] [] h else EX d 243 147 [(1, .inl x1), (2, .inl x2), (3, .inl x3)] [] h else none else none := (EX_at bk_Mod_pleats_38 _ _ _).trans rfl
theorem bk_Mod_pleats_50 : blk 243 50 = some (((cd_Mod_pleats.lookup 50).getD ([], 0, []))) := rfl
theorem Mod_pleats_50 (d : Nat) (a0 : Nat) (x1 : Int) (x2 : Int) (x3 : Int) (x4 : Int) (h : Hp) : EX d 243 50 [(0, .inr (.inr a0)), (1, .inl x1), (2, .inl x2), (3, .inl x3), (4, .inl x4)] [] h = EX d 243 56 [(0, .inr (.inr a0)), (1, .inl x1), (2, .inl x2), (3, .inl x3), (4, .inl x4), (5, .inl 0), (6, .inl 0)] [] h := (EX_at bk_Mod_pleats_50 _ _ _).trans rfl
theorem bk_Mod_pleats_56 : blk 243 56 = some (((cd_Mod_pleats.lookup 56).getD ([], 0, []))) := rfl
theorem Mod_pleats_56 (d : Nat) (a0 : Nat) (x1 : Int) (x2 : Int) (x3 : Int) (x4 : Int) (x5 : Int) (x6 : Int) (h : Hp) : EX d 243 56 [(0, .inr (.inr a0)), (1, .inl x1), (2, .inl x2), (3, .inl x3), (4, .inl x4), (5, .inl x5), (6, .inl x6)] [] h = if sK h a0 = 11 then if okx h (hR h a0 1) 20 1 then if (wr x6) < (wr (hI h (hR h a0 1) 1)) then EX d 243 67 [(0, .inr (.inr a0)), (1, .inl x1), (2, .inl x2), (3, .inl x3), (4, .inl x4), (5, .inl x5), (6, .inl x6)] [] h else EX d 243 126 [(0, .inr (.inr a0)), (1, .inl x1), (2, .inl x2), (3, .inl x3), (4, .inl x4), (5, .inl x5)] [] h else none else none := (EX_at bk_Mod_pleats_56 _ _ _).trans rfl
theorem bk_Mod_pleats_67 : blk 243 67 = some (((cd_Mod_pleats.lookup 67).getD ([], 0, []))) := rfl
theorem Mod_pleats_67 (d : Nat) (a0 : Nat) (x1 : Int) (x2 : Int) (x3 : Int) (x4 : Int) (x5 : Int) (x6 : Int) (h : Hp) : EX d 243 67 [(0, .inr (.inr a0)), (1, .inl x1), (2, .inl x2), (3, .inl x3), (4, .inl x4), (5, .inl x5), (6, .inl x6)] [] h = if sK h a0 = 11 then if okx h (hR h a0 1) 20 (61 + x6) then if (wr (hI h (hR h a0 1) (ix (61 + x6)))) = (-1) then EX d 243 116 [(0, .inr (.inr a0)), (1, .inl x1), (2, .inl x2), (3, .inl x3), (4, .inl x4), (6, .inl x6)] [.inl x5] h else EX d 243 83 [(0, .inr (.inr a0)), (1, .inl x1), (2, .inl x2), (3, .inl x3), (4, .inl x4), (6, .inl x6)] [.inl x5] h else none else none := (EX_at bk_Mod_pleats_67 _ _ _).trans rfl
theorem bk_Mod_pleats_83 : blk 243 83 = some (((cd_Mod_pleats.lookup 83).getD ([], 0, []))) := rfl
theorem Mod_pleats_83 (d : Nat) (a0 : Nat) (x1 : Int) (x2 : Int) (x3 : Int) (x4 : Int) (x6 : Int) (s0 : Int) (h : Hp) : EX d 243 83 [(0, .inr (.inr a0)), (1, .inl x1), (2, .inl x2), (3, .inl x3), (4, .inl x4), (6, .inl x6)] [.inl s0] h = if sK h a0 = 11 then if okx h (hR h a0 1) 20 (61 + x6) then if sK h a0 = 11 then if okx h (hR h a0 1) 20 6 then if (wr (hI h (hR h a0 1) 6)) = 0 then none else if (wr (bRem (((hI h (hR h a0 1) (ix (61 + x6))) - x6) + 60) (hI h (hR h a0 1) 6))) = (wr x4) then EX d 243 112 [(0, .inr (.inr a0)), (1, .inl x1), (2, .inl x2), (3, .inl x3), (4, .inl x4), (6, .inl x6)] [.inl s0] h else EX d 243 116 [(0, .inr (.inr a0)), (1, .inl x1), (2, .inl x2), (3, .inl x3), (4, .inl x4), (6, .inl x6)] [.inl s0] h else none else none else none else none := (EX_at bk_Mod_pleats_83 _ _ _).trans rfl
theorem bk_Mod_pleats_112 : blk 243 112 = some (((cd_Mod_pleats.lookup 112).getD ([], 0, []))) := rfl
theorem Mod_pleats_112 (d : Nat) (a0 : Nat) (x1 : Int) (x2 : Int) (x3 : Int) (x4 : Int) (x6 : Int) (s0 : Int) (h : Hp) : EX d 243 112 [(0, .inr (.inr a0)), (1, .inl x1), (2, .inl x2), (3, .inl x3), (4, .inl x4), (6, .inl x6)] [.inl s0] h = EX d 243 117 [(0, .inr (.inr a0)), (1, .inl x1), (2, .inl x2), (3, .inl x3), (4, .inl x4), (6, .inl x6)] [.inl 1, .inl s0] h := (EX_at bk_Mod_pleats_112 _ _ _).trans rfl
theorem bk_Mod_pleats_116 : blk 243 116 = some (((cd_Mod_pleats.lookup 116).getD ([], 0, []))) := rfl
theorem Mod_pleats_116 (d : Nat) (a0 : Nat) (x1 : Int) (x2 : Int) (x3 : Int) (x4 : Int) (x6 : Int) (s0 : Int) (h : Hp) : EX d 243 116 [(0, .inr (.inr a0)), (1, .inl x1), (2, .inl x2), (3, .inl x3), (4, .inl x4), (6, .inl x6)] [.inl s0] h = EX d 243 117 [(0, .inr (.inr a0)), (1, .inl x1), (2, .inl x2), (3, .inl x3), (4, .inl x4), (6, .inl x6)] [.inl 0, .inl s0] h := (EX_at bk_Mod_pleats_116 _ _ _).trans rfl
theorem bk_Mod_pleats_117 : blk 243 117 = some (((cd_Mod_pleats.lookup 117).getD ([], 0, []))) := rfl
theorem Mod_pleats_117 (d : Nat) (a0 : Nat) (x1 : Int) (x2 : Int) (x3 : Int) (x4 : Int) (x6 : Int) (s0 : Int) (s1 : Int) (h : Hp) : EX d 243 117 [(0, .inr (.inr a0)), (1, .inl x1), (2, .inl x2), (3, .inl x3), (4, .inl x4), (6, .inl x6)] [.inl s1, .inl s0] h = EX d 243 56 [(0, .inr (.inr a0)), (1, .inl x1), (2, .inl x2), (3, .inl x3), (4, .inl x4), (5, .inl (s0 + s1)), (6, .inl (x6 + 1))] [] h := (EX_at bk_Mod_pleats_117 _ _ _).trans rfl
theorem bk_Mod_pleats_126 : blk 243 126 = some (((cd_Mod_pleats.lookup 126).getD ([], 0, []))) := rfl
theorem Mod_pleats_126 (d : Nat) (a0 : Nat) (x1 : Int) (x2 : Int) (x3 : Int) (x4 : Int) (x5 : Int) (h : Hp) : EX d 243 126 [(0, .inr (.inr a0)), (1, .inl x1), (2, .inl x2), (3, .inl x3), (4, .inl x4), (5, .inl x5)] [] h = if (wr x2) < (wr x5) then EX d 243 135 [(0, .inr (.inr a0)), (1, .inl x1), (4, .inl x4), (5, .inl x5)] [] h else EX d 243 132 [(0, .inr (.inr a0)), (1, .inl x1), (2, .inl x2), (3, .inl x3), (4, .inl x4)] [] h := (EX_at bk_Mod_pleats_126 _ _ _).trans rfl
theorem bk_Mod_pleats_132 : blk 243 132 = some (((cd_Mod_pleats.lookup 132).getD ([], 0, []))) := rfl
theorem Mod_pleats_132 (d : Nat) (a0 : Nat) (x1 : Int) (x2 : Int) (x3 : Int) (x4 : Int) (h : Hp) : EX d 243 132 [(0, .inr (.inr a0)), (1, .inl x1), (2, .inl x2), (3, .inl x3), (4, .inl x4)] [] h = EX d 243 141 [(0, .inr (.inr a0)), (1, .inl x1), (2, .inl x2), (3, .inl x3), (4, .inl x4)] [] h := (EX_at bk_Mod_pleats_132 _ _ _).trans rfl
theorem bk_Mod_pleats_135 : blk 243 135 = some (((cd_Mod_pleats.lookup 135).getD ([], 0, []))) := rfl
theorem Mod_pleats_135 (d : Nat) (a0 : Nat) (x1 : Int) (x4 : Int) (x5 : Int) (h : Hp) : EX d 243 135 [(0, .inr (.inr a0)), (1, .inl x1), (4, .inl x4), (5, .inl x5)] [] h = EX d 243 141 [(0, .inr (.inr a0)), (1, .inl x1), (2, .inl x5), (3, .inl x4), (4, .inl x4)] [] h := (EX_at bk_Mod_pleats_135 _ _ _).trans rfl
theorem bk_Mod_pleats_141 : blk 243 141 = some (((cd_Mod_pleats.lookup 141).getD ([], 0, []))) := rfl
theorem Mod_pleats_141 (d : Nat) (a0 : Nat) (x1 : Int) (x2 : Int) (x3 : Int) (x4 : Int) (h : Hp) : EX d 243 141 [(0, .inr (.inr a0)), (1, .inl x1), (2, .inl x2), (3, .inl x3), (4, .inl x4)] [] h = EX d 243 38 [(0, .inr (.inr a0)), (1, .inl x1), (2, .inl x2), (3, .inl x3), (4, .inl (x4 + 1))] [] h := (EX_at bk_Mod_pleats_141 _ _ _).trans rfl
theorem bk_Mod_pleats_147 : blk 243 147 = some (((cd_Mod_pleats.lookup 147).getD ([], 0, []))) := rfl
theorem Mod_pleats_147 (d : Nat) (x1 : Int) (x2 : Int) (x3 : Int) (h : Hp) : EX d 243 147 [(1, .inl x1), (2, .inl x2), (3, .inl x3)] [] h = if (wr x1) = 0 then EX d 243 151 [(2, .inl x2)] [] h else EX d 243 155 [(3, .inl x3)] [] h := (EX_at bk_Mod_pleats_147 _ _ _).trans rfl
theorem bk_Mod_pleats_151 : blk 243 151 = some (((cd_Mod_pleats.lookup 151).getD ([], 0, []))) := rfl
theorem Mod_pleats_151 (d : Nat) (x2 : Int) (h : Hp) : EX d 243 151 [(2, .inl x2)] [] h = EX d 243 156 [] [.inl x2] h := (EX_at bk_Mod_pleats_151 _ _ _).trans rfl
theorem bk_Mod_pleats_155 : blk 243 155 = some (((cd_Mod_pleats.lookup 155).getD ([], 0, []))) := rfl
theorem Mod_pleats_155 (d : Nat) (x3 : Int) (h : Hp) : EX d 243 155 [(3, .inl x3)] [] h = EX d 243 156 [] [.inl x3] h := (EX_at bk_Mod_pleats_155 _ _ _).trans rfl
theorem bk_Mod_pleats_156 : blk 243 156 = some (((cd_Mod_pleats.lookup 156).getD ([], 0, []))) := rfl
theorem Mod_pleats_156 (d : Nat) (s0 : Int) (h : Hp) : EX d 243 156 [] [.inl s0] h = some (.inl s0, h) := (EX_at bk_Mod_pleats_156 _ _ _).trans rfl
/-! power(JI)J of HookOverModel: method 250 -/
theorem bk_Mod_power_0 : blk 250 0 = some (((cd_Mod_power.lookup 0).getD ([], 0, []))) := rfl
theorem Mod_power_0 (d : Nat) (y0 : Int) (x2 : Int) (h : Hp) : EX d 250 0 [(0, .inr (.inl y0)), (2, .inl x2)] [] h = EX d 250 5 [(0, .inr (.inl y0)), (2, .inl x2), (3, .inr (.inl 1)), (5, .inl 0)] [] h := (EX_at bk_Mod_power_0 _ _ _).trans rfl
theorem bk_Mod_power_5 : blk 250 5 = some (((cd_Mod_power.lookup 5).getD ([], 0, []))) := rfl
theorem Mod_power_5 (d : Nat) (y0 : Int) (x2 : Int) (y3 : Int) (x5 : Int) (h : Hp) : EX d 250 5 [(0, .inr (.inl y0)), (2, .inl x2), (3, .inr (.inl y3)), (5, .inl x5)] [] h = if (wr x5) < (wr x2) then EX d 250 11 [(0, .inr (.inl y0)), (2, .inl x2), (3, .inr (.inl y3)), (5, .inl x5)] [] h else EX d 250 21 [(3, .inr (.inl y3))] [] h := (EX_at bk_Mod_power_5 _ _ _).trans rfl
theorem bk_Mod_power_11 : blk 250 11 = some (((cd_Mod_power.lookup 11).getD ([], 0, []))) := rfl
theorem Mod_power_11 (d : Nat) (y0 : Int) (x2 : Int) (y3 : Int) (x5 : Int) (h : Hp) : EX d 250 11 [(0, .inr (.inl y0)), (2, .inl x2), (3, .inr (.inl y3)), (5, .inl x5)] [] h = EX d 250 5 [(0, .inr (.inl y0)), (2, .inl x2), (3, .inr (.inl (y3 * y0))), (5, .inl (x5 + 1))] [] h := (EX_at bk_Mod_power_11 _ _ _).trans rfl
theorem bk_Mod_power_21 : blk 250 21 = some (((cd_Mod_power.lookup 21).getD ([], 0, []))) := rfl
theorem Mod_power_21 (d : Nat) (y3 : Int) (h : Hp) : EX d 250 21 [(3, .inr (.inl y3))] [] h = some (.inr (.inl y3), h) := (EX_at bk_Mod_power_21 _ _ _).trans rfl
/-! hungAtOnce(II)J of HookOverModel: method 251 -/
theorem bk_Mod_hungAtOnce_0 : blk 251 0 = some (((cd_Mod_hungAtOnce.lookup 0).getD ([], 0, []))) := rfl
theorem Mod_hungAtOnce_0 (d : Nat) (a0 : Nat) (x1 : Int) (x2 : Int) (h : Hp) : EX d 251 0 [(0, .inr (.inr a0)), (1, .inl x1), (2, .inl x2)] [] h = if (wr x1) = 0 then EX d 251 4 [] [] h else EX d 251 8 [(0, .inr (.inr a0)), (1, .inl x1), (2, .inl x2)] [] h := (EX_at bk_Mod_hungAtOnce_0 _ _ _).trans rfl
theorem bk_Mod_hungAtOnce_4 : blk 251 4 = some (((cd_Mod_hungAtOnce.lookup 4).getD ([], 0, []))) := rfl
theorem Mod_hungAtOnce_4 (d : Nat) (h : Hp) : EX d 251 4 [] [] h = EX d 251 52 [] [.inr (.inl 0)] h := (EX_at bk_Mod_hungAtOnce_4 _ _ _).trans rfl
theorem bk_Mod_hungAtOnce_8 : blk 251 8 = some (((cd_Mod_hungAtOnce.lookup 8).getD ([], 0, []))) := rfl
theorem Mod_hungAtOnce_8 (d : Nat) (a0 : Nat) (x1 : Int) (x2 : Int) (h : Hp) : EX d 251 8 [(0, .inr (.inr a0)), (1, .inl x1), (2, .inl x2)] [] h = if sK h a0 = 11 then if okx h (hR h a0 1) 20 5 then if sK h a0 = 11 then if okx h (hR h a0 1) 20 8 then bak (EX d 251) 32 [(0, .inr (.inr a0)), (1, .inl x1), (2, .inl x2)] [.inr (.inl (wr ((x1 * (hI h (hR h a0 1) 5)) + (hI h (hR h a0 1) 8))))] false (cal d 250 [.inr (.inl 10), .inl x1] h) else none else none else none else none := (EX_at bk_Mod_hungAtOnce_8 _ _ _).trans rfl
theorem bk_Mod_hungAtOnce_32 : blk 251 32 = some (((cd_Mod_hungAtOnce.lookup 32).getD ([], 0, []))) := rfl
theorem Mod_hungAtOnce_32 (d : Nat) (a0 : Nat) (x1 : Int) (x2 : Int) (t0 : Int) (t1 : Int) (h : Hp) : EX d 251 32 [(0, .inr (.inr a0)), (1, .inl x1), (2, .inl x2)] [.inr (.inl t1), .inr (.inl t0)] h = if sK h a0 = 11 then if okx h (hR h a0 1) 20 7 then bak (EX d 251) 51 [] [.inr (.inl (t0 * t1))] false (cal d 250 [.inr (.inl (10 - (wr (hI h (hR h a0 1) 7)))), .inl (x2 - x1)] h) else none else none := (EX_at bk_Mod_hungAtOnce_32 _ _ _).trans rfl
theorem bk_Mod_hungAtOnce_51 : blk 251 51 = some (((cd_Mod_hungAtOnce.lookup 51).getD ([], 0, []))) := rfl
theorem Mod_hungAtOnce_51 (d : Nat) (t0 : Int) (t1 : Int) (h : Hp) : EX d 251 51 [] [.inr (.inl t1), .inr (.inl t0)] h = EX d 251 52 [] [.inr (.inl (t0 * t1))] h := (EX_at bk_Mod_hungAtOnce_51 _ _ _).trans rfl
theorem bk_Mod_hungAtOnce_52 : blk 251 52 = some (((cd_Mod_hungAtOnce.lookup 52).getD ([], 0, []))) := rfl
theorem Mod_hungAtOnce_52 (d : Nat) (t0 : Int) (h : Hp) : EX d 251 52 [] [.inr (.inl t0)] h = some (.inr (.inl t0), h) := (EX_at bk_Mod_hungAtOnce_52 _ _ _).trans rfl
/-! averageBy(II)J of HookOverModel: method 252 -/
theorem bk_Mod_averageBy_0 : blk 252 0 = some (((cd_Mod_averageBy.lookup 0).getD ([], 0, []))) := rfl
theorem Mod_averageBy_0 (d : Nat) (a0 : Nat) (x1 : Int) (x2 : Int) (h : Hp) : EX d 252 0 [(0, .inr (.inr a0)), (1, .inl x1), (2, .inl x2)] [] h = if sK h a0 = 11 then if okx h (hR h a0 1) 20 1 then if (wr x1) = 0 then none else if sK h a0 = 11 then bak (EX d 252) 15 [(0, .inr (.inr a0)), (1, .inl x1), (2, .inl x2)] [.inr (.inl (wr (bDiv (hI h (hR h a0 1) 1) x1)))] false (cal d 251 [.inr (.inr a0), .inl x1, .inl x2] h) else none else none else none := (EX_at bk_Mod_averageBy_0 _ _ _).trans rfl
theorem bk_Mod_averageBy_15 : blk 252 15 = some (((cd_Mod_averageBy.lookup 15).getD ([], 0, []))) := rfl
theorem Mod_averageBy_15 (d : Nat) (a0 : Nat) (x1 : Int) (x2 : Int) (t0 : Int) (t1 : Int) (h : Hp) : EX d 252 15 [(0, .inr (.inr a0)), (1, .inl x1), (2, .inl x2)] [.inr (.inl t1), .inr (.inl t0)] h = if sK h a0 = 11 then if okx h (hR h a0 1) 20 1 then if (wr x1) = 0 then none else if sK h a0 = 11 then bak (EX d 252) 29 [] [.inr (.inl (t0 * t1))] false (cal d 251 [.inr (.inr a0), .inl (bRem (hI h (hR h a0 1) 1) x1), .inl x2] h) else none else none else none := (EX_at bk_Mod_averageBy_15 _ _ _).trans rfl
theorem bk_Mod_averageBy_29 : blk 252 29 = some (((cd_Mod_averageBy.lookup 29).getD ([], 0, []))) := rfl
theorem Mod_averageBy_29 (d : Nat) (t0 : Int) (t1 : Int) (h : Hp) : EX d 252 29 [] [.inr (.inl t1), .inr (.inl t0)] h = some (.inr (.inl (t0 + t1)), h) := (EX_at bk_Mod_averageBy_29 _ _ _).trans rfl
/-! common(JJ)J of HookOverModel: method 253 -/
theorem bk_Mod_common_0 : blk 253 0 = some (((cd_Mod_common.lookup 0).getD ([], 0, []))) := rfl
theorem Mod_common_0 (d : Nat) (y0 : Int) (y2 : Int) (h : Hp) : EX d 253 0 [(0, .inr (.inl y0)), (2, .inr (.inl y2))] [] h = if (wr (lCmp y2 0)) = 0 then EX d 253 6 [(0, .inr (.inl y0))] [] h else EX d 253 10 [(0, .inr (.inl y0)), (2, .inr (.inl y2))] [] h := (EX_at bk_Mod_common_0 _ _ _).trans rfl
theorem bk_Mod_common_6 : blk 253 6 = some (((cd_Mod_common.lookup 6).getD ([], 0, []))) := rfl
theorem Mod_common_6 (d : Nat) (y0 : Int) (h : Hp) : EX d 253 6 [(0, .inr (.inl y0))] [] h = EX d 253 17 [] [.inr (.inl y0)] h := (EX_at bk_Mod_common_6 _ _ _).trans rfl
theorem bk_Mod_common_10 : blk 253 10 = some (((cd_Mod_common.lookup 10).getD ([], 0, []))) := rfl
theorem Mod_common_10 (d : Nat) (y0 : Int) (y2 : Int) (h : Hp) : EX d 253 10 [(0, .inr (.inl y0)), (2, .inr (.inl y2))] [] h = if (wl y2) = 0 then none else bak (EX d 253) 17 [] [] false (cal d 253 [.inr (.inl y2), .inr (.inl (lRem y0 y2))] h) := (EX_at bk_Mod_common_10 _ _ _).trans rfl
theorem bk_Mod_common_17 : blk 253 17 = some (((cd_Mod_common.lookup 17).getD ([], 0, []))) := rfl
theorem Mod_common_17 (d : Nat) (t0 : Int) (h : Hp) : EX d 253 17 [] [.inr (.inl t0)] h = some (.inr (.inl t0), h) := (EX_at bk_Mod_common_17 _ _ _).trans rfl
/-! average(II)J of HookOverModel: method 254 -/
theorem bk_Mod_average_0 : blk 254 0 = some (((cd_Mod_average.lookup 0).getD ([], 0, []))) := rfl
theorem Mod_average_0 (d : Nat) (a0 : Nat) (x1 : Int) (x2 : Int) (h : Hp) : EX d 254 0 [(0, .inr (.inr a0)), (1, .inl x1), (2, .inl x2)] [] h = if sK h a0 = 11 then EX d 254 5 [(0, .inr (.inr a0)), (1, .inl x1), (2, .inl x2)] [] (pI h a0 0 0) else none := (EX_at bk_Mod_average_0 _ _ _).trans rfl
theorem bk_Mod_average_5 : blk 254 5 = some (((cd_Mod_average.lookup 5).getD ([], 0, []))) := rfl
theorem Mod_average_5 (d : Nat) (a0 : Nat) (x1 : Int) (x2 : Int) (h : Hp) : EX d 254 5 [(0, .inr (.inr a0)), (1, .inl x1), (2, .inl x2)] [] h = bak (EX d 254) 12 [(0, .inr (.inr a0)), (1, .inl x1), (2, .inl x2)] [] false (cal d 71 [.inr (.inl (wr x2)), .inr (.inl 0), .inr (.inl 1)] h) := (EX_at bk_Mod_average_5 _ _ _).trans rfl
theorem bk_Mod_average_12 : blk 254 12 = some (((cd_Mod_average.lookup 12).getD ([], 0, []))) := rfl
theorem Mod_average_12 (d : Nat) (a0 : Nat) (x1 : Int) (x2 : Int) (s0 : Int) (h : Hp) : EX d 254 12 [(0, .inr (.inr a0)), (1, .inl x1), (2, .inl x2)] [.inl s0] h = if (wr s0) = 0 then EX d 254 15 [] [] h else EX d 254 19 [(0, .inr (.inr a0)), (1, .inl x1), (2, .inl x2)] [] h := (EX_at bk_Mod_average_12 _ _ _).trans rfl
theorem bk_Mod_average_15 : blk 254 15 = some (((cd_Mod_average.lookup 15).getD ([], 0, []))) := rfl
theorem Mod_average_15 (d : Nat) (h : Hp) : EX d 254 15 [] [] h = some (.inr (.inl (-2)), h) := (EX_at bk_Mod_average_15 _ _ _).trans rfl
theorem bk_Mod_average_19 : blk 254 19 = some (((cd_Mod_average.lookup 19).getD ([], 0, []))) := rfl
theorem Mod_average_19 (d : Nat) (a0 : Nat) (x1 : Int) (x2 : Int) (h : Hp) : EX d 254 19 [(0, .inr (.inr a0)), (1, .inl x1), (2, .inl x2)] [] h = bak (EX d 254) 28 [(0, .inr (.inr a0)), (1, .inl x1), (2, .inl x2)] [] false (cal d 71 [.inr (.inl (wr x1)), .inr (.inl 1), .inr (.inl 12)] h) := (EX_at bk_Mod_average_19 _ _ _).trans rfl
theorem bk_Mod_average_28 : blk 254 28 = some (((cd_Mod_average.lookup 28).getD ([], 0, []))) := rfl
theorem Mod_average_28 (d : Nat) (a0 : Nat) (x1 : Int) (x2 : Int) (s0 : Int) (h : Hp) : EX d 254 28 [(0, .inr (.inr a0)), (1, .inl x1), (2, .inl x2)] [.inl s0] h = if (wr s0) = 0 then EX d 254 31 [] [] h else EX d 254 35 [(0, .inr (.inr a0)), (1, .inl x1), (2, .inl x2)] [] h := (EX_at bk_Mod_average_28 _ _ _).trans rfl
theorem bk_Mod_average_31 : blk 254 31 = some (((cd_Mod_average.lookup 31).getD ([], 0, []))) := rfl
theorem Mod_average_31 (d : Nat) (h : Hp) : EX d 254 31 [] [] h = some (.inr (.inl (-3)), h) := (EX_at bk_Mod_average_31 _ _ _).trans rfl
theorem bk_Mod_average_35 : blk 254 35 = some (((cd_Mod_average.lookup 35).getD ([], 0, []))) := rfl
theorem Mod_average_35 (d : Nat) (a0 : Nat) (x1 : Int) (x2 : Int) (h : Hp) : EX d 254 35 [(0, .inr (.inr a0)), (1, .inl x1), (2, .inl x2)] [] h = if sK h a0 = 11 then if okx h (hR h a0 1) 20 1 then if (wr (hI h (hR h a0 1) 1)) = 0 then EX d 254 44 [] [] h else EX d 254 48 [(0, .inr (.inr a0)), (1, .inl x1), (2, .inl x2)] [] h else none else none := (EX_at bk_Mod_average_35 _ _ _).trans rfl
theorem bk_Mod_average_44 : blk 254 44 = some (((cd_Mod_average.lookup 44).getD ([], 0, []))) := rfl
theorem Mod_average_44 (d : Nat) (h : Hp) : EX d 254 44 [] [] h = some (.inr (.inl (-5)), h) := (EX_at bk_Mod_average_44 _ _ _).trans rfl
theorem bk_Mod_average_48 : blk 254 48 = some (((cd_Mod_average.lookup 48).getD ([], 0, []))) := rfl
theorem Mod_average_48 (d : Nat) (a0 : Nat) (x1 : Int) (x2 : Int) (h : Hp) : EX d 254 48 [(0, .inr (.inr a0)), (1, .inl x1), (2, .inl x2)] [] h = if sK h a0 = 11 then if okx h (hR h a0 1) 20 1 then if (wr x1) < (wr (hI h (hR h a0 1) 1)) then EX d 254 58 [(0, .inr (.inr a0)), (1, .inl x1), (2, .inl x2)] [] h else EX d 254 62 [(0, .inr (.inr a0)), (2, .inl x2)] [] h else none else none := (EX_at bk_Mod_average_48 _ _ _).trans rfl
theorem bk_Mod_average_58 : blk 254 58 = some (((cd_Mod_average.lookup 58).getD ([], 0, []))) := rfl
theorem Mod_average_58 (d : Nat) (a0 : Nat) (x1 : Int) (x2 : Int) (h : Hp) : EX d 254 58 [(0, .inr (.inr a0)), (1, .inl x1), (2, .inl x2)] [] h = EX d 254 68 [(0, .inr (.inr a0)), (2, .inl x2)] [.inl x1] h := (EX_at bk_Mod_average_58 _ _ _).trans rfl
theorem bk_Mod_average_62 : blk 254 62 = some (((cd_Mod_average.lookup 62).getD ([], 0, []))) := rfl
theorem Mod_average_62 (d : Nat) (a0 : Nat) (x2 : Int) (h : Hp) : EX d 254 62 [(0, .inr (.inr a0)), (2, .inl x2)] [] h = if sK h a0 = 11 then if okx h (hR h a0 1) 20 1 then EX d 254 68 [(0, .inr (.inr a0)), (2, .inl x2)] [.inl (hI h (hR h a0 1) 1)] h else none else none := (EX_at bk_Mod_average_62 _ _ _).trans rfl
theorem bk_Mod_average_68 : blk 254 68 = some (((cd_Mod_average.lookup 68).getD ([], 0, []))) := rfl
theorem Mod_average_68 (d : Nat) (a0 : Nat) (x2 : Int) (s0 : Int) (h : Hp) : EX d 254 68 [(0, .inr (.inr a0)), (2, .inl x2)] [.inl s0] h = if sK h a0 = 11 then bak (EX d 254) 75 [(0, .inr (.inr a0)), (2, .inl x2), (3, .inl s0)] [] false (cal d 252 [.inr (.inr a0), .inl s0, .inl s0] h) else none := (EX_at bk_Mod_average_68 _ _ _).trans rfl
theorem bk_Mod_average_75 : blk 254 75 = some (((cd_Mod_average.lookup 75).getD ([], 0, []))) := rfl
theorem Mod_average_75 (d : Nat) (a0 : Nat) (x2 : Int) (x3 : Int) (t0 : Int) (h : Hp) : EX d 254 75 [(0, .inr (.inr a0)), (2, .inl x2), (3, .inl x3)] [.inr (.inl t0)] h = if sK h a0 = 11 then if okx h (hR h a0 1) 20 7 then bak (EX d 254) 93 [(2, .inl x2), (4, .inr (.inl t0))] [] false (cal d 250 [.inr (.inl (10 - (wr (hI h (hR h a0 1) 7)))), .inl x3] h) else none else none := (EX_at bk_Mod_average_75 _ _ _).trans rfl
theorem bk_Mod_average_93 : blk 254 93 = some (((cd_Mod_average.lookup 93).getD ([], 0, []))) := rfl
theorem Mod_average_93 (d : Nat) (x2 : Int) (y4 : Int) (t0 : Int) (h : Hp) : EX d 254 93 [(2, .inl x2), (4, .inr (.inl y4))] [.inr (.inl t0)] h = bak (EX d 254) 102 [(2, .inl x2), (4, .inr (.inl y4)), (6, .inr (.inl t0))] [] false (cal d 253 [.inr (.inl y4), .inr (.inl t0)] h) := (EX_at bk_Mod_average_93 _ _ _).trans rfl
theorem bk_Mod_average_102 : blk 254 102 = some (((cd_Mod_average.lookup 102).getD ([], 0, []))) := rfl
theorem Mod_average_102 (d : Nat) (x2 : Int) (y4 : Int) (y6 : Int) (t0 : Int) (h : Hp) : EX d 254 102 [(2, .inl x2), (4, .inr (.inl y4)), (6, .inr (.inl y6))] [.inr (.inl t0)] h = if (wr x2) = 0 then EX d 254 108 [(4, .inr (.inl y4)), (8, .inr (.inl t0))] [] h else EX d 254 116 [(6, .inr (.inl y6)), (8, .inr (.inl t0))] [] h := (EX_at bk_Mod_average_102 _ _ _).trans rfl
theorem bk_Mod_average_108 : blk 254 108 = some (((cd_Mod_average.lookup 108).getD ([], 0, []))) := rfl
theorem Mod_average_108 (d : Nat) (y4 : Int) (y8 : Int) (h : Hp) : EX d 254 108 [(4, .inr (.inl y4)), (8, .inr (.inl y8))] [] h = if (wl y8) = 0 then none else EX d 254 121 [] [.inr (.inl (lDiv y4 y8))] h := (EX_at bk_Mod_average_108 _ _ _).trans rfl
theorem bk_Mod_average_116 : blk 254 116 = some (((cd_Mod_average.lookup 116).getD ([], 0, []))) := rfl
theorem Mod_average_116 (d : Nat) (y6 : Int) (y8 : Int) (h : Hp) : EX d 254 116 [(6, .inr (.inl y6)), (8, .inr (.inl y8))] [] h = if (wl y8) = 0 then none else EX d 254 121 [] [.inr (.inl (lDiv y6 y8))] h := (EX_at bk_Mod_average_116 _ _ _).trans rfl
theorem bk_Mod_average_121 : blk 254 121 = some (((cd_Mod_average.lookup 121).getD ([], 0, []))) := rfl
theorem Mod_average_121 (d : Nat) (t0 : Int) (h : Hp) : EX d 254 121 [] [.inr (.inl t0)] h = some (.inr (.inl t0), h) := (EX_at bk_Mod_average_121 _ _ _).trans rfl
/-! bestLook()I of HookOverModel: method 256 -/
theorem bk_Mod_bestLook_0 : blk 256 0 = some (((cd_Mod_bestLook.lookup 0).getD ([], 0, []))) := rfl
theorem Mod_bestLook_0 (d : Nat) (a0 : Nat) (h : Hp) : EX d 256 0 [(0, .inr (.inr a0))] [] h = if sK h a0 = 11 then EX d 256 5 [(0, .inr (.inr a0))] [] (pI h a0 0 0) else none := (EX_at bk_Mod_bestLook_0 _ _ _).trans rfl
theorem bk_Mod_bestLook_5 : blk 256 5 = some (((cd_Mod_bestLook.lookup 5).getD ([], 0, []))) := rfl
theorem Mod_bestLook_5 (d : Nat) (a0 : Nat) (h : Hp) : EX d 256 5 [(0, .inr (.inr a0))] [] h = if sK h a0 = 11 then if okx h (hR h a0 1) 20 1 then if (wr (hI h (hR h a0 1) 1)) = 0 then EX d 256 14 [] [] h else EX d 256 17 [(0, .inr (.inr a0))] [] h else none else none := (EX_at bk_Mod_bestLook_5 _ _ _).trans rfl
theorem bk_Mod_bestLook_14 : blk 256 14 = some (((cd_Mod_bestLook.lookup 14).getD ([], 0, []))) := rfl
theorem Mod_bestLook_14 (d : Nat) (h : Hp) : EX d 256 14 [] [] h = some (.inl (-5), h) := (EX_at bk_Mod_bestLook_14 _ _ _).trans rfl
theorem bk_Mod_bestLook_17 : blk 256 17 = some (((cd_Mod_bestLook.lookup 17).getD ([], 0, []))) := rfl
theorem Mod_bestLook_17 (d : Nat) (a0 : Nat) (h : Hp) : EX d 256 17 [(0, .inr (.inr a0))] [] h = EX d 256 21 [(0, .inr (.inr a0)), (1, .inl 1), (2, .inl 2)] [] h := (EX_at bk_Mod_bestLook_17 _ _ _).trans rfl
theorem bk_Mod_bestLook_21 : blk 256 21 = some (((cd_Mod_bestLook.lookup 21).getD ([], 0, []))) := rfl
theorem Mod_bestLook_21 (d : Nat) (a0 : Nat) (x1 : Int) (x2 : Int) (h : Hp) : EX d 256 21 [(0, .inr (.inr a0)), (1, .inl x1), (2, .inl x2)] [] h = if sK h a0 = 11 then if okx h (hR h a0 1) 20 1 then if (wr (hI h (hR h a0 1) 1)) < (wr x2) then EX d 256 65 [(1, .inl x1)] [] h else EX d 256 31 [(0, .inr (.inr a0)), (1, .inl x1), (2, .inl x2)] [] h else none else none := (EX_at bk_Mod_bestLook_21 _ _ _).trans rfl
theorem bk_Mod_bestLook_31 : blk 256 31 = some (((cd_Mod_bestLook.lookup 31).getD ([], 0, []))) := rfl
theorem Mod_bestLook_31 (d : Nat) (a0 : Nat) (x1 : Int) (x2 : Int) (h : Hp) : EX d 256 31 [(0, .inr (.inr a0)), (1, .inl x1), (2, .inl x2)] [] h = if sK h a0 = 11 then if okx h (hR h a0 1) 20 1 then if sK h a0 = 11 then bak (EX d 256) 42 [(0, .inr (.inr a0)), (1, .inl x1), (2, .inl x2)] [] false (cal d 252 [.inr (.inr a0), .inl x2, .inl (hI h (hR h a0 1) 1)] h) else none else none else none := (EX_at bk_Mod_bestLook_31 _ _ _).trans rfl
theorem bk_Mod_bestLook_42 : blk 256 42 = some (((cd_Mod_bestLook.lookup 42).getD ([], 0, []))) := rfl
theorem Mod_bestLook_42 (d : Nat) (a0 : Nat) (x1 : Int) (x2 : Int) (t0 : Int) (h : Hp) : EX d 256 42 [(0, .inr (.inr a0)), (1, .inl x1), (2, .inl x2)] [.inr (.inl t0)] h = if sK h a0 = 11 then if okx h (hR h a0 1) 20 1 then if sK h a0 = 11 then bak (EX d 256) 53 [(0, .inr (.inr a0)), (1, .inl x1), (2, .inl x2)] [.inr (.inl t0)] false (cal d 252 [.inr (.inr a0), .inl x1, .inl (hI h (hR h a0 1) 1)] h) else none else none else none := (EX_at bk_Mod_bestLook_42 _ _ _).trans rfl
theorem bk_Mod_bestLook_53 : blk 256 53 = some (((cd_Mod_bestLook.lookup 53).getD ([], 0, []))) := rfl
theorem Mod_bestLook_53 (d : Nat) (a0 : Nat) (x1 : Int) (x2 : Int) (t0 : Int) (t1 : Int) (h : Hp) : EX d 256 53 [(0, .inr (.inr a0)), (1, .inl x1), (2, .inl x2)] [.inr (.inl t1), .inr (.inl t0)] h = if (wr (lCmp t0 t1)) < 0 then EX d 256 57 [(0, .inr (.inr a0)), (2, .inl x2)] [] h else EX d 256 59 [(0, .inr (.inr a0)), (1, .inl x1), (2, .inl x2)] [] h := (EX_at bk_Mod_bestLook_53 _ _ _).trans rfl
theorem bk_Mod_bestLook_57 : blk 256 57 = some (((cd_Mod_bestLook.lookup 57).getD ([], 0, []))) := rfl
theorem Mod_bestLook_57 (d : Nat) (a0 : Nat) (x2 : Int) (h : Hp) : EX d 256 57 [(0, .inr (.inr a0)), (2, .inl x2)] [] h = EX d 256 59 [(0, .inr (.inr a0)), (1, .inl x2), (2, .inl x2)] [] h := (EX_at bk_Mod_bestLook_57 _ _ _).trans rfl
theorem bk_Mod_bestLook_59 : blk 256 59 = some (((cd_Mod_bestLook.lookup 59).getD ([], 0, []))) := rfl
theorem Mod_bestLook_59 (d : Nat) (a0 : Nat) (x1 : Int) (x2 : Int) (h : Hp) : EX d 256 59 [(0, .inr (.inr a0)), (1, .inl x1), (2, .inl x2)] [] h = EX d 256 21 [(0, .inr (.inr a0)), (1, .inl x1), (2, .inl (x2 + 1))] [] h := (EX_at bk_Mod_bestLook_59 _ _ _).trans rfl
theorem bk_Mod_bestLook_65 : blk 256 65 = some (((cd_Mod_bestLook.lookup 65).getD ([], 0, []))) := rfl
theorem Mod_bestLook_65 (d : Nat) (x1 : Int) (h : Hp) : EX d 256 65 [(1, .inl x1)] [] h = some (.inl x1, h) := (EX_at bk_Mod_bestLook_65 _ _ _).trans rfl
/-! rightOut(II)I of HookOverModel: method 259 -/
theorem bk_Mod_rightOut_0 : blk 259 0 = some (((cd_Mod_rightOut.lookup 0).getD ([], 0, []))) := rfl
theorem Mod_rightOut_0 (d : Nat) (a0 : Nat) (x1 : Int) (x2 : Int) (h : Hp) : EX d 259 0 [(0, .inr (.inr a0)), (1, .inl x1), (2, .inl x2)] [] h = EX d 259 5 [(0, .inr (.inr a0)), (1, .inl x1), (2, .inl x2), (3, .inl 0), (4, .inl 0)] [] h := (EX_at bk_Mod_rightOut_0 _ _ _).trans rfl
theorem bk_Mod_rightOut_5 : blk 259 5 = some (((cd_Mod_rightOut.lookup 5).getD ([], 0, []))) := rfl
theorem Mod_rightOut_5 (d : Nat) (a0 : Nat) (x1 : Int) (x2 : Int) (x3 : Int) (x4 : Int) (h : Hp) : EX d 259 5 [(0, .inr (.inr a0)), (1, .inl x1), (2, .inl x2), (3, .inl x3), (4, .inl x4)] [] h = if sK h a0 = 11 then if okx h (hR h a0 1) 20 1 then if (wr x4) < (wr (hI h (hR h a0 1) 1)) then EX d 259 16 [(0, .inr (.inr a0)), (1, .inl x1), (2, .inl x2), (3, .inl x3), (4, .inl x4)] [] h else EX d 259 68 [(3, .inl x3)] [] h else none else none := (EX_at bk_Mod_rightOut_5 _ _ _).trans rfl
theorem bk_Mod_rightOut_16 : blk 259 16 = some (((cd_Mod_rightOut.lookup 16).getD ([], 0, []))) := rfl
theorem Mod_rightOut_16 (d : Nat) (a0 : Nat) (x1 : Int) (x2 : Int) (x3 : Int) (x4 : Int) (h : Hp) : EX d 259 16 [(0, .inr (.inr a0)), (1, .inl x1), (2, .inl x2), (3, .inl x3), (4, .inl x4)] [] h = if (wr x4) < (wr x1) then EX d 259 22 [(0, .inr (.inr a0)), (1, .inl x1), (2, .inl x2), (3, .inl x3), (4, .inl x4)] [] h else EX d 259 27 [(0, .inr (.inr a0)), (1, .inl x1), (2, .inl x2), (3, .inl x3), (4, .inl x4)] [] h := (EX_at bk_Mod_rightOut_16 _ _ _).trans rfl
theorem bk_Mod_rightOut_22 : blk 259 22 = some (((cd_Mod_rightOut.lookup 22).getD ([], 0, []))) := rfl
theorem Mod_rightOut_22 (d : Nat) (a0 : Nat) (x1 : Int) (x2 : Int) (x3 : Int) (x4 : Int) (h : Hp) : EX d 259 22 [(0, .inr (.inr a0)), (1, .inl x1), (2, .inl x2), (3, .inl x3), (4, .inl x4)] [] h = EX d 259 31 [(0, .inr (.inr a0)), (1, .inl x1), (2, .inl x2), (3, .inl x3), (4, .inl x4)] [.inl x4] h := (EX_at bk_Mod_rightOut_22 _ _ _).trans rfl
theorem bk_Mod_rightOut_27 : blk 259 27 = some (((cd_Mod_rightOut.lookup 27).getD ([], 0, []))) := rfl
theorem Mod_rightOut_27 (d : Nat) (a0 : Nat) (x1 : Int) (x2 : Int) (x3 : Int) (x4 : Int) (h : Hp) : EX d 259 27 [(0, .inr (.inr a0)), (1, .inl x1), (2, .inl x2), (3, .inl x3), (4, .inl x4)] [] h = EX d 259 31 [(0, .inr (.inr a0)), (1, .inl x1), (2, .inl x2), (3, .inl x3), (4, .inl x4)] [.inl (x4 + x2)] h := (EX_at bk_Mod_rightOut_27 _ _ _).trans rfl
theorem bk_Mod_rightOut_31 : blk 259 31 = some (((cd_Mod_rightOut.lookup 31).getD ([], 0, []))) := rfl
theorem Mod_rightOut_31 (d : Nat) (a0 : Nat) (x1 : Int) (x2 : Int) (x3 : Int) (x4 : Int) (s0 : Int) (h : Hp) : EX d 259 31 [(0, .inr (.inr a0)), (1, .inl x1), (2, .inl x2), (3, .inl x3), (4, .inl x4)] [.inl s0] h = if sK h a0 = 11 then bak (EX d 259) 41 [(0, .inr (.inr a0)), (1, .inl x1), (2, .inl x2), (4, .inl x4), (5, .inl s0)] [.inl x3] false (cal d 117 [.inr (.inr a0), .inr (.inl (wr s0))] h) else none := (EX_at bk_Mod_rightOut_31 _ _ _).trans rfl
theorem bk_Mod_rightOut_41 : blk 259 41 = some (((cd_Mod_rightOut.lookup 41).getD ([], 0, []))) := rfl
theorem Mod_rightOut_41 (d : Nat) (a0 : Nat) (x1 : Int) (x2 : Int) (x4 : Int) (x5 : Int) (s0 : Int) (s1 : Int) (h : Hp) : EX d 259 41 [(0, .inr (.inr a0)), (1, .inl x1), (2, .inl x2), (4, .inl x4), (5, .inl x5)] [.inl s1, .inl s0] h = if (wr s1) = 0 then EX d 259 59 [(0, .inr (.inr a0)), (1, .inl x1), (2, .inl x2), (4, .inl x4)] [.inl s0] h else EX d 259 44 [(0, .inr (.inr a0)), (1, .inl x1), (2, .inl x2), (4, .inl x4), (5, .inl x5)] [.inl s0] h := (EX_at bk_Mod_rightOut_41 _ _ _).trans rfl
theorem bk_Mod_rightOut_44 : blk 259 44 = some (((cd_Mod_rightOut.lookup 44).getD ([], 0, []))) := rfl
theorem Mod_rightOut_44 (d : Nat) (a0 : Nat) (x1 : Int) (x2 : Int) (x4 : Int) (x5 : Int) (s0 : Int) (h : Hp) : EX d 259 44 [(0, .inr (.inr a0)), (1, .inl x1), (2, .inl x2), (4, .inl x4), (5, .inl x5)] [.inl s0] h = if sK h a0 = 11 then bak (EX d 259) 52 [(0, .inr (.inr a0)), (1, .inl x1), (2, .inl x2), (4, .inl x4)] [.inl s0] false (cal d 113 [.inr (.inr a0), .inl x4, .inl x5] h) else none := (EX_at bk_Mod_rightOut_44 _ _ _).trans rfl
theorem bk_Mod_rightOut_52 : blk 259 52 = some (((cd_Mod_rightOut.lookup 52).getD ([], 0, []))) := rfl
theorem Mod_rightOut_52 (d : Nat) (a0 : Nat) (x1 : Int) (x2 : Int) (x4 : Int) (s0 : Int) (s1 : Int) (h : Hp) : EX d 259 52 [(0, .inr (.inr a0)), (1, .inl x1), (2, .inl x2), (4, .inl x4)] [.inl s1, .inl s0] h = if (wr s1) = 0 then EX d 259 59 [(0, .inr (.inr a0)), (1, .inl x1), (2, .inl x2), (4, .inl x4)] [.inl s0] h else EX d 259 55 [(0, .inr (.inr a0)), (1, .inl x1), (2, .inl x2), (4, .inl x4)] [.inl s0] h := (EX_at bk_Mod_rightOut_52 _ _ _).trans rfl
theorem bk_Mod_rightOut_55 : blk 259 55 = some (((cd_Mod_rightOut.lookup 55).getD ([], 0, []))) := rfl
theorem Mod_rightOut_55 (d : Nat) (a0 : Nat) (x1 : Int) (x2 : Int) (x4 : Int) (s0 : Int) (h : Hp) : EX d 259 55 [(0, .inr (.inr a0)), (1, .inl x1), (2, .inl x2), (4, .inl x4)] [.inl s0] h = EX d 259 60 [(0, .inr (.inr a0)), (1, .inl x1), (2, .inl x2), (4, .inl x4)] [.inl 1, .inl s0] h := (EX_at bk_Mod_rightOut_55 _ _ _).trans rfl
theorem bk_Mod_rightOut_59 : blk 259 59 = some (((cd_Mod_rightOut.lookup 59).getD ([], 0, []))) := rfl
theorem Mod_rightOut_59 (d : Nat) (a0 : Nat) (x1 : Int) (x2 : Int) (x4 : Int) (s0 : Int) (h : Hp) : EX d 259 59 [(0, .inr (.inr a0)), (1, .inl x1), (2, .inl x2), (4, .inl x4)] [.inl s0] h = EX d 259 60 [(0, .inr (.inr a0)), (1, .inl x1), (2, .inl x2), (4, .inl x4)] [.inl 0, .inl s0] h := (EX_at bk_Mod_rightOut_59 _ _ _).trans rfl
theorem bk_Mod_rightOut_60 : blk 259 60 = some (((cd_Mod_rightOut.lookup 60).getD ([], 0, []))) := rfl
theorem Mod_rightOut_60 (d : Nat) (a0 : Nat) (x1 : Int) (x2 : Int) (x4 : Int) (s0 : Int) (s1 : Int) (h : Hp) : EX d 259 60 [(0, .inr (.inr a0)), (1, .inl x1), (2, .inl x2), (4, .inl x4)] [.inl s1, .inl s0] h = EX d 259 5 [(0, .inr (.inr a0)), (1, .inl x1), (2, .inl x2), (3, .inl (s0 + s1)), (4, .inl (x4 + 1))] [] h := (EX_at bk_Mod_rightOut_60 _ _ _).trans rfl
theorem bk_Mod_rightOut_68 : blk 259 68 = some (((cd_Mod_rightOut.lookup 68).getD ([], 0, []))) := rfl
theorem Mod_rightOut_68 (d : Nat) (x3 : Int) (h : Hp) : EX d 259 68 [(3, .inl x3)] [] h = some (.inl x3, h) := (EX_at bk_Mod_rightOut_68 _ _ _).trans rfl
/-! oneOut(II)I of HookOverModel: method 260 -/
theorem bk_Mod_oneOut_0 : blk 260 0 = some (((cd_Mod_oneOut.lookup 0).getD ([], 0, []))) := rfl
theorem Mod_oneOut_0 (d : Nat) (a0 : Nat) (x1 : Int) (x2 : Int) (h : Hp) : EX d 260 0 [(0, .inr (.inr a0)), (1, .inl x1), (2, .inl x2)] [] h = if sK h a0 = 11 then EX d 260 5 [(0, .inr (.inr a0)), (1, .inl x1), (2, .inl x2)] [] (pI h a0 0 0) else none := (EX_at bk_Mod_oneOut_0 _ _ _).trans rfl
theorem bk_Mod_oneOut_5 : blk 260 5 = some (((cd_Mod_oneOut.lookup 5).getD ([], 0, []))) := rfl
theorem Mod_oneOut_5 (d : Nat) (a0 : Nat) (x1 : Int) (x2 : Int) (h : Hp) : EX d 260 5 [(0, .inr (.inr a0)), (1, .inl x1), (2, .inl x2)] [] h = if sK h a0 = 11 then if okx h (hR h a0 1) 20 1 then bak (EX d 260) 18 [(0, .inr (.inr a0)), (1, .inl x1), (2, .inl x2)] [] false (cal d 71 [.inr (.inl (wr x1)), .inr (.inl 0), .inr (.inl (wr (hI h (hR h a0 1) 1)))] h) else none else none := (EX_at bk_Mod_oneOut_5 _ _ _).trans rfl
theorem bk_Mod_oneOut_18 : blk 260 18 = some (((cd_Mod_oneOut.lookup 18).getD ([], 0, []))) := rfl
theorem Mod_oneOut_18 (d : Nat) (a0 : Nat) (x1 : Int) (x2 : Int) (s0 : Int) (h : Hp) : EX d 260 18 [(0, .inr (.inr a0)), (1, .inl x1), (2, .inl x2)] [.inl s0] h = if (wr s0) = 0 then EX d 260 40 [] [] h else EX d 260 21 [(0, .inr (.inr a0)), (1, .inl x1), (2, .inl x2)] [] h := (EX_at bk_Mod_oneOut_18 _ _ _).trans rfl
theorem bk_Mod_oneOut_21 : blk 260 21 = some (((cd_Mod_oneOut.lookup 21).getD ([], 0, []))) := rfl
theorem Mod_oneOut_21 (d : Nat) (a0 : Nat) (x1 : Int) (x2 : Int) (h : Hp) : EX d 260 21 [(0, .inr (.inr a0)), (1, .inl x1), (2, .inl x2)] [] h = if (wr x2) = 1 then EX d 260 31 [(0, .inr (.inr a0)), (1, .inl x1), (2, .inl x2)] [] h else EX d 260 26 [(0, .inr (.inr a0)), (1, .inl x1), (2, .inl x2)] [] h := (EX_at bk_Mod_oneOut_21 _ _ _).trans rfl
theorem bk_Mod_oneOut_26 : blk 260 26 = some (((cd_Mod_oneOut.lookup 26).getD ([], 0, []))) := rfl
theorem Mod_oneOut_26 (d : Nat) (a0 : Nat) (x1 : Int) (x2 : Int) (h : Hp) : EX d 260 26 [(0, .inr (.inr a0)), (1, .inl x1), (2, .inl x2)] [] h = if (wr x2) = (-1) then EX d 260 31 [(0, .inr (.inr a0)), (1, .inl x1), (2, .inl x2)] [] h else EX d 260 40 [] [] h := (EX_at bk_Mod_oneOut_26 _ _ _).trans rfl
theorem bk_Mod_oneOut_31 : blk 260 31 = some (((cd_Mod_oneOut.lookup 31).getD ([], 0, []))) := rfl
theorem Mod_oneOut_31 (d : Nat) (a0 : Nat) (x1 : Int) (x2 : Int) (h : Hp) : EX d 260 31 [(0, .inr (.inr a0)), (1, .inl x1), (2, .inl x2)] [] h = if sK h a0 = 11 then bak (EX d 260) 37 [] [] false (cal d 259 [.inr (.inr a0), .inl x1, .inl x2] h) else none := (EX_at bk_Mod_oneOut_31 _ _ _).trans rfl
theorem bk_Mod_oneOut_37 : blk 260 37 = some (((cd_Mod_oneOut.lookup 37).getD ([], 0, []))) := rfl
theorem Mod_oneOut_37 (d : Nat) (s0 : Int) (h : Hp) : EX d 260 37 [] [.inl s0] h = EX d 260 42 [] [.inl s0] h := (EX_at bk_Mod_oneOut_37 _ _ _).trans rfl
theorem bk_Mod_oneOut_40 : blk 260 40 = some (((cd_Mod_oneOut.lookup 40).getD ([], 0, []))) := rfl
theorem Mod_oneOut_40 (d : Nat) (h : Hp) : EX d 260 40 [] [] h = EX d 260 42 [] [.inl (-3)] h := (EX_at bk_Mod_oneOut_40 _ _ _).trans rfl
theorem bk_Mod_oneOut_42 : blk 260 42 = some (((cd_Mod_oneOut.lookup 42).getD ([], 0, []))) := rfl
theorem Mod_oneOut_42 (d : Nat) (s0 : Int) (h : Hp) : EX d 260 42 [] [.inl s0] h = some (.inl s0, h) := (EX_at bk_Mod_oneOut_42 _ _ _).trans rfl
/-! out(II)I of HookOverModel: method 262 -/
theorem bk_Mod_out_0 : blk 262 0 = some (((cd_Mod_out.lookup 0).getD ([], 0, []))) := rfl
theorem Mod_out_0 (d : Nat) (a0 : Nat) (x1 : Int) (x2 : Int) (h : Hp) : EX d 262 0 [(0, .inr (.inr a0)), (1, .inl x1), (2, .inl x2)] [] h = if sK h a0 = 11 then EX d 262 5 [(0, .inr (.inr a0)), (1, .inl x1), (2, .inl x2)] [] (pI h a0 0 0) else none := (EX_at bk_Mod_out_0 _ _ _).trans rfl
theorem bk_Mod_out_5 : blk 262 5 = some (((cd_Mod_out.lookup 5).getD ([], 0, []))) := rfl
theorem Mod_out_5 (d : Nat) (a0 : Nat) (x1 : Int) (x2 : Int) (h : Hp) : EX d 262 5 [(0, .inr (.inr a0)), (1, .inl x1), (2, .inl x2)] [] h = bak (EX d 262) 12 [(0, .inr (.inr a0)), (1, .inl x1), (2, .inl x2)] [] false (cal d 71 [.inr (.inl (wr x2)), .inr (.inl 0), .inr (.inl 1)] h) := (EX_at bk_Mod_out_5 _ _ _).trans rfl
theorem bk_Mod_out_12 : blk 262 12 = some (((cd_Mod_out.lookup 12).getD ([], 0, []))) := rfl
theorem Mod_out_12 (d : Nat) (a0 : Nat) (x1 : Int) (x2 : Int) (s0 : Int) (h : Hp) : EX d 262 12 [(0, .inr (.inr a0)), (1, .inl x1), (2, .inl x2)] [.inl s0] h = if (wr s0) = 0 then EX d 262 15 [] [] h else EX d 262 18 [(0, .inr (.inr a0)), (1, .inl x1), (2, .inl x2)] [] h := (EX_at bk_Mod_out_12 _ _ _).trans rfl
theorem bk_Mod_out_15 : blk 262 15 = some (((cd_Mod_out.lookup 15).getD ([], 0, []))) := rfl
theorem Mod_out_15 (d : Nat) (h : Hp) : EX d 262 15 [] [] h = some (.inl (-2), h) := (EX_at bk_Mod_out_15 _ _ _).trans rfl
theorem bk_Mod_out_18 : blk 262 18 = some (((cd_Mod_out.lookup 18).getD ([], 0, []))) := rfl
theorem Mod_out_18 (d : Nat) (a0 : Nat) (x1 : Int) (x2 : Int) (h : Hp) : EX d 262 18 [(0, .inr (.inr a0)), (1, .inl x1), (2, .inl x2)] [] h = if (wr x1) = 1 then EX d 262 31 [(0, .inr (.inr a0)), (1, .inl x1), (2, .inl x2)] [] h else EX d 262 23 [(0, .inr (.inr a0)), (1, .inl x1), (2, .inl x2)] [] h := (EX_at bk_Mod_out_18 _ _ _).trans rfl
theorem bk_Mod_out_23 : blk 262 23 = some (((cd_Mod_out.lookup 23).getD ([], 0, []))) := rfl
theorem Mod_out_23 (d : Nat) (a0 : Nat) (x1 : Int) (x2 : Int) (h : Hp) : EX d 262 23 [(0, .inr (.inr a0)), (1, .inl x1), (2, .inl x2)] [] h = if (wr x1) = (-1) then EX d 262 31 [(0, .inr (.inr a0)), (1, .inl x1), (2, .inl x2)] [] h else EX d 262 28 [] [] h := (EX_at bk_Mod_out_23 _ _ _).trans rfl
theorem bk_Mod_out_28 : blk 262 28 = some (((cd_Mod_out.lookup 28).getD ([], 0, []))) := rfl
theorem Mod_out_28 (d : Nat) (h : Hp) : EX d 262 28 [] [] h = some (.inl (-3), h) := (EX_at bk_Mod_out_28 _ _ _).trans rfl
theorem bk_Mod_out_31 : blk 262 31 = some (((cd_Mod_out.lookup 31).getD ([], 0, []))) := rfl
theorem Mod_out_31 (d : Nat) (a0 : Nat) (x1 : Int) (x2 : Int) (h : Hp) : EX d 262 31 [(0, .inr (.inr a0)), (1, .inl x1), (2, .inl x2)] [] h = EX d 262 36 [(0, .inr (.inr a0)), (1, .inl x1), (2, .inl x2), (3, .inl 0), (4, .inl 1)] [] h := (EX_at bk_Mod_out_31 _ _ _).trans rfl
theorem bk_Mod_out_36 : blk 262 36 = some (((cd_Mod_out.lookup 36).getD ([], 0, []))) := rfl
theorem Mod_out_36 (d : Nat) (a0 : Nat) (x1 : Int) (x2 : Int) (x3 : Int) (x4 : Int) (h : Hp) : EX d 262 36 [(0, .inr (.inr a0)), (1, .inl x1), (2, .inl x2), (3, .inl x3), (4, .inl x4)] [] h = if sK h a0 = 11 then if okx h (hR h a0 1) 20 1 then if (wr (hI h (hR h a0 1) 1)) < (wr x4) then EX d 262 72 [(0, .inr (.inr a0)), (1, .inl x1), (2, .inl x2), (3, .inl x3)] [] h else EX d 262 47 [(0, .inr (.inr a0)), (1, .inl x1), (2, .inl x2), (3, .inl x3), (4, .inl x4)] [] h else none else none := (EX_at bk_Mod_out_36 _ _ _).trans rfl
theorem bk_Mod_out_47 : blk 262 47 = some (((cd_Mod_out.lookup 47).getD ([], 0, []))) := rfl
theorem Mod_out_47 (d : Nat) (a0 : Nat) (x1 : Int) (x2 : Int) (x3 : Int) (x4 : Int) (h : Hp) : EX d 262 47 [(0, .inr (.inr a0)), (1, .inl x1), (2, .inl x2), (3, .inl x3), (4, .inl x4)] [] h = if sK h a0 = 11 then bak (EX d 262) 54 [(0, .inr (.inr a0)), (1, .inl x1), (2, .inl x2), (3, .inl x3), (4, .inl x4)] [] false (cal d 259 [.inr (.inr a0), .inl x4, .inl x1] h) else none := (EX_at bk_Mod_out_47 _ _ _).trans rfl
theorem bk_Mod_out_54 : blk 262 54 = some (((cd_Mod_out.lookup 54).getD ([], 0, []))) := rfl
theorem Mod_out_54 (d : Nat) (a0 : Nat) (x1 : Int) (x2 : Int) (x3 : Int) (x4 : Int) (s0 : Int) (h : Hp) : EX d 262 54 [(0, .inr (.inr a0)), (1, .inl x1), (2, .inl x2), (3, .inl x3), (4, .inl x4)] [.inl s0] h = if sK h a0 = 11 then bak (EX d 262) 60 [(0, .inr (.inr a0)), (1, .inl x1), (2, .inl x2), (3, .inl x3), (4, .inl x4)] [.inl s0] false (cal d 259 [.inr (.inr a0), .inl x3, .inl x1] h) else none := (EX_at bk_Mod_out_54 _ _ _).trans rfl
theorem bk_Mod_out_60 : blk 262 60 = some (((cd_Mod_out.lookup 60).getD ([], 0, []))) := rfl
theorem Mod_out_60 (d : Nat) (a0 : Nat) (x1 : Int) (x2 : Int) (x3 : Int) (x4 : Int) (s0 : Int) (s1 : Int) (h : Hp) : EX d 262 60 [(0, .inr (.inr a0)), (1, .inl x1), (2, .inl x2), (3, .inl x3), (4, .inl x4)] [.inl s1, .inl s0] h = if (wr s1) < (wr s0) then EX d 262 63 [(0, .inr (.inr a0)), (1, .inl x1), (2, .inl x2), (4, .inl x4)] [] h else EX d 262 66 [(0, .inr (.inr a0)), (1, .inl x1), (2, .inl x2), (3, .inl x3), (4, .inl x4)] [] h := (EX_at bk_Mod_out_60 _ _ _).trans rfl
theorem bk_Mod_out_63 : blk 262 63 = some (((cd_Mod_out.lookup 63).getD ([], 0, []))) := rfl
theorem Mod_out_63 (d : Nat) (a0 : Nat) (x1 : Int) (x2 : Int) (x4 : Int) (h : Hp) : EX d 262 63 [(0, .inr (.inr a0)), (1, .inl x1), (2, .inl x2), (4, .inl x4)] [] h = EX d 262 66 [(0, .inr (.inr a0)), (1, .inl x1), (2, .inl x2), (3, .inl x4), (4, .inl x4)] [] h := (EX_at bk_Mod_out_63 _ _ _).trans rfl
theorem bk_Mod_out_66 : blk 262 66 = some (((cd_Mod_out.lookup 66).getD ([], 0, []))) := rfl
theorem Mod_out_66 (d : Nat) (a0 : Nat) (x1 : Int) (x2 : Int) (x3 : Int) (x4 : Int) (h : Hp) : EX d 262 66 [(0, .inr (.inr a0)), (1, .inl x1), (2, .inl x2), (3, .inl x3), (4, .inl x4)] [] h = EX d 262 36 [(0, .inr (.inr a0)), (1, .inl x1), (2, .inl x2), (3, .inl x3), (4, .inl (x4 + 1))] [] h := (EX_at bk_Mod_out_66 _ _ _).trans rfl
theorem bk_Mod_out_72 : blk 262 72 = some (((cd_Mod_out.lookup 72).getD ([], 0, []))) := rfl
theorem Mod_out_72 (d : Nat) (a0 : Nat) (x1 : Int) (x2 : Int) (x3 : Int) (h : Hp) : EX d 262 72 [(0, .inr (.inr a0)), (1, .inl x1), (2, .inl x2), (3, .inl x3)] [] h = if (wr x2) = 0 then EX d 262 76 [(3, .inl x3)] [] h else EX d 262 80 [(0, .inr (.inr a0)), (1, .inl x1), (3, .inl x3)] [] h := (EX_at bk_Mod_out_72 _ _ _).trans rfl
theorem bk_Mod_out_76 : blk 262 76 = some (((cd_Mod_out.lookup 76).getD ([], 0, []))) := rfl
theorem Mod_out_76 (d : Nat) (x3 : Int) (h : Hp) : EX d 262 76 [(3, .inl x3)] [] h = EX d 262 86 [] [.inl x3] h := (EX_at bk_Mod_out_76 _ _ _).trans rfl
theorem bk_Mod_out_80 : blk 262 80 = some (((cd_Mod_out.lookup 80).getD ([], 0, []))) := rfl
theorem Mod_out_80 (d : Nat) (a0 : Nat) (x1 : Int) (x3 : Int) (h : Hp) : EX d 262 80 [(0, .inr (.inr a0)), (1, .inl x1), (3, .inl x3)] [] h = if sK h a0 = 11 then bak (EX d 262) 86 [] [] false (cal d 259 [.inr (.inr a0), .inl x3, .inl x1] h) else none := (EX_at bk_Mod_out_80 _ _ _).trans rfl
theorem bk_Mod_out_86 : blk 262 86 = some (((cd_Mod_out.lookup 86).getD ([], 0, []))) := rfl
theorem Mod_out_86 (d : Nat) (s0 : Int) (h : Hp) : EX d 262 86 [] [.inl s0] h = some (.inl s0, h) := (EX_at bk_Mod_out_86 _ _ _).trans rfl
/-! noSeen(I)I of HookOverModel: method 275 -/
theorem bk_Mod_noSeen_0 : blk 275 0 = some (((cd_Mod_noSeen.lookup 0).getD ([], 0, []))) := rfl
theorem Mod_noSeen_0 (d : Nat) (a0 : Nat) (x1 : Int) (h : Hp) : EX d 275 0 [(0, .inr (.inr a0)), (1, .inl x1)] [] h = if sK h a0 = 11 then bak (EX d 275) 5 [(0, .inr (.inr a0)), (1, .inl x1)] [] false (cal d 162 [.inr (.inr a0), .inl x1] h) else none := (EX_at bk_Mod_noSeen_0 _ _ _).trans rfl
theorem bk_Mod_noSeen_5 : blk 275 5 = some (((cd_Mod_noSeen.lookup 5).getD ([], 0, []))) := rfl
theorem Mod_noSeen_5 (d : Nat) (a0 : Nat) (x1 : Int) (s0 : Int) (h : Hp) : EX d 275 5 [(0, .inr (.inr a0)), (1, .inl x1)] [.inl s0] h = if (wr s0) = 0 then EX d 275 12 [(0, .inr (.inr a0)), (1, .inl x1)] [] h else EX d 275 10 [(2, .inl s0)] [] h := (EX_at bk_Mod_noSeen_5 _ _ _).trans rfl
theorem bk_Mod_noSeen_10 : blk 275 10 = some (((cd_Mod_noSeen.lookup 10).getD ([], 0, []))) := rfl
theorem Mod_noSeen_10 (d : Nat) (x2 : Int) (h : Hp) : EX d 275 10 [(2, .inl x2)] [] h = some (.inl x2, h) := (EX_at bk_Mod_noSeen_10 _ _ _).trans rfl
theorem bk_Mod_noSeen_12 : blk 275 12 = some (((cd_Mod_noSeen.lookup 12).getD ([], 0, []))) := rfl
theorem Mod_noSeen_12 (d : Nat) (a0 : Nat) (x1 : Int) (h : Hp) : EX d 275 12 [(0, .inr (.inr a0)), (1, .inl x1)] [] h = if sK h a0 = 11 then if okx h (hR h a0 34) 20 x1 then if sK h a0 = 11 then if okx h (hR h a0 1) 20 2 then if (wr (hI h (hR h a0 1) 2)) = 0 then EX d 275 27 [(0, .inr (.inr a0)), (1, .inl x1)] [.inl (hI h (hR h a0 34) (ix x1))] h else EX d 275 31 [(0, .inr (.inr a0)), (1, .inl x1)] [.inl (hI h (hR h a0 34) (ix x1))] h else none else none else none else none := (EX_at bk_Mod_noSeen_12 _ _ _).trans rfl
theorem bk_Mod_noSeen_27 : blk 275 27 = some (((cd_Mod_noSeen.lookup 27).getD ([], 0, []))) := rfl
theorem Mod_noSeen_27 (d : Nat) (a0 : Nat) (x1 : Int) (s0 : Int) (h : Hp) : EX d 275 27 [(0, .inr (.inr a0)), (1, .inl x1)] [.inl s0] h = EX d 275 39 [(0, .inr (.inr a0)), (1, .inl x1)] [.inl 0, .inl s0] h := (EX_at bk_Mod_noSeen_27 _ _ _).trans rfl
theorem bk_Mod_noSeen_31 : blk 275 31 = some (((cd_Mod_noSeen.lookup 31).getD ([], 0, []))) := rfl
theorem Mod_noSeen_31 (d : Nat) (a0 : Nat) (x1 : Int) (s0 : Int) (h : Hp) : EX d 275 31 [(0, .inr (.inr a0)), (1, .inl x1)] [.inl s0] h = if sK h a0 = 11 then if okx h (hR h a0 1) 20 2 then EX d 275 39 [(0, .inr (.inr a0)), (1, .inl x1)] [.inl ((hI h (hR h a0 1) 2) - 1), .inl s0] h else none else none := (EX_at bk_Mod_noSeen_31 _ _ _).trans rfl
theorem bk_Mod_noSeen_39 : blk 275 39 = some (((cd_Mod_noSeen.lookup 39).getD ([], 0, []))) := rfl
theorem Mod_noSeen_39 (d : Nat) (a0 : Nat) (x1 : Int) (s0 : Int) (s1 : Int) (h : Hp) : EX d 275 39 [(0, .inr (.inr a0)), (1, .inl x1)] [.inl s1, .inl s0] h = if (wr s0) = (wr s1) then EX d 275 45 [(0, .inr (.inr a0)), (1, .inl x1)] [] h else EX d 275 42 [] [] h := (EX_at bk_Mod_noSeen_39 _ _ _).trans rfl
theorem bk_Mod_noSeen_42 : blk 275 42 = some (((cd_Mod_noSeen.lookup 42).getD ([], 0, []))) := rfl
theorem Mod_noSeen_42 (d : Nat) (h : Hp) : EX d 275 42 [] [] h = some (.inl (-4), h) := (EX_at bk_Mod_noSeen_42 _ _ _).trans rfl
theorem bk_Mod_noSeen_45 : blk 275 45 = some (((cd_Mod_noSeen.lookup 45).getD ([], 0, []))) := rfl
theorem Mod_noSeen_45 (d : Nat) (a0 : Nat) (x1 : Int) (h : Hp) : EX d 275 45 [(0, .inr (.inr a0)), (1, .inl x1)] [] h = EX d 275 47 [(0, .inr (.inr a0)), (1, .inl x1), (3, .inl 0)] [] h := (EX_at bk_Mod_noSeen_45 _ _ _).trans rfl
theorem bk_Mod_noSeen_47 : blk 275 47 = some (((cd_Mod_noSeen.lookup 47).getD ([], 0, []))) := rfl
theorem Mod_noSeen_47 (d : Nat) (a0 : Nat) (x1 : Int) (x3 : Int) (h : Hp) : EX d 275 47 [(0, .inr (.inr a0)), (1, .inl x1), (3, .inl x3)] [] h = if sK h a0 = 11 then if okx h (hR h a0 34) 20 x1 then if (wr x3) < (wr (hI h (hR h a0 34) (ix x1))) then EX d 275 57 [(0, .inr (.inr a0)), (1, .inl x1), (3, .inl x3)] [] h else EX d 275 84 [] [] h else none else none := (EX_at bk_Mod_noSeen_47 _ _ _).trans rfl
theorem bk_Mod_noSeen_57 : blk 275 57 = some (((cd_Mod_noSeen.lookup 57).getD ([], 0, []))) := rfl
theorem Mod_noSeen_57 (d : Nat) (a0 : Nat) (x1 : Int) (x3 : Int) (h : Hp) : EX d 275 57 [(0, .inr (.inr a0)), (1, .inl x1), (3, .inl x3)] [] h = if sK h a0 = 11 then if okx h (hR h a0 35) 21 ((40 * x1) + x3) then if (wr (lCmp (hL h (hR h a0 35) (ix ((40 * x1) + x3))) (-2))) < 0 then EX d 275 75 [] [] h else EX d 275 78 [(0, .inr (.inr a0)), (1, .inl x1), (3, .inl x3)] [] h else none else none := (EX_at bk_Mod_noSeen_57 _ _ _).trans rfl
theorem bk_Mod_noSeen_75 : blk 275 75 = some (((cd_Mod_noSeen.lookup 75).getD ([], 0, []))) := rfl
theorem Mod_noSeen_75 (d : Nat) (h : Hp) : EX d 275 75 [] [] h = some (.inl (-3), h) := (EX_at bk_Mod_noSeen_75 _ _ _).trans rfl
theorem bk_Mod_noSeen_78 : blk 275 78 = some (((cd_Mod_noSeen.lookup 78).getD ([], 0, []))) := rfl
theorem Mod_noSeen_78 (d : Nat) (a0 : Nat) (x1 : Int) (x3 : Int) (h : Hp) : EX d 275 78 [(0, .inr (.inr a0)), (1, .inl x1), (3, .inl x3)] [] h = EX d 275 47 [(0, .inr (.inr a0)), (1, .inl x1), (3, .inl (x3 + 1))] [] h := (EX_at bk_Mod_noSeen_78 _ _ _).trans rfl
theorem bk_Mod_noSeen_84 : blk 275 84 = some (((cd_Mod_noSeen.lookup 84).getD ([], 0, []))) := rfl
theorem Mod_noSeen_84 (d : Nat) (h : Hp) : EX d 275 84 [] [] h = some (.inl 0, h) := (EX_at bk_Mod_noSeen_84 _ _ _).trans rfl
/-! seen(I)J of HookOverModel: method 276 -/
theorem bk_Mod_seen_0 : blk 276 0 = some (((cd_Mod_seen.lookup 0).getD ([], 0, []))) := rfl
theorem Mod_seen_0 (d : Nat) (a0 : Nat) (x1 : Int) (h : Hp) : EX d 276 0 [(0, .inr (.inr a0)), (1, .inl x1)] [] h = if sK h a0 = 11 then EX d 276 5 [(0, .inr (.inr a0)), (1, .inl x1)] [] (pI h a0 0 0) else none := (EX_at bk_Mod_seen_0 _ _ _).trans rfl
theorem bk_Mod_seen_5 : blk 276 5 = some (((cd_Mod_seen.lookup 5).getD ([], 0, []))) := rfl
theorem Mod_seen_5 (d : Nat) (a0 : Nat) (x1 : Int) (h : Hp) : EX d 276 5 [(0, .inr (.inr a0)), (1, .inl x1)] [] h = if sK h a0 = 11 then bak (EX d 276) 10 [(0, .inr (.inr a0)), (1, .inl x1)] [] false (cal d 275 [.inr (.inr a0), .inl x1] h) else none := (EX_at bk_Mod_seen_5 _ _ _).trans rfl
theorem bk_Mod_seen_10 : blk 276 10 = some (((cd_Mod_seen.lookup 10).getD ([], 0, []))) := rfl
theorem Mod_seen_10 (d : Nat) (a0 : Nat) (x1 : Int) (s0 : Int) (h : Hp) : EX d 276 10 [(0, .inr (.inr a0)), (1, .inl x1)] [.inl s0] h = if (wr s0) = 0 then EX d 276 18 [(0, .inr (.inr a0)), (1, .inl x1)] [] h else EX d 276 15 [(2, .inl s0)] [] h := (EX_at bk_Mod_seen_10 _ _ _).trans rfl
theorem bk_Mod_seen_15 : blk 276 15 = some (((cd_Mod_seen.lookup 15).getD ([], 0, []))) := rfl
theorem Mod_seen_15 (d : Nat) (x2 : Int) (h : Hp) : EX d 276 15 [(2, .inl x2)] [] h = some (.inr (.inl (wr x2)), h) := (EX_at bk_Mod_seen_15 _ _ _).trans rfl
theorem bk_Mod_seen_18 : blk 276 18 = some (((cd_Mod_seen.lookup 18).getD ([], 0, []))) := rfl
theorem Mod_seen_18 (d : Nat) (a0 : Nat) (x1 : Int) (h : Hp) : EX d 276 18 [(0, .inr (.inr a0)), (1, .inl x1)] [] h = if sK h a0 = 11 then bak (EX d 276) 22 [(0, .inr (.inr a0)), (1, .inl x1)] [] false (cal d 191 [.inr (.inr a0)] h) else none := (EX_at bk_Mod_seen_18 _ _ _).trans rfl
theorem bk_Mod_seen_22 : blk 276 22 = some (((cd_Mod_seen.lookup 22).getD ([], 0, []))) := rfl
theorem Mod_seen_22 (d : Nat) (a0 : Nat) (x1 : Int) (s0 : Int) (h : Hp) : EX d 276 22 [(0, .inr (.inr a0)), (1, .inl x1)] [.inl s0] h = if sK h a0 = 11 then bak (EX d 276) 30 [(0, .inr (.inr a0)), (3, .inl s0)] [] true (cal d 186 [.inr (.inr a0), .inl (-1), .inl (-1), .inl x1] h) else none := (EX_at bk_Mod_seen_22 _ _ _).trans rfl
theorem bk_Mod_seen_30 : blk 276 30 = some (((cd_Mod_seen.lookup 30).getD ([], 0, []))) := rfl
theorem Mod_seen_30 (d : Nat) (a0 : Nat) (x3 : Int) (h : Hp) : EX d 276 30 [(0, .inr (.inr a0)), (3, .inl x3)] [] h = if sK h a0 = 11 then bak (EX d 276) 35 [] [] false (cal d 188 [.inr (.inr a0), .inl x3] h) else none := (EX_at bk_Mod_seen_30 _ _ _).trans rfl
theorem bk_Mod_seen_35 : blk 276 35 = some (((cd_Mod_seen.lookup 35).getD ([], 0, []))) := rfl
theorem Mod_seen_35 (d : Nat) (t0 : Int) (h : Hp) : EX d 276 35 [] [.inr (.inl t0)] h = some (.inr (.inl t0), h) := (EX_at bk_Mod_seen_35 _ _ _).trans rfl
/-! sure(II)I of HookOverModel: method 282 -/
theorem bk_Mod_sure_0 : blk 282 0 = some (((cd_Mod_sure.lookup 0).getD ([], 0, []))) := rfl
theorem Mod_sure_0 (d : Nat) (a0 : Nat) (x1 : Int) (x2 : Int) (h : Hp) : EX d 282 0 [(0, .inr (.inr a0)), (1, .inl x1), (2, .inl x2)] [] h = if sK h a0 = 11 then EX d 282 5 [(0, .inr (.inr a0)), (1, .inl x1), (2, .inl x2)] [] (pI h a0 0 0) else none := (EX_at bk_Mod_sure_0 _ _ _).trans rfl
theorem bk_Mod_sure_5 : blk 282 5 = some (((cd_Mod_sure.lookup 5).getD ([], 0, []))) := rfl
theorem Mod_sure_5 (d : Nat) (a0 : Nat) (x1 : Int) (x2 : Int) (h : Hp) : EX d 282 5 [(0, .inr (.inr a0)), (1, .inl x1), (2, .inl x2)] [] h = bak (EX d 282) 14 [(0, .inr (.inr a0)), (1, .inl x1), (2, .inl x2)] [] false (cal d 71 [.inr (.inl (wr x1)), .inr (.inl 0), .inr (.inl 3)] h) := (EX_at bk_Mod_sure_5 _ _ _).trans rfl
theorem bk_Mod_sure_14 : blk 282 14 = some (((cd_Mod_sure.lookup 14).getD ([], 0, []))) := rfl
theorem Mod_sure_14 (d : Nat) (a0 : Nat) (x1 : Int) (x2 : Int) (s0 : Int) (h : Hp) : EX d 282 14 [(0, .inr (.inr a0)), (1, .inl x1), (2, .inl x2)] [.inl s0] h = if (wr s0) = 0 then EX d 282 25 [] [] h else EX d 282 17 [(0, .inr (.inr a0)), (1, .inl x1), (2, .inl x2)] [] h := (EX_at bk_Mod_sure_14 _ _ _).trans rfl
theorem bk_Mod_sure_17 : blk 282 17 = some (((cd_Mod_sure.lookup 17).getD ([], 0, []))) := rfl
theorem Mod_sure_17 (d : Nat) (a0 : Nat) (x1 : Int) (x2 : Int) (h : Hp) : EX d 282 17 [(0, .inr (.inr a0)), (1, .inl x1), (2, .inl x2)] [] h = if sK h a0 = 11 then bak (EX d 282) 22 [(0, .inr (.inr a0)), (1, .inl x1), (2, .inl x2)] [] false (cal d 108 [.inr (.inr a0), .inl x2] h) else none := (EX_at bk_Mod_sure_17 _ _ _).trans rfl
theorem bk_Mod_sure_22 : blk 282 22 = some (((cd_Mod_sure.lookup 22).getD ([], 0, []))) := rfl
theorem Mod_sure_22 (d : Nat) (a0 : Nat) (x1 : Int) (x2 : Int) (s0 : Int) (h : Hp) : EX d 282 22 [(0, .inr (.inr a0)), (1, .inl x1), (2, .inl x2)] [.inl s0] h = if (wr s0) = 0 then EX d 282 25 [] [] h else EX d 282 28 [(0, .inr (.inr a0)), (1, .inl x1), (2, .inl x2)] [] h := (EX_at bk_Mod_sure_22 _ _ _).trans rfl
theorem bk_Mod_sure_25 : blk 282 25 = some (((cd_Mod_sure.lookup 25).getD ([], 0, []))) := rfl
theorem Mod_sure_25 (d : Nat) (h : Hp) : EX d 282 25 [] [] h = some (.inl (-2), h) := (EX_at bk_Mod_sure_25 _ _ _).trans rfl
theorem bk_Mod_sure_28 : blk 282 28 = some (((cd_Mod_sure.lookup 28).getD ([], 0, []))) := rfl
theorem Mod_sure_28 (d : Nat) (a0 : Nat) (x1 : Int) (x2 : Int) (h : Hp) : EX d 282 28 [(0, .inr (.inr a0)), (1, .inl x1), (2, .inl x2)] [] h = if sK h a0 = 11 then bak (EX d 282) 33 [(0, .inr (.inr a0)), (1, .inl x1), (2, .inl x2)] [] false (cal d 275 [.inr (.inr a0), .inl x1] h) else none := (EX_at bk_Mod_sure_28 _ _ _).trans rfl
theorem bk_Mod_sure_33 : blk 282 33 = some (((cd_Mod_sure.lookup 33).getD ([], 0, []))) := rfl
theorem Mod_sure_33 (d : Nat) (a0 : Nat) (x1 : Int) (x2 : Int) (s0 : Int) (h : Hp) : EX d 282 33 [(0, .inr (.inr a0)), (1, .inl x1), (2, .inl x2)] [.inl s0] h = if (wr s0) = 0 then EX d 282 40 [(0, .inr (.inr a0)), (1, .inl x1), (2, .inl x2)] [] h else EX d 282 38 [(3, .inl s0)] [] h := (EX_at bk_Mod_sure_33 _ _ _).trans rfl
theorem bk_Mod_sure_38 : blk 282 38 = some (((cd_Mod_sure.lookup 38).getD ([], 0, []))) := rfl
theorem Mod_sure_38 (d : Nat) (x3 : Int) (h : Hp) : EX d 282 38 [(3, .inl x3)] [] h = some (.inl x3, h) := (EX_at bk_Mod_sure_38 _ _ _).trans rfl
theorem bk_Mod_sure_40 : blk 282 40 = some (((cd_Mod_sure.lookup 40).getD ([], 0, []))) := rfl
theorem Mod_sure_40 (d : Nat) (a0 : Nat) (x1 : Int) (x2 : Int) (h : Hp) : EX d 282 40 [(0, .inr (.inr a0)), (1, .inl x1), (2, .inl x2)] [] h = if sK h a0 = 11 then bak (EX d 282) 44 [(0, .inr (.inr a0)), (1, .inl x1), (2, .inl x2)] [] false (cal d 191 [.inr (.inr a0)] h) else none := (EX_at bk_Mod_sure_40 _ _ _).trans rfl
theorem bk_Mod_sure_44 : blk 282 44 = some (((cd_Mod_sure.lookup 44).getD ([], 0, []))) := rfl
theorem Mod_sure_44 (d : Nat) (a0 : Nat) (x1 : Int) (x2 : Int) (s0 : Int) (h : Hp) : EX d 282 44 [(0, .inr (.inr a0)), (1, .inl x1), (2, .inl x2)] [.inl s0] h = if sK h a0 = 11 then bak (EX d 282) 53 [(0, .inr (.inr a0)), (1, .inl x1), (2, .inl x2), (4, .inl s0)] [] true (cal d 186 [.inr (.inr a0), .inl (-1), .inl (-1), .inl x1] h) else none := (EX_at bk_Mod_sure_44 _ _ _).trans rfl
theorem bk_Mod_sure_53 : blk 282 53 = some (((cd_Mod_sure.lookup 53).getD ([], 0, []))) := rfl
theorem Mod_sure_53 (d : Nat) (a0 : Nat) (x1 : Int) (x2 : Int) (x4 : Int) (h : Hp) : EX d 282 53 [(0, .inr (.inr a0)), (1, .inl x1), (2, .inl x2), (4, .inl x4)] [] h = if sK h a0 = 11 then bak (EX d 282) 59 [(0, .inr (.inr a0)), (1, .inl x1), (2, .inl x2), (4, .inl x4)] [] false (cal d 188 [.inr (.inr a0), .inl x4] h) else none := (EX_at bk_Mod_sure_53 _ _ _).trans rfl
theorem bk_Mod_sure_59 : blk 282 59 = some (((cd_Mod_sure.lookup 59).getD ([], 0, []))) := rfl
theorem Mod_sure_59 (d : Nat) (a0 : Nat) (x1 : Int) (x2 : Int) (x4 : Int) (t0 : Int) (h : Hp) : EX d 282 59 [(0, .inr (.inr a0)), (1, .inl x1), (2, .inl x2), (4, .inl x4)] [.inr (.inl t0)] h = if (wr (lCmp t0 0)) = 0 then EX d 282 68 [] [] h else EX d 282 71 [(0, .inr (.inr a0)), (1, .inl x1), (2, .inl x2), (4, .inl x4), (5, .inr (.inl t0))] [] h := (EX_at bk_Mod_sure_59 _ _ _).trans rfl
theorem bk_Mod_sure_68 : blk 282 68 = some (((cd_Mod_sure.lookup 68).getD ([], 0, []))) := rfl
theorem Mod_sure_68 (d : Nat) (h : Hp) : EX d 282 68 [] [] h = some (.inl (-8), h) := (EX_at bk_Mod_sure_68 _ _ _).trans rfl
theorem bk_Mod_sure_71 : blk 282 71 = some (((cd_Mod_sure.lookup 71).getD ([], 0, []))) := rfl
theorem Mod_sure_71 (d : Nat) (a0 : Nat) (x1 : Int) (x2 : Int) (x4 : Int) (y5 : Int) (h : Hp) : EX d 282 71 [(0, .inr (.inr a0)), (1, .inl x1), (2, .inl x2), (4, .inl x4), (5, .inr (.inl y5))] [] h = if sK h a0 = 11 then bak (EX d 282) 78 [(0, .inr (.inr a0)), (1, .inl x1), (2, .inl x2), (4, .inl x4), (5, .inr (.inl y5))] [] true (cal d 186 [.inr (.inr a0), .inl x2, .inl (-1), .inl x1] h) else none := (EX_at bk_Mod_sure_71 _ _ _).trans rfl
theorem bk_Mod_sure_78 : blk 282 78 = some (((cd_Mod_sure.lookup 78).getD ([], 0, []))) := rfl
theorem Mod_sure_78 (d : Nat) (a0 : Nat) (x1 : Int) (x2 : Int) (x4 : Int) (y5 : Int) (h : Hp) : EX d 282 78 [(0, .inr (.inr a0)), (1, .inl x1), (2, .inl x2), (4, .inl x4), (5, .inr (.inl y5))] [] h = if sK h a0 = 11 then bak (EX d 282) 84 [(0, .inr (.inr a0)), (1, .inl x1), (2, .inl x2), (4, .inl x4), (5, .inr (.inl y5))] [] false (cal d 188 [.inr (.inr a0), .inl x4] h) else none := (EX_at bk_Mod_sure_78 _ _ _).trans rfl
theorem bk_Mod_sure_84 : blk 282 84 = some (((cd_Mod_sure.lookup 84).getD ([], 0, []))) := rfl
theorem Mod_sure_84 (d : Nat) (a0 : Nat) (x1 : Int) (x2 : Int) (x4 : Int) (y5 : Int) (t0 : Int) (h : Hp) : EX d 282 84 [(0, .inr (.inr a0)), (1, .inl x1), (2, .inl x2), (4, .inl x4), (5, .inr (.inl y5))] [.inr (.inl t0)] h = if (wr (lCmp t0 y5)) = 0 then EX d 282 90 [] [] h else EX d 282 92 [(0, .inr (.inr a0)), (1, .inl x1), (2, .inl x2), (4, .inl x4)] [] h := (EX_at bk_Mod_sure_84 _ _ _).trans rfl
theorem bk_Mod_sure_90 : blk 282 90 = some (((cd_Mod_sure.lookup 90).getD ([], 0, []))) := rfl
theorem Mod_sure_90 (d : Nat) (h : Hp) : EX d 282 90 [] [] h = some (.inl (-1), h) := (EX_at bk_Mod_sure_90 _ _ _).trans rfl
theorem bk_Mod_sure_92 : blk 282 92 = some (((cd_Mod_sure.lookup 92).getD ([], 0, []))) := rfl
theorem Mod_sure_92 (d : Nat) (a0 : Nat) (x1 : Int) (x2 : Int) (x4 : Int) (h : Hp) : EX d 282 92 [(0, .inr (.inr a0)), (1, .inl x1), (2, .inl x2), (4, .inl x4)] [] h = EX d 282 95 [(0, .inr (.inr a0)), (1, .inl x1), (2, .inl x2), (4, .inl x4), (7, .inl 0)] [] h := (EX_at bk_Mod_sure_92 _ _ _).trans rfl
theorem bk_Mod_sure_95 : blk 282 95 = some (((cd_Mod_sure.lookup 95).getD ([], 0, []))) := rfl
theorem Mod_sure_95 (d : Nat) (a0 : Nat) (x1 : Int) (x2 : Int) (x4 : Int) (x7 : Int) (h : Hp) : EX d 282 95 [(0, .inr (.inr a0)), (1, .inl x1), (2, .inl x2), (4, .inl x4), (7, .inl x7)] [] h = if sK h a0 = 11 then if okx h (hR h a0 1) 20 2 then if (wr x7) < (wr (hI h (hR h a0 1) 2)) then EX d 282 106 [(0, .inr (.inr a0)), (1, .inl x1), (2, .inl x2), (4, .inl x4), (7, .inl x7)] [] h else EX d 282 134 [] [] h else none else none := (EX_at bk_Mod_sure_95 _ _ _).trans rfl
theorem bk_Mod_sure_106 : blk 282 106 = some (((cd_Mod_sure.lookup 106).getD ([], 0, []))) := rfl
theorem Mod_sure_106 (d : Nat) (a0 : Nat) (x1 : Int) (x2 : Int) (x4 : Int) (x7 : Int) (h : Hp) : EX d 282 106 [(0, .inr (.inr a0)), (1, .inl x1), (2, .inl x2), (4, .inl x4), (7, .inl x7)] [] h = if sK h a0 = 11 then bak (EX d 282) 114 [(0, .inr (.inr a0)), (1, .inl x1), (2, .inl x2), (4, .inl x4), (7, .inl x7)] [] true (cal d 186 [.inr (.inr a0), .inl x2, .inl x7, .inl x1] h) else none := (EX_at bk_Mod_sure_106 _ _ _).trans rfl
theorem bk_Mod_sure_114 : blk 282 114 = some (((cd_Mod_sure.lookup 114).getD ([], 0, []))) := rfl
theorem Mod_sure_114 (d : Nat) (a0 : Nat) (x1 : Int) (x2 : Int) (x4 : Int) (x7 : Int) (h : Hp) : EX d 282 114 [(0, .inr (.inr a0)), (1, .inl x1), (2, .inl x2), (4, .inl x4), (7, .inl x7)] [] h = if sK h a0 = 11 then bak (EX d 282) 120 [(0, .inr (.inr a0)), (1, .inl x1), (2, .inl x2), (4, .inl x4), (7, .inl x7)] [] false (cal d 188 [.inr (.inr a0), .inl x4] h) else none := (EX_at bk_Mod_sure_114 _ _ _).trans rfl
theorem bk_Mod_sure_120 : blk 282 120 = some (((cd_Mod_sure.lookup 120).getD ([], 0, []))) := rfl
theorem Mod_sure_120 (d : Nat) (a0 : Nat) (x1 : Int) (x2 : Int) (x4 : Int) (x7 : Int) (t0 : Int) (h : Hp) : EX d 282 120 [(0, .inr (.inr a0)), (1, .inl x1), (2, .inl x2), (4, .inl x4), (7, .inl x7)] [.inr (.inl t0)] h = if (wr (lCmp t0 0)) = 0 then EX d 282 125 [(7, .inl x7)] [] h else EX d 282 128 [(0, .inr (.inr a0)), (1, .inl x1), (2, .inl x2), (4, .inl x4), (7, .inl x7)] [] h := (EX_at bk_Mod_sure_120 _ _ _).trans rfl
theorem bk_Mod_sure_125 : blk 282 125 = some (((cd_Mod_sure.lookup 125).getD ([], 0, []))) := rfl
theorem Mod_sure_125 (d : Nat) (x7 : Int) (h : Hp) : EX d 282 125 [(7, .inl x7)] [] h = some (.inl x7, h) := (EX_at bk_Mod_sure_125 _ _ _).trans rfl
theorem bk_Mod_sure_128 : blk 282 128 = some (((cd_Mod_sure.lookup 128).getD ([], 0, []))) := rfl
theorem Mod_sure_128 (d : Nat) (a0 : Nat) (x1 : Int) (x2 : Int) (x4 : Int) (x7 : Int) (h : Hp) : EX d 282 128 [(0, .inr (.inr a0)), (1, .inl x1), (2, .inl x2), (4, .inl x4), (7, .inl x7)] [] h = EX d 282 95 [(0, .inr (.inr a0)), (1, .inl x1), (2, .inl x2), (4, .inl x4), (7, .inl (x7 + 1))] [] h := (EX_at bk_Mod_sure_128 _ _ _).trans rfl
theorem bk_Mod_sure_134 : blk 282 134 = some (((cd_Mod_sure.lookup 134).getD ([], 0, []))) := rfl
theorem Mod_sure_134 (d : Nat) (h : Hp) : EX d 282 134 [] [] h = some (.inl (-8), h) := (EX_at bk_Mod_sure_134 _ _ _).trans rfl
/-! numbers(III)I of HookOverModel: method 286 -/
theorem bk_Mod_numbers_0 : blk 286 0 = some (((cd_Mod_numbers.lookup 0).getD ([], 0, []))) := rfl
theorem Mod_numbers_0 (d : Nat) (a0 : Nat) (x1 : Int) (x2 : Int) (x3 : Int) (h : Hp) : EX d 286 0 [(0, .inr (.inr a0)), (1, .inl x1), (2, .inl x2), (3, .inl x3)] [] h = if sK h a0 = 11 then EX d 286 5 [(0, .inr (.inr a0)), (1, .inl x1), (2, .inl x2), (3, .inl x3)] [] (pI h a0 0 0) else none := (EX_at bk_Mod_numbers_0 _ _ _).trans rfl
theorem bk_Mod_numbers_5 : blk 286 5 = some (((cd_Mod_numbers.lookup 5).getD ([], 0, []))) := rfl
theorem Mod_numbers_5 (d : Nat) (a0 : Nat) (x1 : Int) (x2 : Int) (x3 : Int) (h : Hp) : EX d 286 5 [(0, .inr (.inr a0)), (1, .inl x1), (2, .inl x2), (3, .inl x3)] [] h = bak (EX d 286) 14 [(0, .inr (.inr a0)), (1, .inl x1), (2, .inl x2), (3, .inl x3)] [] false (cal d 71 [.inr (.inl (wr x1)), .inr (.inl 0), .inr (.inl 3)] h) := (EX_at bk_Mod_numbers_5 _ _ _).trans rfl
theorem bk_Mod_numbers_14 : blk 286 14 = some (((cd_Mod_numbers.lookup 14).getD ([], 0, []))) := rfl
theorem Mod_numbers_14 (d : Nat) (a0 : Nat) (x1 : Int) (x2 : Int) (x3 : Int) (s0 : Int) (h : Hp) : EX d 286 14 [(0, .inr (.inr a0)), (1, .inl x1), (2, .inl x2), (3, .inl x3)] [.inl s0] h = if (wr s0) = 0 then EX d 286 29 [] [] h else EX d 286 17 [(0, .inr (.inr a0)), (1, .inl x1), (2, .inl x2), (3, .inl x3)] [] h := (EX_at bk_Mod_numbers_14 _ _ _).trans rfl
theorem bk_Mod_numbers_17 : blk 286 17 = some (((cd_Mod_numbers.lookup 17).getD ([], 0, []))) := rfl
theorem Mod_numbers_17 (d : Nat) (a0 : Nat) (x1 : Int) (x2 : Int) (x3 : Int) (h : Hp) : EX d 286 17 [(0, .inr (.inr a0)), (1, .inl x1), (2, .inl x2), (3, .inl x3)] [] h = bak (EX d 286) 26 [(0, .inr (.inr a0)), (1, .inl x1), (2, .inl x2), (3, .inl x3)] [] false (cal d 71 [.inr (.inl (wr x2)), .inr (.inl 0), .inr (.inl 3)] h) := (EX_at bk_Mod_numbers_17 _ _ _).trans rfl
theorem bk_Mod_numbers_26 : blk 286 26 = some (((cd_Mod_numbers.lookup 26).getD ([], 0, []))) := rfl
theorem Mod_numbers_26 (d : Nat) (a0 : Nat) (x1 : Int) (x2 : Int) (x3 : Int) (s0 : Int) (h : Hp) : EX d 286 26 [(0, .inr (.inr a0)), (1, .inl x1), (2, .inl x2), (3, .inl x3)] [.inl s0] h = if (wr s0) = 0 then EX d 286 29 [] [] h else EX d 286 32 [(0, .inr (.inr a0)), (1, .inl x1), (2, .inl x2), (3, .inl x3)] [] h := (EX_at bk_Mod_numbers_26 _ _ _).trans rfl
theorem bk_Mod_numbers_29 : blk 286 29 = some (((cd_Mod_numbers.lookup 29).getD ([], 0, []))) := rfl
theorem Mod_numbers_29 (d : Nat) (h : Hp) : EX d 286 29 [] [] h = some (.inl (-2), h) := (EX_at bk_Mod_numbers_29 _ _ _).trans rfl
theorem bk_Mod_numbers_32 : blk 286 32 = some (((cd_Mod_numbers.lookup 32).getD ([], 0, []))) := rfl
theorem Mod_numbers_32 (d : Nat) (a0 : Nat) (x1 : Int) (x2 : Int) (x3 : Int) (h : Hp) : EX d 286 32 [(0, .inr (.inr a0)), (1, .inl x1), (2, .inl x2), (3, .inl x3)] [] h = bak (EX d 286) 41 [(0, .inr (.inr a0)), (1, .inl x1), (2, .inl x2), (3, .inl x3)] [] false (cal d 71 [.inr (.inl (wr x3)), .inr (.inl 0), .inr (.inl 40)] h) := (EX_at bk_Mod_numbers_32 _ _ _).trans rfl
theorem bk_Mod_numbers_41 : blk 286 41 = some (((cd_Mod_numbers.lookup 41).getD ([], 0, []))) := rfl
theorem Mod_numbers_41 (d : Nat) (a0 : Nat) (x1 : Int) (x2 : Int) (x3 : Int) (s0 : Int) (h : Hp) : EX d 286 41 [(0, .inr (.inr a0)), (1, .inl x1), (2, .inl x2), (3, .inl x3)] [.inl s0] h = if (wr s0) = 0 then EX d 286 44 [] [] h else EX d 286 47 [(0, .inr (.inr a0)), (1, .inl x1), (2, .inl x2), (3, .inl x3)] [] h := (EX_at bk_Mod_numbers_41 _ _ _).trans rfl
theorem bk_Mod_numbers_44 : blk 286 44 = some (((cd_Mod_numbers.lookup 44).getD ([], 0, []))) := rfl
theorem Mod_numbers_44 (d : Nat) (h : Hp) : EX d 286 44 [] [] h = some (.inl (-3), h) := (EX_at bk_Mod_numbers_44 _ _ _).trans rfl
theorem bk_Mod_numbers_47 : blk 286 47 = some (((cd_Mod_numbers.lookup 47).getD ([], 0, []))) := rfl
theorem Mod_numbers_47 (d : Nat) (a0 : Nat) (x1 : Int) (x2 : Int) (x3 : Int) (h : Hp) : EX d 286 47 [(0, .inr (.inr a0)), (1, .inl x1), (2, .inl x2), (3, .inl x3)] [] h = if sK h a0 = 11 then if okx h (hR h a0 33) 20 x1 then EX d 286 54 [(0, .inr (.inr a0)), (1, .inl x1), (3, .inl x3)] [] (pI h (hR h a0 33) (ix x1) x2) else none else none := (EX_at bk_Mod_numbers_47 _ _ _).trans rfl
theorem bk_Mod_numbers_54 : blk 286 54 = some (((cd_Mod_numbers.lookup 54).getD ([], 0, []))) := rfl
theorem Mod_numbers_54 (d : Nat) (a0 : Nat) (x1 : Int) (x3 : Int) (h : Hp) : EX d 286 54 [(0, .inr (.inr a0)), (1, .inl x1), (3, .inl x3)] [] h = if sK h a0 = 11 then if okx h (hR h a0 34) 20 x1 then EX d 286 61 [(0, .inr (.inr a0)), (1, .inl x1), (3, .inl x3)] [] (pI h (hR h a0 34) (ix x1) x3) else none else none := (EX_at bk_Mod_numbers_54 _ _ _).trans rfl
theorem bk_Mod_numbers_61 : blk 286 61 = some (((cd_Mod_numbers.lookup 61).getD ([], 0, []))) := rfl
theorem Mod_numbers_61 (d : Nat) (a0 : Nat) (x1 : Int) (x3 : Int) (h : Hp) : EX d 286 61 [(0, .inr (.inr a0)), (1, .inl x1), (3, .inl x3)] [] h = EX d 286 64 [(0, .inr (.inr a0)), (1, .inl x1), (3, .inl x3), (4, .inl 0)] [] h := (EX_at bk_Mod_numbers_61 _ _ _).trans rfl
theorem bk_Mod_numbers_64 : blk 286 64 = some (((cd_Mod_numbers.lookup 64).getD ([], 0, []))) := rfl
theorem Mod_numbers_64 (d : Nat) (a0 : Nat) (x1 : Int) (x3 : Int) (x4 : Int) (h : Hp) : EX d 286 64 [(0, .inr (.inr a0)), (1, .inl x1), (3, .inl x3), (4, .inl x4)] [] h = if (wr x4) < (wr x3) then EX d 286 70 [(0, .inr (.inr a0)), (1, .inl x1), (3, .inl x3), (4, .inl x4)] [] h else EX d 286 89 [] [] h := (EX_at bk_Mod_numbers_64 _ _ _).trans rfl
theorem bk_Mod_numbers_70 : blk 286 70 = some (((cd_Mod_numbers.lookup 70).getD ([], 0, []))) := rfl
theorem Mod_numbers_70 (d : Nat) (a0 : Nat) (x1 : Int) (x3 : Int) (x4 : Int) (h : Hp) : EX d 286 70 [(0, .inr (.inr a0)), (1, .inl x1), (3, .inl x3), (4, .inl x4)] [] h = if sK h a0 = 11 then if okx h (hR h a0 35) 21 ((40 * x1) + x4) then EX d 286 83 [(0, .inr (.inr a0)), (1, .inl x1), (3, .inl x3), (4, .inl x4)] [] (pL h (hR h a0 35) (ix ((40 * x1) + x4)) 0) else none else none := (EX_at bk_Mod_numbers_70 _ _ _).trans rfl
theorem bk_Mod_numbers_83 : blk 286 83 = some (((cd_Mod_numbers.lookup 83).getD ([], 0, []))) := rfl
theorem Mod_numbers_83 (d : Nat) (a0 : Nat) (x1 : Int) (x3 : Int) (x4 : Int) (h : Hp) : EX d 286 83 [(0, .inr (.inr a0)), (1, .inl x1), (3, .inl x3), (4, .inl x4)] [] h = EX d 286 64 [(0, .inr (.inr a0)), (1, .inl x1), (3, .inl x3), (4, .inl (x4 + 1))] [] h := (EX_at bk_Mod_numbers_83 _ _ _).trans rfl
theorem bk_Mod_numbers_89 : blk 286 89 = some (((cd_Mod_numbers.lookup 89).getD ([], 0, []))) := rfl
theorem Mod_numbers_89 (d : Nat) (h : Hp) : EX d 286 89 [] [] h = some (.inl 0, h) := (EX_at bk_Mod_numbers_89 _ _ _).trans rfl
/-! cut(JI)J of HookOverModel: method 290 -/
theorem bk_Mod_cut_0 : blk 290 0 = some (((cd_Mod_cut.lookup 0).getD ([], 0, []))) := rfl
theorem Mod_cut_0 (d : Nat) (y0 : Int) (x2 : Int) (h : Hp) : EX d 290 0 [(0, .inr (.inl y0)), (2, .inl x2)] [] h = if (wr x2) = 0 then EX d 290 4 [(0, .inr (.inl y0))] [] h else EX d 290 11 [(0, .inr (.inl y0)), (2, .inl x2)] [] h := (EX_at bk_Mod_cut_0 _ _ _).trans rfl
theorem bk_Mod_cut_4 : blk 290 4 = some (((cd_Mod_cut.lookup 4).getD ([], 0, []))) := rfl
theorem Mod_cut_4 (d : Nat) (y0 : Int) (h : Hp) : EX d 290 4 [(0, .inr (.inl y0))] [] h = EX d 290 35 [] [.inr (.inl (wr (bI2b y0)))] h := (EX_at bk_Mod_cut_4 _ _ _).trans rfl
theorem bk_Mod_cut_11 : blk 290 11 = some (((cd_Mod_cut.lookup 11).getD ([], 0, []))) := rfl
theorem Mod_cut_11 (d : Nat) (y0 : Int) (x2 : Int) (h : Hp) : EX d 290 11 [(0, .inr (.inl y0)), (2, .inl x2)] [] h = if (wr x2) = 1 then EX d 290 16 [(0, .inr (.inl y0))] [] h else EX d 290 23 [(0, .inr (.inl y0)), (2, .inl x2)] [] h := (EX_at bk_Mod_cut_11 _ _ _).trans rfl
theorem bk_Mod_cut_16 : blk 290 16 = some (((cd_Mod_cut.lookup 16).getD ([], 0, []))) := rfl
theorem Mod_cut_16 (d : Nat) (y0 : Int) (h : Hp) : EX d 290 16 [(0, .inr (.inl y0))] [] h = EX d 290 35 [] [.inr (.inl (wr (bI2s y0)))] h := (EX_at bk_Mod_cut_16 _ _ _).trans rfl
theorem bk_Mod_cut_23 : blk 290 23 = some (((cd_Mod_cut.lookup 23).getD ([], 0, []))) := rfl
theorem Mod_cut_23 (d : Nat) (y0 : Int) (x2 : Int) (h : Hp) : EX d 290 23 [(0, .inr (.inl y0)), (2, .inl x2)] [] h = if (wr x2) = 2 then EX d 290 28 [(0, .inr (.inl y0))] [] h else EX d 290 34 [(0, .inr (.inl y0))] [] h := (EX_at bk_Mod_cut_23 _ _ _).trans rfl
theorem bk_Mod_cut_28 : blk 290 28 = some (((cd_Mod_cut.lookup 28).getD ([], 0, []))) := rfl
theorem Mod_cut_28 (d : Nat) (y0 : Int) (h : Hp) : EX d 290 28 [(0, .inr (.inl y0))] [] h = EX d 290 35 [] [.inr (.inl (wr y0))] h := (EX_at bk_Mod_cut_28 _ _ _).trans rfl
theorem bk_Mod_cut_34 : blk 290 34 = some (((cd_Mod_cut.lookup 34).getD ([], 0, []))) := rfl
theorem Mod_cut_34 (d : Nat) (y0 : Int) (h : Hp) : EX d 290 34 [(0, .inr (.inl y0))] [] h = EX d 290 35 [] [.inr (.inl y0)] h := (EX_at bk_Mod_cut_34 _ _ _).trans rfl
theorem bk_Mod_cut_35 : blk 290 35 = some (((cd_Mod_cut.lookup 35).getD ([], 0, []))) := rfl
theorem Mod_cut_35 (d : Nat) (t0 : Int) (h : Hp) : EX d 290 35 [] [.inr (.inl t0)] h = some (.inr (.inl t0), h) := (EX_at bk_Mod_cut_35 _ _ _).trans rfl
/-! write(IIJ)J of HookOverModel: method 291 -/
theorem bk_Mod_write_0 : blk 291 0 = some (((cd_Mod_write.lookup 0).getD ([], 0, []))) := rfl
theorem Mod_write_0 (d : Nat) (a0 : Nat) (x1 : Int) (x2 : Int) (y3 : Int) (h : Hp) : EX d 291 0 [(0, .inr (.inr a0)), (1, .inl x1), (2, .inl x2), (3, .inr (.inl y3))] [] h = if sK h a0 = 11 then EX d 291 5 [(0, .inr (.inr a0)), (1, .inl x1), (2, .inl x2), (3, .inr (.inl y3))] [] (pI h a0 0 0) else none := (EX_at bk_Mod_write_0 _ _ _).trans rfl
theorem bk_Mod_write_5 : blk 291 5 = some (((cd_Mod_write.lookup 5).getD ([], 0, []))) := rfl
theorem Mod_write_5 (d : Nat) (a0 : Nat) (x1 : Int) (x2 : Int) (y3 : Int) (h : Hp) : EX d 291 5 [(0, .inr (.inr a0)), (1, .inl x1), (2, .inl x2), (3, .inr (.inl y3))] [] h = if sK h a0 = 11 then bak (EX d 291) 10 [(0, .inr (.inr a0)), (1, .inl x1), (2, .inl x2), (3, .inr (.inl y3))] [] false (cal d 162 [.inr (.inr a0), .inl x1] h) else none := (EX_at bk_Mod_write_5 _ _ _).trans rfl
theorem bk_Mod_write_10 : blk 291 10 = some (((cd_Mod_write.lookup 10).getD ([], 0, []))) := rfl
theorem Mod_write_10 (d : Nat) (a0 : Nat) (x1 : Int) (x2 : Int) (y3 : Int) (s0 : Int) (h : Hp) : EX d 291 10 [(0, .inr (.inr a0)), (1, .inl x1), (2, .inl x2), (3, .inr (.inl y3))] [.inl s0] h = if (wr s0) = 0 then EX d 291 21 [(0, .inr (.inr a0)), (1, .inl x1), (2, .inl x2), (3, .inr (.inl y3))] [] h else EX d 291 17 [(5, .inl s0)] [] h := (EX_at bk_Mod_write_10 _ _ _).trans rfl
theorem bk_Mod_write_17 : blk 291 17 = some (((cd_Mod_write.lookup 17).getD ([], 0, []))) := rfl
theorem Mod_write_17 (d : Nat) (x5 : Int) (h : Hp) : EX d 291 17 [(5, .inl x5)] [] h = some (.inr (.inl (wr x5)), h) := (EX_at bk_Mod_write_17 _ _ _).trans rfl
theorem bk_Mod_write_21 : blk 291 21 = some (((cd_Mod_write.lookup 21).getD ([], 0, []))) := rfl
theorem Mod_write_21 (d : Nat) (a0 : Nat) (x1 : Int) (x2 : Int) (y3 : Int) (h : Hp) : EX d 291 21 [(0, .inr (.inr a0)), (1, .inl x1), (2, .inl x2), (3, .inr (.inl y3))] [] h = if sK h a0 = 11 then if okx h (hR h a0 34) 20 x1 then bak (EX d 291) 36 [(0, .inr (.inr a0)), (1, .inl x1), (2, .inl x2), (3, .inr (.inl y3))] [] false (cal d 71 [.inr (.inl (wr x2)), .inr (.inl 0), .inr (.inl (wr ((hI h (hR h a0 34) (ix x1)) - 1)))] h) else none else none := (EX_at bk_Mod_write_21 _ _ _).trans rfl
theorem bk_Mod_write_36 : blk 291 36 = some (((cd_Mod_write.lookup 36).getD ([], 0, []))) := rfl
theorem Mod_write_36 (d : Nat) (a0 : Nat) (x1 : Int) (x2 : Int) (y3 : Int) (s0 : Int) (h : Hp) : EX d 291 36 [(0, .inr (.inr a0)), (1, .inl x1), (2, .inl x2), (3, .inr (.inl y3))] [.inl s0] h = if (wr s0) = 0 then EX d 291 39 [] [] h else EX d 291 43 [(0, .inr (.inr a0)), (1, .inl x1), (2, .inl x2), (3, .inr (.inl y3))] [] h := (EX_at bk_Mod_write_36 _ _ _).trans rfl
theorem bk_Mod_write_39 : blk 291 39 = some (((cd_Mod_write.lookup 39).getD ([], 0, []))) := rfl
theorem Mod_write_39 (d : Nat) (h : Hp) : EX d 291 39 [] [] h = some (.inr (.inl (-7)), h) := (EX_at bk_Mod_write_39 _ _ _).trans rfl
theorem bk_Mod_write_43 : blk 291 43 = some (((cd_Mod_write.lookup 43).getD ([], 0, []))) := rfl
theorem Mod_write_43 (d : Nat) (a0 : Nat) (x1 : Int) (x2 : Int) (y3 : Int) (h : Hp) : EX d 291 43 [(0, .inr (.inr a0)), (1, .inl x1), (2, .inl x2), (3, .inr (.inl y3))] [] h = if sK h a0 = 11 then if sK h a0 = 11 then if okx h (hR h a0 33) 20 x1 then bak (EX d 291) 63 [(0, .inr (.inr a0)), (1, .inl x1), (2, .inl x2)] [.inl ((40 * x1) + x2), .inr (.inr (hR h a0 35))] false (cal d 290 [.inr (.inl y3), .inl (hI h (hR h a0 33) (ix x1))] h) else none else none else none := (EX_at bk_Mod_write_43 _ _ _).trans rfl
theorem bk_Mod_write_63 : blk 291 63 = some (((cd_Mod_write.lookup 63).getD ([], 0, []))) := rfl
theorem Mod_write_63 (d : Nat) (a0 : Nat) (x1 : Int) (x2 : Int) (r0 : Nat) (s1 : Int) (t2 : Int) (h : Hp) : EX d 291 63 [(0, .inr (.inr a0)), (1, .inl x1), (2, .inl x2)] [.inr (.inl t2), .inl s1, .inr (.inr r0)] h = if okx h r0 21 s1 then EX d 291 64 [(0, .inr (.inr a0)), (1, .inl x1), (2, .inl x2)] [] (pL h r0 (ix s1) t2) else none := (EX_at bk_Mod_write_63 _ _ _).trans rfl
theorem bk_Mod_write_64 : blk 291 64 = some (((cd_Mod_write.lookup 64).getD ([], 0, []))) := rfl
theorem Mod_write_64 (d : Nat) (a0 : Nat) (x1 : Int) (x2 : Int) (h : Hp) : EX d 291 64 [(0, .inr (.inr a0)), (1, .inl x1), (2, .inl x2)] [] h = if sK h a0 = 11 then if okx h (hR h a0 35) 21 ((40 * x1) + x2) then some (.inr (.inl (hL h (hR h a0 35) (ix ((40 * x1) + x2)))), h) else none else none := (EX_at bk_Mod_write_64 _ _ _).trans rfl
/-! sagOver(I)I of HookOverModel: method 294 -/
theorem bk_Mod_sagOver_0 : blk 294 0 = some (((cd_Mod_sagOver.lookup 0).getD ([], 0, []))) := rfl
theorem Mod_sagOver_0 (d : Nat) (a0 : Nat) (x1 : Int) (h : Hp) : EX d 294 0 [(0, .inr (.inr a0)), (1, .inl x1)] [] h = EX d 294 2 [(0, .inr (.inr a0)), (1, .inl x1), (2, .inl 0)] [] h := (EX_at bk_Mod_sagOver_0 _ _ _).trans rfl
theorem bk_Mod_sagOver_2 : blk 294 2 = some (((cd_Mod_sagOver.lookup 2).getD ([], 0, []))) := rfl
theorem Mod_sagOver_2 (d : Nat) (a0 : Nat) (x1 : Int) (x2 : Int) (h : Hp) : EX d 294 2 [(0, .inr (.inr a0)), (1, .inl x1), (2, .inl x2)] [] h = if sK h a0 = 11 then if okx h (hR h a0 1) 20 1 then if (wr x2) < (wr (hI h (hR h a0 1) 1)) then EX d 294 12 [(0, .inr (.inr a0)), (1, .inl x1), (2, .inl x2)] [] h else EX d 294 74 [] [] h else none else none := (EX_at bk_Mod_sagOver_2 _ _ _).trans rfl
theorem bk_Mod_sagOver_12 : blk 294 12 = some (((cd_Mod_sagOver.lookup 12).getD ([], 0, []))) := rfl
theorem Mod_sagOver_12 (d : Nat) (a0 : Nat) (x1 : Int) (x2 : Int) (h : Hp) : EX d 294 12 [(0, .inr (.inr a0)), (1, .inl x1), (2, .inl x2)] [] h = if sK h a0 = 11 then bak (EX d 294) 17 [(0, .inr (.inr a0)), (1, .inl x1), (2, .inl x2)] [] false (cal d 109 [.inr (.inr a0), .inl x2] h) else none := (EX_at bk_Mod_sagOver_12 _ _ _).trans rfl
theorem bk_Mod_sagOver_17 : blk 294 17 = some (((cd_Mod_sagOver.lookup 17).getD ([], 0, []))) := rfl
theorem Mod_sagOver_17 (d : Nat) (a0 : Nat) (x1 : Int) (x2 : Int) (s0 : Int) (h : Hp) : EX d 294 17 [(0, .inr (.inr a0)), (1, .inl x1), (2, .inl x2)] [.inl s0] h = if sK h a0 = 11 then if okx h (hR h a0 1) 20 (61 + x2) then if (wr (hI h (hR h a0 1) (ix (61 + x2)))) = (-1) then EX d 294 68 [(0, .inr (.inr a0)), (1, .inl x1), (2, .inl x2)] [] h else EX d 294 31 [(0, .inr (.inr a0)), (1, .inl x1), (2, .inl x2), (3, .inl s0)] [] h else none else none := (EX_at bk_Mod_sagOver_17 _ _ _).trans rfl
theorem bk_Mod_sagOver_31 : blk 294 31 = some (((cd_Mod_sagOver.lookup 31).getD ([], 0, []))) := rfl
theorem Mod_sagOver_31 (d : Nat) (a0 : Nat) (x1 : Int) (x2 : Int) (x3 : Int) (h : Hp) : EX d 294 31 [(0, .inr (.inr a0)), (1, .inl x1), (2, .inl x2), (3, .inl x3)] [] h = if sK h a0 = 11 then if okx h (hR h a0 1) 20 (61 + x2) then if (wr x1) < (wr (hI h (hR h a0 1) (ix (61 + x2)))) then EX d 294 68 [(0, .inr (.inr a0)), (1, .inl x1), (2, .inl x2)] [] h else EX d 294 44 [(0, .inr (.inr a0)), (1, .inl x1), (2, .inl x2), (3, .inl x3)] [] h else none else none := (EX_at bk_Mod_sagOver_31 _ _ _).trans rfl
theorem bk_Mod_sagOver_44 : blk 294 44 = some (((cd_Mod_sagOver.lookup 44).getD ([], 0, []))) := rfl
theorem Mod_sagOver_44 (d : Nat) (a0 : Nat) (x1 : Int) (x2 : Int) (x3 : Int) (h : Hp) : EX d 294 44 [(0, .inr (.inr a0)), (1, .inl x1), (2, .inl x2), (3, .inl x3)] [] h = if (wr x3) = (-1) then EX d 294 68 [(0, .inr (.inr a0)), (1, .inl x1), (2, .inl x2)] [] h else EX d 294 49 [(0, .inr (.inr a0)), (1, .inl x1), (2, .inl x2), (3, .inl x3)] [] h := (EX_at bk_Mod_sagOver_44 _ _ _).trans rfl
theorem bk_Mod_sagOver_49 : blk 294 49 = some (((cd_Mod_sagOver.lookup 49).getD ([], 0, []))) := rfl
theorem Mod_sagOver_49 (d : Nat) (a0 : Nat) (x1 : Int) (x2 : Int) (x3 : Int) (h : Hp) : EX d 294 49 [(0, .inr (.inr a0)), (1, .inl x1), (2, .inl x2), (3, .inl x3)] [] h = if sK h a0 = 11 then if okx h (hR h a0 1) 20 (61 + x3) then if (wr x1) < (wr (hI h (hR h a0 1) (ix (61 + x3)))) then EX d 294 62 [(0, .inr (.inr a0)), (2, .inl x2)] [] h else EX d 294 68 [(0, .inr (.inr a0)), (1, .inl x1), (2, .inl x2)] [] h else none else none := (EX_at bk_Mod_sagOver_49 _ _ _).trans rfl
theorem bk_Mod_sagOver_62 : blk 294 62 = some (((cd_Mod_sagOver.lookup 62).getD ([], 0, []))) := rfl
theorem Mod_sagOver_62 (d : Nat) (a0 : Nat) (x2 : Int) (h : Hp) : EX d 294 62 [(0, .inr (.inr a0)), (2, .inl x2)] [] h = if sK h a0 = 11 then bak (EX d 294) 67 [] [] false (cal d 110 [.inr (.inr a0), .inl x2] h) else none := (EX_at bk_Mod_sagOver_62 _ _ _).trans rfl
theorem bk_Mod_sagOver_67 : blk 294 67 = some (((cd_Mod_sagOver.lookup 67).getD ([], 0, []))) := rfl
theorem Mod_sagOver_67 (d : Nat) (s0 : Int) (h : Hp) : EX d 294 67 [] [.inl s0] h = some (.inl s0, h) := (EX_at bk_Mod_sagOver_67 _ _ _).trans rfl
theorem bk_Mod_sagOver_68 : blk 294 68 = some (((cd_Mod_sagOver.lookup 68).getD ([], 0, []))) := rfl
theorem Mod_sagOver_68 (d : Nat) (a0 : Nat) (x1 : Int) (x2 : Int) (h : Hp) : EX d 294 68 [(0, .inr (.inr a0)), (1, .inl x1), (2, .inl x2)] [] h = EX d 294 2 [(0, .inr (.inr a0)), (1, .inl x1), (2, .inl (x2 + 1))] [] h := (EX_at bk_Mod_sagOver_68 _ _ _).trans rfl
theorem bk_Mod_sagOver_74 : blk 294 74 = some (((cd_Mod_sagOver.lookup 74).getD ([], 0, []))) := rfl
theorem Mod_sagOver_74 (d : Nat) (h : Hp) : EX d 294 74 [] [] h = some (.inl (-2), h) := (EX_at bk_Mod_sagOver_74 _ _ _).trans rfl
/-! copy(I)I of HookOverModel: method 295 -/
theorem bk_Mod_copy_0 : blk 295 0 = some (((cd_Mod_copy.lookup 0).getD ([], 0, []))) := rfl
theorem Mod_copy_0 (d : Nat) (a0 : Nat) (x1 : Int) (h : Hp) : EX d 295 0 [(0, .inr (.inr a0)), (1, .inl x1)] [] h = if sK h a0 = 11 then EX d 295 5 [(0, .inr (.inr a0)), (1, .inl x1)] [] (pI h a0 0 0) else none := (EX_at bk_Mod_copy_0 _ _ _).trans rfl
theorem bk_Mod_copy_5 : blk 295 5 = some (((cd_Mod_copy.lookup 5).getD ([], 0, []))) := rfl
theorem Mod_copy_5 (d : Nat) (a0 : Nat) (x1 : Int) (h : Hp) : EX d 295 5 [(0, .inr (.inr a0)), (1, .inl x1)] [] h = if sK h a0 = 11 then bak (EX d 295) 10 [(0, .inr (.inr a0)), (1, .inl x1)] [] false (cal d 162 [.inr (.inr a0), .inl x1] h) else none := (EX_at bk_Mod_copy_5 _ _ _).trans rfl
theorem bk_Mod_copy_10 : blk 295 10 = some (((cd_Mod_copy.lookup 10).getD ([], 0, []))) := rfl
theorem Mod_copy_10 (d : Nat) (a0 : Nat) (x1 : Int) (s0 : Int) (h : Hp) : EX d 295 10 [(0, .inr (.inr a0)), (1, .inl x1)] [.inl s0] h = if (wr s0) = 0 then EX d 295 17 [(0, .inr (.inr a0)), (1, .inl x1)] [] h else EX d 295 15 [(2, .inl s0)] [] h := (EX_at bk_Mod_copy_10 _ _ _).trans rfl
theorem bk_Mod_copy_15 : blk 295 15 = some (((cd_Mod_copy.lookup 15).getD ([], 0, []))) := rfl
theorem Mod_copy_15 (d : Nat) (x2 : Int) (h : Hp) : EX d 295 15 [(2, .inl x2)] [] h = some (.inl x2, h) := (EX_at bk_Mod_copy_15 _ _ _).trans rfl
theorem bk_Mod_copy_17 : blk 295 17 = some (((cd_Mod_copy.lookup 17).getD ([], 0, []))) := rfl
theorem Mod_copy_17 (d : Nat) (a0 : Nat) (x1 : Int) (h : Hp) : EX d 295 17 [(0, .inr (.inr a0)), (1, .inl x1)] [] h = if sK h a0 = 11 then if okx h (hR h a0 1) 20 2 then if (wr (hI h (hR h a0 1) 2)) = 0 then EX d 295 26 [(0, .inr (.inr a0)), (1, .inl x1)] [] h else EX d 295 30 [(0, .inr (.inr a0)), (1, .inl x1)] [] h else none else none := (EX_at bk_Mod_copy_17 _ _ _).trans rfl
theorem bk_Mod_copy_26 : blk 295 26 = some (((cd_Mod_copy.lookup 26).getD ([], 0, []))) := rfl
theorem Mod_copy_26 (d : Nat) (a0 : Nat) (x1 : Int) (h : Hp) : EX d 295 26 [(0, .inr (.inr a0)), (1, .inl x1)] [] h = EX d 295 38 [(0, .inr (.inr a0)), (1, .inl x1)] [.inl 0] h := (EX_at bk_Mod_copy_26 _ _ _).trans rfl
theorem bk_Mod_copy_30 : blk 295 30 = some (((cd_Mod_copy.lookup 30).getD ([], 0, []))) := rfl
theorem Mod_copy_30 (d : Nat) (a0 : Nat) (x1 : Int) (h : Hp) : EX d 295 30 [(0, .inr (.inr a0)), (1, .inl x1)] [] h = if sK h a0 = 11 then if okx h (hR h a0 1) 20 2 then EX d 295 38 [(0, .inr (.inr a0)), (1, .inl x1)] [.inl ((hI h (hR h a0 1) 2) - 1)] h else none else none := (EX_at bk_Mod_copy_30 _ _ _).trans rfl
theorem bk_Mod_copy_38 : blk 295 38 = some (((cd_Mod_copy.lookup 38).getD ([], 0, []))) := rfl
theorem Mod_copy_38 (d : Nat) (a0 : Nat) (x1 : Int) (s0 : Int) (h : Hp) : EX d 295 38 [(0, .inr (.inr a0)), (1, .inl x1)] [.inl s0] h = if sK h a0 = 11 then if okx h (hR h a0 34) 20 x1 then if (wr s0) < (wr (hI h (hR h a0 34) (ix x1))) then EX d 295 49 [(0, .inr (.inr a0)), (1, .inl x1), (3, .inl s0)] [] h else EX d 295 53 [(0, .inr (.inr a0)), (1, .inl x1)] [] h else none else none := (EX_at bk_Mod_copy_38 _ _ _).trans rfl
theorem bk_Mod_copy_49 : blk 295 49 = some (((cd_Mod_copy.lookup 49).getD ([], 0, []))) := rfl
theorem Mod_copy_49 (d : Nat) (a0 : Nat) (x1 : Int) (x3 : Int) (h : Hp) : EX d 295 49 [(0, .inr (.inr a0)), (1, .inl x1), (3, .inl x3)] [] h = EX d 295 59 [(0, .inr (.inr a0)), (1, .inl x1)] [.inl x3] h := (EX_at bk_Mod_copy_49 _ _ _).trans rfl
theorem bk_Mod_copy_53 : blk 295 53 = some (((cd_Mod_copy.lookup 53).getD ([], 0, []))) := rfl
theorem Mod_copy_53 (d : Nat) (a0 : Nat) (x1 : Int) (h : Hp) : EX d 295 53 [(0, .inr (.inr a0)), (1, .inl x1)] [] h = if sK h a0 = 11 then if okx h (hR h a0 34) 20 x1 then EX d 295 59 [(0, .inr (.inr a0)), (1, .inl x1)] [.inl (hI h (hR h a0 34) (ix x1))] h else none else none := (EX_at bk_Mod_copy_53 _ _ _).trans rfl
theorem bk_Mod_copy_59 : blk 295 59 = some (((cd_Mod_copy.lookup 59).getD ([], 0, []))) := rfl
theorem Mod_copy_59 (d : Nat) (a0 : Nat) (x1 : Int) (s0 : Int) (h : Hp) : EX d 295 59 [(0, .inr (.inr a0)), (1, .inl x1)] [.inl s0] h = EX d 295 64 [(0, .inr (.inr a0)), (1, .inl x1), (4, .inl s0), (5, .inl 0)] [] h := (EX_at bk_Mod_copy_59 _ _ _).trans rfl
theorem bk_Mod_copy_64 : blk 295 64 = some (((cd_Mod_copy.lookup 64).getD ([], 0, []))) := rfl
theorem Mod_copy_64 (d : Nat) (a0 : Nat) (x1 : Int) (x4 : Int) (x5 : Int) (h : Hp) : EX d 295 64 [(0, .inr (.inr a0)), (1, .inl x1), (4, .inl x4), (5, .inl x5)] [] h = if (wr x5) < (wr x4) then EX d 295 71 [(0, .inr (.inr a0)), (1, .inl x1), (4, .inl x4), (5, .inl x5)] [] h else EX d 295 105 [(4, .inl x4)] [] h := (EX_at bk_Mod_copy_64 _ _ _).trans rfl
theorem bk_Mod_copy_71 : blk 295 71 = some (((cd_Mod_copy.lookup 71).getD ([], 0, []))) := rfl
theorem Mod_copy_71 (d : Nat) (a0 : Nat) (x1 : Int) (x4 : Int) (x5 : Int) (h : Hp) : EX d 295 71 [(0, .inr (.inr a0)), (1, .inl x1), (4, .inl x4), (5, .inl x5)] [] h = if sK h a0 = 11 then if sK h a0 = 11 then bak (EX d 295) 88 [(0, .inr (.inr a0)), (1, .inl x1), (4, .inl x4), (5, .inl x5)] [.inl ((40 * x1) + x5), .inr (.inr (hR h a0 35))] false (cal d 294 [.inr (.inr a0), .inl x5] h) else none else none := (EX_at bk_Mod_copy_71 _ _ _).trans rfl
theorem bk_Mod_copy_88 : blk 295 88 = some (((cd_Mod_copy.lookup 88).getD ([], 0, []))) := rfl
theorem Mod_copy_88 (d : Nat) (a0 : Nat) (x1 : Int) (x4 : Int) (x5 : Int) (r0 : Nat) (s1 : Int) (s2 : Int) (h : Hp) : EX d 295 88 [(0, .inr (.inr a0)), (1, .inl x1), (4, .inl x4), (5, .inl x5)] [.inl s2, .inl s1, .inr (.inr r0)] h = if sK h a0 = 11 then if okx h (hR h a0 33) 20 x1 then bak (EX d 295) 98 [(0, .inr (.inr a0)), (1, .inl x1), (4, .inl x4), (5, .inl x5)] [.inl s1, .inr (.inr r0)] false (cal d 290 [.inr (.inl (wr s2)), .inl (hI h (hR h a0 33) (ix x1))] h) else none else none := (EX_at bk_Mod_copy_88 _ _ _).trans rfl
theorem bk_Mod_copy_98 : blk 295 98 = some (((cd_Mod_copy.lookup 98).getD ([], 0, []))) := rfl
theorem Mod_copy_98 (d : Nat) (a0 : Nat) (x1 : Int) (x4 : Int) (x5 : Int) (r0 : Nat) (s1 : Int) (t2 : Int) (h : Hp) : EX d 295 98 [(0, .inr (.inr a0)), (1, .inl x1), (4, .inl x4), (5, .inl x5)] [.inr (.inl t2), .inl s1, .inr (.inr r0)] h = if okx h r0 21 s1 then EX d 295 99 [(0, .inr (.inr a0)), (1, .inl x1), (4, .inl x4), (5, .inl x5)] [] (pL h r0 (ix s1) t2) else none := (EX_at bk_Mod_copy_98 _ _ _).trans rfl
theorem bk_Mod_copy_99 : blk 295 99 = some (((cd_Mod_copy.lookup 99).getD ([], 0, []))) := rfl
theorem Mod_copy_99 (d : Nat) (a0 : Nat) (x1 : Int) (x4 : Int) (x5 : Int) (h : Hp) : EX d 295 99 [(0, .inr (.inr a0)), (1, .inl x1), (4, .inl x4), (5, .inl x5)] [] h = EX d 295 64 [(0, .inr (.inr a0)), (1, .inl x1), (4, .inl x4), (5, .inl (x5 + 1))] [] h := (EX_at bk_Mod_copy_99 _ _ _).trans rfl
theorem bk_Mod_copy_105 : blk 295 105 = some (((cd_Mod_copy.lookup 105).getD ([], 0, []))) := rfl
theorem Mod_copy_105 (d : Nat) (x4 : Int) (h : Hp) : EX d 295 105 [(4, .inl x4)] [] h = some (.inl x4, h) := (EX_at bk_Mod_copy_105 _ _ _).trans rfl
/-! image(I)I of HookOverModel: method 298 -/
theorem bk_Mod_image_0 : blk 298 0 = some (((cd_Mod_image.lookup 0).getD ([], 0, []))) := rfl
theorem Mod_image_0 (d : Nat) (a0 : Nat) (x1 : Int) (h : Hp) : EX d 298 0 [(0, .inr (.inr a0)), (1, .inl x1)] [] h = if sK h a0 = 11 then EX d 298 5 [(0, .inr (.inr a0)), (1, .inl x1)] [] (pI h a0 0 0) else none := (EX_at bk_Mod_image_0 _ _ _).trans rfl
theorem bk_Mod_image_5 : blk 298 5 = some (((cd_Mod_image.lookup 5).getD ([], 0, []))) := rfl
theorem Mod_image_5 (d : Nat) (a0 : Nat) (x1 : Int) (h : Hp) : EX d 298 5 [(0, .inr (.inr a0)), (1, .inl x1)] [] h = bak (EX d 298) 12 [(0, .inr (.inr a0)), (1, .inl x1)] [] false (cal d 71 [.inr (.inl (wr x1)), .inr (.inl 0), .inr (.inl 1)] h) := (EX_at bk_Mod_image_5 _ _ _).trans rfl
theorem bk_Mod_image_12 : blk 298 12 = some (((cd_Mod_image.lookup 12).getD ([], 0, []))) := rfl
theorem Mod_image_12 (d : Nat) (a0 : Nat) (x1 : Int) (s0 : Int) (h : Hp) : EX d 298 12 [(0, .inr (.inr a0)), (1, .inl x1)] [.inl s0] h = if (wr s0) = 0 then EX d 298 15 [] [] h else EX d 298 18 [(0, .inr (.inr a0)), (1, .inl x1)] [] h := (EX_at bk_Mod_image_12 _ _ _).trans rfl
theorem bk_Mod_image_15 : blk 298 15 = some (((cd_Mod_image.lookup 15).getD ([], 0, []))) := rfl
theorem Mod_image_15 (d : Nat) (h : Hp) : EX d 298 15 [] [] h = some (.inl (-2), h) := (EX_at bk_Mod_image_15 _ _ _).trans rfl
theorem bk_Mod_image_18 : blk 298 18 = some (((cd_Mod_image.lookup 18).getD ([], 0, []))) := rfl
theorem Mod_image_18 (d : Nat) (a0 : Nat) (x1 : Int) (h : Hp) : EX d 298 18 [(0, .inr (.inr a0)), (1, .inl x1)] [] h = EX d 298 20 [(0, .inr (.inr a0)), (1, .inl x1), (2, .inl 0)] [] h := (EX_at bk_Mod_image_18 _ _ _).trans rfl
theorem bk_Mod_image_20 : blk 298 20 = some (((cd_Mod_image.lookup 20).getD ([], 0, []))) := rfl
theorem Mod_image_20 (d : Nat) (a0 : Nat) (x1 : Int) (x2 : Int) (h : Hp) : EX d 298 20 [(0, .inr (.inr a0)), (1, .inl x1), (2, .inl x2)] [] h = if (wr x2) < 1115 then EX d 298 27 [(0, .inr (.inr a0)), (1, .inl x1), (2, .inl x2)] [] h else EX d 298 53 [(0, .inr (.inr a0)), (1, .inl x1)] [] h := (EX_at bk_Mod_image_20 _ _ _).trans rfl
theorem bk_Mod_image_27 : blk 298 27 = some (((cd_Mod_image.lookup 27).getD ([], 0, []))) := rfl
theorem Mod_image_27 (d : Nat) (a0 : Nat) (x1 : Int) (x2 : Int) (h : Hp) : EX d 298 27 [(0, .inr (.inr a0)), (1, .inl x1), (2, .inl x2)] [] h = if sK h a0 = 11 then if sK h a0 = 11 then if okx h (hR h a0 1) 20 x2 then if okx h (hR h a0 1) 20 ((1115 * (x1 + 1)) + x2) then EX d 298 47 [(0, .inr (.inr a0)), (1, .inl x1), (2, .inl x2)] [] (pI h (hR h a0 1) (ix ((1115 * (x1 + 1)) + x2)) (hI h (hR h a0 1) (ix x2))) else none else none else none else none := (EX_at bk_Mod_image_27 _ _ _).trans rfl
theorem bk_Mod_image_47 : blk 298 47 = some (((cd_Mod_image.lookup 47).getD ([], 0, []))) := rfl
theorem Mod_image_47 (d : Nat) (a0 : Nat) (x1 : Int) (x2 : Int) (h : Hp) : EX d 298 47 [(0, .inr (.inr a0)), (1, .inl x1), (2, .inl x2)] [] h = EX d 298 20 [(0, .inr (.inr a0)), (1, .inl x1), (2, .inl (x2 + 1))] [] h := (EX_at bk_Mod_image_47 _ _ _).trans rfl
theorem bk_Mod_image_53 : blk 298 53 = some (((cd_Mod_image.lookup 53).getD ([], 0, []))) := rfl
theorem Mod_image_53 (d : Nat) (a0 : Nat) (x1 : Int) (h : Hp) : EX d 298 53 [(0, .inr (.inr a0)), (1, .inl x1)] [] h = if sK h a0 = 11 then if (okx h (hR h a0 2) 23 x1 ∧ ((1 : Int) = 0 ∨ (1 : Int) = 1)) then EX d 298 60 [] [] (pI h (hR h a0 2) (ix x1) 1) else none else none := (EX_at bk_Mod_image_53 _ _ _).trans rfl
theorem bk_Mod_image_60 : blk 298 60 = some (((cd_Mod_image.lookup 60).getD ([], 0, []))) := rfl
theorem Mod_image_60 (d : Nat) (h : Hp) : EX d 298 60 [] [] h = some (.inl 0, h) := (EX_at bk_Mod_image_60 _ _ _).trans rfl
/-! restore(I)I of HookOverModel: method 300 -/
theorem bk_Mod_restore_0 : blk 300 0 = some (((cd_Mod_restore.lookup 0).getD ([], 0, []))) := rfl
theorem Mod_restore_0 (d : Nat) (a0 : Nat) (x1 : Int) (h : Hp) : EX d 300 0 [(0, .inr (.inr a0)), (1, .inl x1)] [] h = if sK h a0 = 11 then EX d 300 5 [(0, .inr (.inr a0)), (1, .inl x1)] [] (pI h a0 0 0) else none := (EX_at bk_Mod_restore_0 _ _ _).trans rfl
theorem bk_Mod_restore_5 : blk 300 5 = some (((cd_Mod_restore.lookup 5).getD ([], 0, []))) := rfl
theorem Mod_restore_5 (d : Nat) (a0 : Nat) (x1 : Int) (h : Hp) : EX d 300 5 [(0, .inr (.inr a0)), (1, .inl x1)] [] h = bak (EX d 300) 12 [(0, .inr (.inr a0)), (1, .inl x1)] [] false (cal d 71 [.inr (.inl (wr x1)), .inr (.inl 0), .inr (.inl 1)] h) := (EX_at bk_Mod_restore_5 _ _ _).trans rfl
theorem bk_Mod_restore_12 : blk 300 12 = some (((cd_Mod_restore.lookup 12).getD ([], 0, []))) := rfl
theorem Mod_restore_12 (d : Nat) (a0 : Nat) (x1 : Int) (s0 : Int) (h : Hp) : EX d 300 12 [(0, .inr (.inr a0)), (1, .inl x1)] [.inl s0] h = if (wr s0) = 0 then EX d 300 15 [] [] h else EX d 300 18 [(0, .inr (.inr a0)), (1, .inl x1)] [] h := (EX_at bk_Mod_restore_12 _ _ _).trans rfl
theorem bk_Mod_restore_15 : blk 300 15 = some (((cd_Mod_restore.lookup 15).getD ([], 0, []))) := rfl
theorem Mod_restore_15 (d : Nat) (h : Hp) : EX d 300 15 [] [] h = some (.inl (-2), h) := (EX_at bk_Mod_restore_15 _ _ _).trans rfl
theorem bk_Mod_restore_18 : blk 300 18 = some (((cd_Mod_restore.lookup 18).getD ([], 0, []))) := rfl
theorem Mod_restore_18 (d : Nat) (a0 : Nat) (x1 : Int) (h : Hp) : EX d 300 18 [(0, .inr (.inr a0)), (1, .inl x1)] [] h = if sK h a0 = 11 then if okx h (hR h a0 2) 23 x1 then if (wr (hI h (hR h a0 2) (ix x1))) = 0 then EX d 300 27 [] [] h else EX d 300 30 [(0, .inr (.inr a0)), (1, .inl x1)] [] h else none else none := (EX_at bk_Mod_restore_18 _ _ _).trans rfl
theorem bk_Mod_restore_27 : blk 300 27 = some (((cd_Mod_restore.lookup 27).getD ([], 0, []))) := rfl
theorem Mod_restore_27 (d : Nat) (h : Hp) : EX d 300 27 [] [] h = some (.inl (-5), h) := (EX_at bk_Mod_restore_27 _ _ _).trans rfl
theorem bk_Mod_restore_30 : blk 300 30 = some (((cd_Mod_restore.lookup 30).getD ([], 0, []))) := rfl
theorem Mod_restore_30 (d : Nat) (a0 : Nat) (x1 : Int) (h : Hp) : EX d 300 30 [(0, .inr (.inr a0)), (1, .inl x1)] [] h = EX d 300 32 [(0, .inr (.inr a0)), (1, .inl x1), (2, .inl 0)] [] h := (EX_at bk_Mod_restore_30 _ _ _).trans rfl
theorem bk_Mod_restore_32 : blk 300 32 = some (((cd_Mod_restore.lookup 32).getD ([], 0, []))) := rfl
theorem Mod_restore_32 (d : Nat) (a0 : Nat) (x1 : Int) (x2 : Int) (h : Hp) : EX d 300 32 [(0, .inr (.inr a0)), (1, .inl x1), (2, .inl x2)] [] h = if (wr x2) < 1115 then EX d 300 39 [(0, .inr (.inr a0)), (1, .inl x1), (2, .inl x2)] [] h else EX d 300 65 [(0, .inr (.inr a0))] [] h := (EX_at bk_Mod_restore_32 _ _ _).trans rfl
theorem bk_Mod_restore_39 : blk 300 39 = some (((cd_Mod_restore.lookup 39).getD ([], 0, []))) := rfl
theorem Mod_restore_39 (d : Nat) (a0 : Nat) (x1 : Int) (x2 : Int) (h : Hp) : EX d 300 39 [(0, .inr (.inr a0)), (1, .inl x1), (2, .inl x2)] [] h = if sK h a0 = 11 then if sK h a0 = 11 then if okx h (hR h a0 1) 20 ((1115 * (x1 + 1)) + x2) then if okx h (hR h a0 1) 20 x2 then EX d 300 59 [(0, .inr (.inr a0)), (1, .inl x1), (2, .inl x2)] [] (pI h (hR h a0 1) (ix x2) (hI h (hR h a0 1) (ix ((1115 * (x1 + 1)) + x2)))) else none else none else none else none := (EX_at bk_Mod_restore_39 _ _ _).trans rfl
theorem bk_Mod_restore_59 : blk 300 59 = some (((cd_Mod_restore.lookup 59).getD ([], 0, []))) := rfl
theorem Mod_restore_59 (d : Nat) (a0 : Nat) (x1 : Int) (x2 : Int) (h : Hp) : EX d 300 59 [(0, .inr (.inr a0)), (1, .inl x1), (2, .inl x2)] [] h = EX d 300 32 [(0, .inr (.inr a0)), (1, .inl x1), (2, .inl (x2 + 1))] [] h := (EX_at bk_Mod_restore_59 _ _ _).trans rfl
theorem bk_Mod_restore_65 : blk 300 65 = some (((cd_Mod_restore.lookup 65).getD ([], 0, []))) := rfl
theorem Mod_restore_65 (d : Nat) (a0 : Nat) (h : Hp) : EX d 300 65 [(0, .inr (.inr a0))] [] h = if sK h a0 = 11 then if okx h (hR h a0 1) 20 73 then EX d 300 73 [] [] (pI h (hR h a0 1) 73 0) else none else none := (EX_at bk_Mod_restore_65 _ _ _).trans rfl
theorem bk_Mod_restore_73 : blk 300 73 = some (((cd_Mod_restore.lookup 73).getD ([], 0, []))) := rfl
theorem Mod_restore_73 (d : Nat) (h : Hp) : EX d 300 73 [] [] h = some (.inl 0, h) := (EX_at bk_Mod_restore_73 _ _ _).trans rfl
/-! brokenMany()I of HookOverModel: method 303 -/
theorem bk_Mod_brokenMany_0 : blk 303 0 = some (((cd_Mod_brokenMany.lookup 0).getD ([], 0, []))) := rfl
theorem Mod_brokenMany_0 (d : Nat) (a0 : Nat) (h : Hp) : EX d 303 0 [(0, .inr (.inr a0))] [] h = EX d 303 4 [(0, .inr (.inr a0)), (1, .inl 0), (2, .inl 0)] [] h := (EX_at bk_Mod_brokenMany_0 _ _ _).trans rfl
theorem bk_Mod_brokenMany_4 : blk 303 4 = some (((cd_Mod_brokenMany.lookup 4).getD ([], 0, []))) := rfl
theorem Mod_brokenMany_4 (d : Nat) (a0 : Nat) (x1 : Int) (x2 : Int) (h : Hp) : EX d 303 4 [(0, .inr (.inr a0)), (1, .inl x1), (2, .inl x2)] [] h = if sK h a0 = 11 then if okx h (hR h a0 1) 20 2 then if (wr x2) < (wr (hI h (hR h a0 1) 2)) then EX d 303 14 [(0, .inr (.inr a0)), (1, .inl x1), (2, .inl x2)] [] h else EX d 303 43 [(1, .inl x1)] [] h else none else none := (EX_at bk_Mod_brokenMany_4 _ _ _).trans rfl
theorem bk_Mod_brokenMany_14 : blk 303 14 = some (((cd_Mod_brokenMany.lookup 14).getD ([], 0, []))) := rfl
theorem Mod_brokenMany_14 (d : Nat) (a0 : Nat) (x1 : Int) (x2 : Int) (h : Hp) : EX d 303 14 [(0, .inr (.inr a0)), (1, .inl x1), (2, .inl x2)] [] h = if sK h a0 = 11 then if okx h (hR h a0 1) 20 10 then bak (EX d 303) 27 [(0, .inr (.inr a0)), (2, .inl x2)] [.inl x1] false (cal d 96 [.inr (.inl (wr (hI h (hR h a0 1) 10))), .inl x2] h) else none else none := (EX_at bk_Mod_brokenMany_14 _ _ _).trans rfl
theorem bk_Mod_brokenMany_27 : blk 303 27 = some (((cd_Mod_brokenMany.lookup 27).getD ([], 0, []))) := rfl
theorem Mod_brokenMany_27 (d : Nat) (a0 : Nat) (x2 : Int) (s0 : Int) (s1 : Int) (h : Hp) : EX d 303 27 [(0, .inr (.inr a0)), (2, .inl x2)] [.inl s1, .inl s0] h = if (wr s1) = 0 then EX d 303 34 [(0, .inr (.inr a0)), (2, .inl x2)] [.inl s0] h else EX d 303 30 [(0, .inr (.inr a0)), (2, .inl x2)] [.inl s0] h := (EX_at bk_Mod_brokenMany_27 _ _ _).trans rfl
theorem bk_Mod_brokenMany_30 : blk 303 30 = some (((cd_Mod_brokenMany.lookup 30).getD ([], 0, []))) := rfl
theorem Mod_brokenMany_30 (d : Nat) (a0 : Nat) (x2 : Int) (s0 : Int) (h : Hp) : EX d 303 30 [(0, .inr (.inr a0)), (2, .inl x2)] [.inl s0] h = EX d 303 35 [(0, .inr (.inr a0)), (2, .inl x2)] [.inl 1, .inl s0] h := (EX_at bk_Mod_brokenMany_30 _ _ _).trans rfl
theorem bk_Mod_brokenMany_34 : blk 303 34 = some (((cd_Mod_brokenMany.lookup 34).getD ([], 0, []))) := rfl
theorem Mod_brokenMany_34 (d : Nat) (a0 : Nat) (x2 : Int) (s0 : Int) (h : Hp) : EX d 303 34 [(0, .inr (.inr a0)), (2, .inl x2)] [.inl s0] h = EX d 303 35 [(0, .inr (.inr a0)), (2, .inl x2)] [.inl 0, .inl s0] h := (EX_at bk_Mod_brokenMany_34 _ _ _).trans rfl
theorem bk_Mod_brokenMany_35 : blk 303 35 = some (((cd_Mod_brokenMany.lookup 35).getD ([], 0, []))) := rfl
theorem Mod_brokenMany_35 (d : Nat) (a0 : Nat) (x2 : Int) (s0 : Int) (s1 : Int) (h : Hp) : EX d 303 35 [(0, .inr (.inr a0)), (2, .inl x2)] [.inl s1, .inl s0] h = EX d 303 4 [(0, .inr (.inr a0)), (1, .inl (s0 + s1)), (2, .inl (x2 + 1))] [] h := (EX_at bk_Mod_brokenMany_35 _ _ _).trans rfl
theorem bk_Mod_brokenMany_43 : blk 303 43 = some (((cd_Mod_brokenMany.lookup 43).getD ([], 0, []))) := rfl
theorem Mod_brokenMany_43 (d : Nat) (x1 : Int) (h : Hp) : EX d 303 43 [(1, .inl x1)] [] h = some (.inl x1, h) := (EX_at bk_Mod_brokenMany_43 _ _ _).trans rfl
/-! count(I)I of HookOverModel: method 304 -/
theorem bk_Mod_count_0 : blk 304 0 = some (((cd_Mod_count.lookup 0).getD ([], 0, []))) := rfl
theorem Mod_count_0 (d : Nat) (a0 : Nat) (x1 : Int) (h : Hp) : EX d 304 0 [(0, .inr (.inr a0)), (1, .inl x1)] [] h = if sK h a0 = 11 then EX d 304 5 [(0, .inr (.inr a0)), (1, .inl x1)] [] (pI h a0 0 0) else none := (EX_at bk_Mod_count_0 _ _ _).trans rfl
theorem bk_Mod_count_5 : blk 304 5 = some (((cd_Mod_count.lookup 5).getD ([], 0, []))) := rfl
theorem Mod_count_5 (d : Nat) (a0 : Nat) (x1 : Int) (h : Hp) : EX d 304 5 [(0, .inr (.inr a0)), (1, .inl x1)] [] h = if (wr x1) = 0 then EX d 304 68 [(0, .inr (.inr a0))] [] h else if (wr x1) = 1 then EX d 304 75 [(0, .inr (.inr a0))] [] h else if (wr x1) = 2 then EX d 304 82 [(0, .inr (.inr a0))] [] h else if (wr x1) = 3 then EX d 304 87 [(0, .inr (.inr a0))] [] h else if (wr x1) = 4 then EX d 304 95 [(0, .inr (.inr a0))] [] h else if (wr x1) = 5 then EX d 304 103 [(0, .inr (.inr a0))] [] h else if (wr x1) = 6 then EX d 304 111 [(0, .inr (.inr a0))] [] h else if (wr x1) = 7 then EX d 304 118 [(0, .inr (.inr a0))] [] h else if (wr x1) = 8 then EX d 304 125 [(0, .inr (.inr a0))] [] h else if (wr x1) = 9 then EX d 304 132 [(0, .inr (.inr a0))] [] h else if (wr x1) = 10 then EX d 304 140 [(0, .inr (.inr a0))] [] h else if (wr x1) = 11 then EX d 304 145 [(0, .inr (.inr a0))] [] h else EX d 304 152 [(0, .inr (.inr a0))] [] h := (EX_at bk_Mod_count_5 _ _ _).trans rfl
theorem bk_Mod_count_68 : blk 304 68 = some (((cd_Mod_count.lookup 68).getD ([], 0, []))) := rfl
theorem Mod_count_68 (d : Nat) (a0 : Nat) (h : Hp) : EX d 304 68 [(0, .inr (.inr a0))] [] h = if sK h a0 = 11 then if okx h (hR h a0 1) 20 1 then some (.inl (hI h (hR h a0 1) 1), h) else none else none := (EX_at bk_Mod_count_68 _ _ _).trans rfl
theorem bk_Mod_count_75 : blk 304 75 = some (((cd_Mod_count.lookup 75).getD ([], 0, []))) := rfl
theorem Mod_count_75 (d : Nat) (a0 : Nat) (h : Hp) : EX d 304 75 [(0, .inr (.inr a0))] [] h = if sK h a0 = 11 then if okx h (hR h a0 1) 20 2 then some (.inl (hI h (hR h a0 1) 2), h) else none else none := (EX_at bk_Mod_count_75 _ _ _).trans rfl
theorem bk_Mod_count_82 : blk 304 82 = some (((cd_Mod_count.lookup 82).getD ([], 0, []))) := rfl
theorem Mod_count_82 (d : Nat) (a0 : Nat) (h : Hp) : EX d 304 82 [(0, .inr (.inr a0))] [] h = if sK h a0 = 11 then bak (EX d 304) 86 [] [] false (cal d 303 [.inr (.inr a0)] h) else none := (EX_at bk_Mod_count_82 _ _ _).trans rfl
theorem bk_Mod_count_86 : blk 304 86 = some (((cd_Mod_count.lookup 86).getD ([], 0, []))) := rfl
theorem Mod_count_86 (d : Nat) (s0 : Int) (h : Hp) : EX d 304 86 [] [.inl s0] h = some (.inl s0, h) := (EX_at bk_Mod_count_86 _ _ _).trans rfl
theorem bk_Mod_count_87 : blk 304 87 = some (((cd_Mod_count.lookup 87).getD ([], 0, []))) := rfl
theorem Mod_count_87 (d : Nat) (a0 : Nat) (h : Hp) : EX d 304 87 [(0, .inr (.inr a0))] [] h = if sK h a0 = 11 then if okx h (hR h a0 1) 20 60 then some (.inl (hI h (hR h a0 1) 60), h) else none else none := (EX_at bk_Mod_count_87 _ _ _).trans rfl
theorem bk_Mod_count_95 : blk 304 95 = some (((cd_Mod_count.lookup 95).getD ([], 0, []))) := rfl
theorem Mod_count_95 (d : Nat) (a0 : Nat) (h : Hp) : EX d 304 95 [(0, .inr (.inr a0))] [] h = if sK h a0 = 11 then if okx h (hR h a0 1) 20 59 then some (.inl (hI h (hR h a0 1) 59), h) else none else none := (EX_at bk_Mod_count_95 _ _ _).trans rfl
theorem bk_Mod_count_103 : blk 304 103 = some (((cd_Mod_count.lookup 103).getD ([], 0, []))) := rfl
theorem Mod_count_103 (d : Nat) (a0 : Nat) (h : Hp) : EX d 304 103 [(0, .inr (.inr a0))] [] h = if sK h a0 = 11 then if okx h (hR h a0 1) 20 73 then some (.inl (hI h (hR h a0 1) 73), h) else none else none := (EX_at bk_Mod_count_103 _ _ _).trans rfl
theorem bk_Mod_count_111 : blk 304 111 = some (((cd_Mod_count.lookup 111).getD ([], 0, []))) := rfl
theorem Mod_count_111 (d : Nat) (a0 : Nat) (h : Hp) : EX d 304 111 [(0, .inr (.inr a0))] [] h = if sK h a0 = 11 then if okx h (hR h a0 1) 20 3 then some (.inl (hI h (hR h a0 1) 3), h) else none else none := (EX_at bk_Mod_count_111 _ _ _).trans rfl
theorem bk_Mod_count_118 : blk 304 118 = some (((cd_Mod_count.lookup 118).getD ([], 0, []))) := rfl
theorem Mod_count_118 (d : Nat) (a0 : Nat) (h : Hp) : EX d 304 118 [(0, .inr (.inr a0))] [] h = if sK h a0 = 11 then if okx h (hR h a0 1) 20 4 then some (.inl (hI h (hR h a0 1) 4), h) else none else none := (EX_at bk_Mod_count_118 _ _ _).trans rfl
theorem bk_Mod_count_125 : blk 304 125 = some (((cd_Mod_count.lookup 125).getD ([], 0, []))) := rfl
theorem Mod_count_125 (d : Nat) (a0 : Nat) (h : Hp) : EX d 304 125 [(0, .inr (.inr a0))] [] h = if sK h a0 = 11 then if okx h (hR h a0 1) 20 5 then some (.inl (hI h (hR h a0 1) 5), h) else none else none := (EX_at bk_Mod_count_125 _ _ _).trans rfl
theorem bk_Mod_count_132 : blk 304 132 = some (((cd_Mod_count.lookup 132).getD ([], 0, []))) := rfl
theorem Mod_count_132 (d : Nat) (a0 : Nat) (h : Hp) : EX d 304 132 [(0, .inr (.inr a0))] [] h = if sK h a0 = 11 then if okx h (hR h a0 1) 20 6 then some (.inl (hI h (hR h a0 1) 6), h) else none else none := (EX_at bk_Mod_count_132 _ _ _).trans rfl
theorem bk_Mod_count_140 : blk 304 140 = some (((cd_Mod_count.lookup 140).getD ([], 0, []))) := rfl
theorem Mod_count_140 (d : Nat) (a0 : Nat) (h : Hp) : EX d 304 140 [(0, .inr (.inr a0))] [] h = if sK h a0 = 11 then some (.inl (hI h a0 5), h) else none := (EX_at bk_Mod_count_140 _ _ _).trans rfl
theorem bk_Mod_count_145 : blk 304 145 = some (((cd_Mod_count.lookup 145).getD ([], 0, []))) := rfl
theorem Mod_count_145 (d : Nat) (a0 : Nat) (h : Hp) : EX d 304 145 [(0, .inr (.inr a0))] [] h = if sK h a0 = 11 then if okx h (hR h a0 1) 20 0 then some (.inl (hI h (hR h a0 1) 0), h) else none else none := (EX_at bk_Mod_count_145 _ _ _).trans rfl
theorem bk_Mod_count_152 : blk 304 152 = some (((cd_Mod_count.lookup 152).getD ([], 0, []))) := rfl
theorem Mod_count_152 (d : Nat) (a0 : Nat) (h : Hp) : EX d 304 152 [(0, .inr (.inr a0))] [] h = some (.inl (-1), h) := (EX_at bk_Mod_count_152 _ _ _).trans rfl
