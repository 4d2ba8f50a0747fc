/-! <init>()V of HookOver$Tray: method 9 -/
theorem bk_Tray_init_0 : blk 9 0 = some (((cd_Tray_init.lookup 0).getD ([], 0, []))) := rfl
theorem Tray_init_0 (d : Nat) (a0 : Nat) (h : Hp) : EX d 9 0 [(0, .inr (.inr a0))] [] h = if (0 < a0 ∧ 0 ≤ 8) then EX d 9 9 [(0, .inr (.inr a0))] [.inr (.inr ((Prod.fst h).length)), .inr (.inr a0)] (nwH h 21 40) else none := (EX_at bk_Tray_init_0 _ _ _).trans rfl
theorem bk_Tray_init_9 : blk 9 9 = some (((cd_Tray_init.lookup 9).getD ([], 0, []))) := rfl
theorem Tray_init_9 (d : Nat) (a0 : Nat) (r0 : Nat) (r1 : Nat) (h : Hp) : EX d 9 9 [(0, .inr (.inr a0))] [.inr (.inr r1), .inr (.inr r0)] h = if sK h r0 = 7 then EX d 9 12 [(0, .inr (.inr a0))] [] (pR h r0 0 r1) else none := (EX_at bk_Tray_init_9 _ _ _).trans rfl
theorem bk_Tray_init_12 : blk 9 12 = some (((cd_Tray_init.lookup 12).getD ([], 0, []))) := rfl
theorem Tray_init_12 (d : Nat) (a0 : Nat) (h : Hp) : EX d 9 12 [(0, .inr (.inr a0))] [] h = if sK h a0 = 7 then EX d 9 17 [(0, .inr (.inr a0))] [] (pI h a0 1 0) else none := (EX_at bk_Tray_init_12 _ _ _).trans rfl
theorem bk_Tray_init_17 : blk 9 17 = some (((cd_Tray_init.lookup 17).getD ([], 0, []))) := rfl
theorem Tray_init_17 (d : Nat) (a0 : Nat) (h : Hp) : EX d 9 17 [(0, .inr (.inr a0))] [] h = if sK h a0 = 7 then EX d 9 22 [] [] (pI h a0 2 (-1)) else none := (EX_at bk_Tray_init_17 _ _ _).trans rfl
theorem bk_Tray_init_22 : blk 9 22 = some (((cd_Tray_init.lookup 22).getD ([], 0, []))) := rfl
theorem Tray_init_22 (d : Nat) (h : Hp) : EX d 9 22 [] [] h = some (.inl 0, h) := (EX_at bk_Tray_init_22 _ _ _).trans rfl
/-! isMissing()Z of HookOver$Tray: method 155 -/
theorem bk_Tray_isMissing_0 : blk 155 0 = some (((cd_Tray_isMissing.lookup 0).getD ([], 0, []))) := rfl
theorem Tray_isMissing_0 (d : Nat) (a0 : Nat) (h : Hp) : EX d 155 0 [(0, .inr (.inr a0))] [] h = if sK h a0 = 7 then if (wr (hI h a0 2)) = (-1) then EX d 155 8 [] [] h else EX d 155 12 [] [] h else none := (EX_at bk_Tray_isMissing_0 _ _ _).trans rfl
theorem bk_Tray_isMissing_8 : blk 155 8 = some (((cd_Tray_isMissing.lookup 8).getD ([], 0, []))) := rfl
theorem Tray_isMissing_8 (d : Nat) (h : Hp) : EX d 155 8 [] [] h = EX d 155 13 [] [.inl 1] h := (EX_at bk_Tray_isMissing_8 _ _ _).trans rfl
theorem bk_Tray_isMissing_12 : blk 155 12 = some (((cd_Tray_isMissing.lookup 12).getD ([], 0, []))) := rfl
theorem Tray_isMissing_12 (d : Nat) (h : Hp) : EX d 155 12 [] [] h = EX d 155 13 [] [.inl 0] h := (EX_at bk_Tray_isMissing_12 _ _ _).trans rfl
theorem bk_Tray_isMissing_13 : blk 155 13 = some (((cd_Tray_isMissing.lookup 13).getD ([], 0, []))) := rfl
theorem Tray_isMissing_13 (d : Nat) (s0 : Int) (h : Hp) : EX d 155 13 [] [.inl s0] h = if ((s0 : Int) = 0 ∨ (s0 : Int) = 1) then some (.inl s0, h) else none := (EX_at bk_Tray_isMissing_13 _ _ _).trans rfl
/-! at(I)J of HookOver$Tray: method 156 -/
theorem bk_Tray_at_0 : blk 156 0 = some (((cd_Tray_at.lookup 0).getD ([], 0, []))) := rfl
theorem Tray_at_0 (d : Nat) (a0 : Nat) (x1 : Int) (h : Hp) : EX d 156 0 [(0, .inr (.inr a0)), (1, .inl x1)] [] h = if (wr x1) < 0 then EX d 156 21 [] [] h else EX d 156 4 [(0, .inr (.inr a0)), (1, .inl x1)] [] h := (EX_at bk_Tray_at_0 _ _ _).trans rfl
theorem bk_Tray_at_4 : blk 156 4 = some (((cd_Tray_at.lookup 4).getD ([], 0, []))) := rfl
theorem Tray_at_4 (d : Nat) (a0 : Nat) (x1 : Int) (h : Hp) : EX d 156 4 [(0, .inr (.inr a0)), (1, .inl x1)] [] h = if sK h a0 = 7 then if (wr x1) < (wr (hI h a0 2)) then EX d 156 12 [(0, .inr (.inr a0)), (1, .inl x1)] [] h else EX d 156 21 [] [] h else none := (EX_at bk_Tray_at_4 _ _ _).trans rfl
theorem bk_Tray_at_12 : blk 156 12 = some (((cd_Tray_at.lookup 12).getD ([], 0, []))) := rfl
theorem Tray_at_12 (d : Nat) (a0 : Nat) (x1 : Int) (h : Hp) : EX d 156 12 [(0, .inr (.inr a0)), (1, .inl x1)] [] h = if sK h a0 = 7 then if okx h (hR h a0 0) 21 x1 then EX d 156 22 [] [.inr (.inl (hL h (hR h a0 0) (ix x1)))] h else none else none := (EX_at bk_Tray_at_12 _ _ _).trans rfl
theorem bk_Tray_at_21 : blk 156 21 = some (((cd_Tray_at.lookup 21).getD ([], 0, []))) := rfl
theorem Tray_at_21 (d : Nat) (h : Hp) : EX d 156 21 [] [] h = EX d 156 22 [] [.inr (.inl 0)] h := (EX_at bk_Tray_at_21 _ _ _).trans rfl
theorem bk_Tray_at_22 : blk 156 22 = some (((cd_Tray_at.lookup 22).getD ([], 0, []))) := rfl
theorem Tray_at_22 (d : Nat) (t0 : Int) (h : Hp) : EX d 156 22 [] [.inr (.inl t0)] h = some (.inr (.inl t0), h) := (EX_at bk_Tray_at_22 _ _ _).trans rfl
/-! isWithin(JJ)Z of HookOver$Tray: method 224 -/
theorem bk_Tray_isWithin_0 : blk 224 0 = some (((cd_Tray_isWithin.lookup 0).getD ([], 0, []))) := rfl
theorem Tray_isWithin_0 (d : Nat) (a0 : Nat) (y1 : Int) (y3 : Int) (h : Hp) : EX d 224 0 [(0, .inr (.inr a0)), (1, .inr (.inl y1)), (3, .inr (.inl y3))] [] h = EX d 224 3 [(0, .inr (.inr a0)), (1, .inr (.inl y1)), (3, .inr (.inl y3)), (5, .inl 0)] [] h := (EX_at bk_Tray_isWithin_0 _ _ _).trans rfl
theorem bk_Tray_isWithin_3 : blk 224 3 = some (((cd_Tray_isWithin.lookup 3).getD ([], 0, []))) := rfl
theorem Tray_isWithin_3 (d : Nat) (a0 : Nat) (y1 : Int) (y3 : Int) (x5 : Int) (h : Hp) : EX d 224 3 [(0, .inr (.inr a0)), (1, .inr (.inl y1)), (3, .inr (.inl y3)), (5, .inl x5)] [] h = if sK h a0 = 7 then if (wr x5) < (wr (hI h a0 2)) then EX d 224 12 [(0, .inr (.inr a0)), (1, .inr (.inl y1)), (3, .inr (.inl y3)), (5, .inl x5)] [] h else EX d 224 44 [] [] h else none := (EX_at bk_Tray_isWithin_3 _ _ _).trans rfl
theorem bk_Tray_isWithin_12 : blk 224 12 = some (((cd_Tray_isWithin.lookup 12).getD ([], 0, []))) := rfl
theorem Tray_isWithin_12 (d : Nat) (a0 : Nat) (y1 : Int) (y3 : Int) (x5 : Int) (h : Hp) : EX d 224 12 [(0, .inr (.inr a0)), (1, .inr (.inl y1)), (3, .inr (.inl y3)), (5, .inl x5)] [] h = if sK h a0 = 7 then if okx h (hR h a0 0) 21 x5 then if (wr (lCmp (hL h (hR h a0 0) (ix x5)) y1)) < 0 then EX d 224 36 [] [] h else EX d 224 24 [(0, .inr (.inr a0)), (1, .inr (.inl y1)), (3, .inr (.inl y3)), (5, .inl x5)] [] h else none else none := (EX_at bk_Tray_isWithin_12 _ _ _).trans rfl
theorem bk_Tray_isWithin_24 : blk 224 24 = some (((cd_Tray_isWithin.lookup 24).getD ([], 0, []))) := rfl
theorem Tray_isWithin_24 (d : Nat) (a0 : Nat) (y1 : Int) (y3 : Int) (x5 : Int) (h : Hp) : EX d 224 24 [(0, .inr (.inr a0)), (1, .inr (.inl y1)), (3, .inr (.inl y3)), (5, .inl x5)] [] h = if sK h a0 = 7 then if okx h (hR h a0 0) 21 x5 then if 0 < (wr (lCmp (hL h (hR h a0 0) (ix x5)) y3)) then EX d 224 36 [] [] h else EX d 224 38 [(0, .inr (.inr a0)), (1, .inr (.inl y1)), (3, .inr (.inl y3)), (5, .inl x5)] [] h else none else none := (EX_at bk_Tray_isWithin_24 _ _ _).trans rfl
theorem bk_Tray_isWithin_36 : blk 224 36 = some (((cd_Tray_isWithin.lookup 36).getD ([], 0, []))) := rfl
theorem Tray_isWithin_36 (d : Nat) (h : Hp) : EX d 224 36 [] [] h = some (.inl 0, h) := (EX_at bk_Tray_isWithin_36 _ _ _).trans rfl
theorem bk_Tray_isWithin_38 : blk 224 38 = some (((cd_Tray_isWithin.lookup 38).getD ([], 0, []))) := rfl
theorem Tray_isWithin_38 (d : Nat) (a0 : Nat) (y1 : Int) (y3 : Int) (x5 : Int) (h : Hp) : EX d 224 38 [(0, .inr (.inr a0)), (1, .inr (.inl y1)), (3, .inr (.inl y3)), (5, .inl x5)] [] h = EX d 224 3 [(0, .inr (.inr a0)), (1, .inr (.inl y1)), (3, .inr (.inl y3)), (5, .inl (x5 + 1))] [] h := (EX_at bk_Tray_isWithin_38 _ _ _).trans rfl
theorem bk_Tray_isWithin_44 : blk 224 44 = some (((cd_Tray_isWithin.lookup 44).getD ([], 0, []))) := rfl
theorem Tray_isWithin_44 (d : Nat) (h : Hp) : EX d 224 44 [] [] h = some (.inl 1, h) := (EX_at bk_Tray_isWithin_44 _ _ _).trans rfl
/-! hasTwins()Z of HookOver$Tray: method 233 -/
theorem bk_Tray_hasTwins_0 : blk 233 0 = some (((cd_Tray_hasTwins.lookup 0).getD ([], 0, []))) := rfl
theorem Tray_hasTwins_0 (d : Nat) (a0 : Nat) (h : Hp) : EX d 233 0 [(0, .inr (.inr a0))] [] h = EX d 233 2 [(0, .inr (.inr a0)), (1, .inl 0)] [] h := (EX_at bk_Tray_hasTwins_0 _ _ _).trans rfl
theorem bk_Tray_hasTwins_2 : blk 233 2 = some (((cd_Tray_hasTwins.lookup 2).getD ([], 0, []))) := rfl
theorem Tray_hasTwins_2 (d : Nat) (a0 : Nat) (x1 : Int) (h : Hp) : EX d 233 2 [(0, .inr (.inr a0)), (1, .inl x1)] [] h = if sK h a0 = 7 then if (wr x1) < (wr (hI h a0 2)) then EX d 233 10 [(0, .inr (.inr a0)), (1, .inl x1)] [] h else EX d 233 52 [] [] h else none := (EX_at bk_Tray_hasTwins_2 _ _ _).trans rfl
theorem bk_Tray_hasTwins_10 : blk 233 10 = some (((cd_Tray_hasTwins.lookup 10).getD ([], 0, []))) := rfl
theorem Tray_hasTwins_10 (d : Nat) (a0 : Nat) (x1 : Int) (h : Hp) : EX d 233 10 [(0, .inr (.inr a0)), (1, .inl x1)] [] h = EX d 233 14 [(0, .inr (.inr a0)), (1, .inl x1), (2, .inl (x1 + 1))] [] h := (EX_at bk_Tray_hasTwins_10 _ _ _).trans rfl
theorem bk_Tray_hasTwins_14 : blk 233 14 = some (((cd_Tray_hasTwins.lookup 14).getD ([], 0, []))) := rfl
theorem Tray_hasTwins_14 (d : Nat) (a0 : Nat) (x1 : Int) (x2 : Int) (h : Hp) : EX d 233 14 [(0, .inr (.inr a0)), (1, .inl x1), (2, .inl x2)] [] h = if sK h a0 = 7 then if (wr x2) < (wr (hI h a0 2)) then EX d 233 22 [(0, .inr (.inr a0)), (1, .inl x1), (2, .inl x2)] [] h else EX d 233 46 [(0, .inr (.inr a0)), (1, .inl x1)] [] h else none := (EX_at bk_Tray_hasTwins_14 _ _ _).trans rfl
theorem bk_Tray_hasTwins_22 : blk 233 22 = some (((cd_Tray_hasTwins.lookup 22).getD ([], 0, []))) := rfl
theorem Tray_hasTwins_22 (d : Nat) (a0 : Nat) (x1 : Int) (x2 : Int) (h : Hp) : EX d 233 22 [(0, .inr (.inr a0)), (1, .inl x1), (2, .inl x2)] [] h = if sK h a0 = 7 then if okx h (hR h a0 0) 21 x1 then if sK h a0 = 7 then if okx h (hR h a0 0) 21 x2 then if (wr (lCmp (hL h (hR h a0 0) (ix x1)) (hL h (hR h a0 0) (ix x2)))) = 0 then EX d 233 38 [] [] h else EX d 233 40 [(0, .inr (.inr a0)), (1, .inl x1), (2, .inl x2)] [] h else none else none else none else none := (EX_at bk_Tray_hasTwins_22 _ _ _).trans rfl
theorem bk_Tray_hasTwins_38 : blk 233 38 = some (((cd_Tray_hasTwins.lookup 38).getD ([], 0, []))) := rfl
theorem Tray_hasTwins_38 (d : Nat) (h : Hp) : EX d 233 38 [] [] h = some (.inl 1, h) := (EX_at bk_Tray_hasTwins_38 _ _ _).trans rfl
theorem bk_Tray_hasTwins_40 : blk 233 40 = some (((cd_Tray_hasTwins.lookup 40).getD ([], 0, []))) := rfl
theorem Tray_hasTwins_40 (d : Nat) (a0 : Nat) (x1 : Int) (x2 : Int) (h : Hp) : EX d 233 40 [(0, .inr (.inr a0)), (1, .inl x1), (2, .inl x2)] [] h = EX d 233 14 [(0, .inr (.inr a0)), (1, .inl x1), (2, .inl (x2 + 1))] [] h := (EX_at bk_Tray_hasTwins_40 _ _ _).trans rfl
theorem bk_Tray_hasTwins_46 : blk 233 46 = some (((cd_Tray_hasTwins.lookup 46).getD ([], 0, []))) := rfl
theorem Tray_hasTwins_46 (d : Nat) (a0 : Nat) (x1 : Int) (h : Hp) : EX d 233 46 [(0, .inr (.inr a0)), (1, .inl x1)] [] h = EX d 233 2 [(0, .inr (.inr a0)), (1, .inl (x1 + 1))] [] h := (EX_at bk_Tray_hasTwins_46 _ _ _).trans rfl
theorem bk_Tray_hasTwins_52 : blk 233 52 = some (((cd_Tray_hasTwins.lookup 52).getD ([], 0, []))) := rfl
theorem Tray_hasTwins_52 (d : Nat) (h : Hp) : EX d 233 52 [] [] h = some (.inl 0, h) := (EX_at bk_Tray_hasTwins_52 _ _ _).trans rfl
/-! least()J of HookOver$Tray: method 264 -/
theorem bk_Tray_least_0 : blk 264 0 = some (((cd_Tray_least.lookup 0).getD ([], 0, []))) := rfl
theorem Tray_least_0 (d : Nat) (a0 : Nat) (h : Hp) : EX d 264 0 [(0, .inr (.inr a0))] [] h = EX d 264 4 [(0, .inr (.inr a0)), (1, .inr (.inl 0)), (3, .inl 0)] [] h := (EX_at bk_Tray_least_0 _ _ _).trans rfl
theorem bk_Tray_least_4 : blk 264 4 = some (((cd_Tray_least.lookup 4).getD ([], 0, []))) := rfl
theorem Tray_least_4 (d : Nat) (a0 : Nat) (y1 : Int) (x3 : Int) (h : Hp) : EX d 264 4 [(0, .inr (.inr a0)), (1, .inr (.inl y1)), (3, .inl x3)] [] h = if sK h a0 = 7 then if (wr x3) < (wr (hI h a0 2)) then EX d 264 12 [(0, .inr (.inr a0)), (1, .inr (.inl y1)), (3, .inl x3)] [] h else EX d 264 29 [(1, .inr (.inl y1))] [] h else none := (EX_at bk_Tray_least_4 _ _ _).trans rfl
theorem bk_Tray_least_12 : blk 264 12 = some (((cd_Tray_least.lookup 12).getD ([], 0, []))) := rfl
theorem Tray_least_12 (d : Nat) (a0 : Nat) (y1 : Int) (x3 : Int) (h : Hp) : EX d 264 12 [(0, .inr (.inr a0)), (1, .inr (.inl y1)), (3, .inl x3)] [] h = if sK h a0 = 7 then if okx h (hR h a0 0) 21 x3 then bak (EX d 264) 22 [(0, .inr (.inr a0)), (3, .inl x3)] [] false (cal d 58 [.inr (.inl y1), .inr (.inl (hL h (hR h a0 0) (ix x3)))] h) else none else none := (EX_at bk_Tray_least_12 _ _ _).trans rfl
theorem bk_Tray_least_22 : blk 264 22 = some (((cd_Tray_least.lookup 22).getD ([], 0, []))) := rfl
theorem Tray_least_22 (d : Nat) (a0 : Nat) (x3 : Int) (t0 : Int) (h : Hp) : EX d 264 22 [(0, .inr (.inr a0)), (3, .inl x3)] [.inr (.inl t0)] h = EX d 264 4 [(0, .inr (.inr a0)), (1, .inr (.inl t0)), (3, .inl (x3 + 1))] [] h := (EX_at bk_Tray_least_22 _ _ _).trans rfl
theorem bk_Tray_least_29 : blk 264 29 = some (((cd_Tray_least.lookup 29).getD ([], 0, []))) := rfl
theorem Tray_least_29 (d : Nat) (y1 : Int) (h : Hp) : EX d 264 29 [(1, .inr (.inl y1))] [] h = some (.inr (.inl y1), h) := (EX_at bk_Tray_least_29 _ _ _).trans rfl
/-! make(II)V of HookOver$Tray: method 284 -/
theorem bk_Tray_make_0 : blk 284 0 = some (((cd_Tray_make.lookup 0).getD ([], 0, []))) := rfl
theorem Tray_make_0 (d : Nat) (a0 : Nat) (x1 : Int) (x2 : Int) (h : Hp) : EX d 284 0 [(0, .inr (.inr a0)), (1, .inl x1), (2, .inl x2)] [] h = if sK h a0 = 7 then bak (EX d 284) 8 [(0, .inr (.inr a0)), (1, .inl x1), (2, .inl x2)] [] true (cal d 283 [.inr (.inr (hR h a0 0)), .inr (.inl 0)] h) else none := (EX_at bk_Tray_make_0 _ _ _).trans rfl
theorem bk_Tray_make_8 : blk 284 8 = some (((cd_Tray_make.lookup 8).getD ([], 0, []))) := rfl
theorem Tray_make_8 (d : Nat) (a0 : Nat) (x1 : Int) (x2 : Int) (h : Hp) : EX d 284 8 [(0, .inr (.inr a0)), (1, .inl x1), (2, .inl x2)] [] h = if sK h a0 = 7 then EX d 284 13 [(0, .inr (.inr a0)), (2, .inl x2)] [] (pI h a0 1 x1) else none := (EX_at bk_Tray_make_8 _ _ _).trans rfl
theorem bk_Tray_make_13 : blk 284 13 = some (((cd_Tray_make.lookup 13).getD ([], 0, []))) := rfl
theorem Tray_make_13 (d : Nat) (a0 : Nat) (x2 : Int) (h : Hp) : EX d 284 13 [(0, .inr (.inr a0)), (2, .inl x2)] [] h = if sK h a0 = 7 then EX d 284 18 [] [] (pI h a0 2 x2) else none := (EX_at bk_Tray_make_13 _ _ _).trans rfl
theorem bk_Tray_make_18 : blk 284 18 = some (((cd_Tray_make.lookup 18).getD ([], 0, []))) := rfl
theorem Tray_make_18 (d : Nat) (h : Hp) : EX d 284 18 [] [] h = some (.inl 0, h) := (EX_at bk_Tray_make_18 _ _ _).trans rfl
/-! cut(J)J of HookOver$Tray: method 287 -/
theorem bk_Tray_cut_0 : blk 287 0 = some (((cd_Tray_cut.lookup 0).getD ([], 0, []))) := rfl
theorem Tray_cut_0 (d : Nat) (a0 : Nat) (y1 : Int) (h : Hp) : EX d 287 0 [(0, .inr (.inr a0)), (1, .inr (.inl y1))] [] h = if sK h a0 = 7 then if (wr (hI h a0 1)) = 0 then EX d 287 32 [(1, .inr (.inl y1))] [] h else if (wr (hI h a0 1)) = 1 then EX d 287 37 [(1, .inr (.inl y1))] [] h else if (wr (hI h a0 1)) = 2 then EX d 287 42 [(1, .inr (.inl y1))] [] h else EX d 287 46 [(1, .inr (.inl y1))] [] h else none := (EX_at bk_Tray_cut_0 _ _ _).trans rfl
theorem bk_Tray_cut_32 : blk 287 32 = some (((cd_Tray_cut.lookup 32).getD ([], 0, []))) := rfl
theorem Tray_cut_32 (d : Nat) (y1 : Int) (h : Hp) : EX d 287 32 [(1, .inr (.inl y1))] [] h = some (.inr (.inl (wr (bI2b y1))), h) := (EX_at bk_Tray_cut_32 _ _ _).trans rfl
theorem bk_Tray_cut_37 : blk 287 37 = some (((cd_Tray_cut.lookup 37).getD ([], 0, []))) := rfl
theorem Tray_cut_37 (d : Nat) (y1 : Int) (h : Hp) : EX d 287 37 [(1, .inr (.inl y1))] [] h = some (.inr (.inl (wr (bI2s y1))), h) := (EX_at bk_Tray_cut_37 _ _ _).trans rfl
theorem bk_Tray_cut_42 : blk 287 42 = some (((cd_Tray_cut.lookup 42).getD ([], 0, []))) := rfl
theorem Tray_cut_42 (d : Nat) (y1 : Int) (h : Hp) : EX d 287 42 [(1, .inr (.inl y1))] [] h = some (.inr (.inl (wr y1)), h) := (EX_at bk_Tray_cut_42 _ _ _).trans rfl
theorem bk_Tray_cut_46 : blk 287 46 = some (((cd_Tray_cut.lookup 46).getD ([], 0, []))) := rfl
theorem Tray_cut_46 (d : Nat) (y1 : Int) (h : Hp) : EX d 287 46 [(1, .inr (.inl y1))] [] h = some (.inr (.inl y1), h) := (EX_at bk_Tray_cut_46 _ _ _).trans rfl
/-! put(IJ)J of HookOver$Tray: method 288 -/
theorem bk_Tray_put_0 : blk 288 0 = some (((cd_Tray_put.lookup 0).getD ([], 0, []))) := rfl
theorem Tray_put_0 (d : Nat) (a0 : Nat) (x1 : Int) (y2 : Int) (h : Hp) : EX d 288 0 [(0, .inr (.inr a0)), (1, .inl x1), (2, .inr (.inl y2))] [] h = if (wr x1) < 0 then EX d 288 12 [] [] h else EX d 288 4 [(0, .inr (.inr a0)), (1, .inl x1), (2, .inr (.inl y2))] [] h := (EX_at bk_Tray_put_0 _ _ _).trans rfl
theorem bk_Tray_put_4 : blk 288 4 = some (((cd_Tray_put.lookup 4).getD ([], 0, []))) := rfl
theorem Tray_put_4 (d : Nat) (a0 : Nat) (x1 : Int) (y2 : Int) (h : Hp) : EX d 288 4 [(0, .inr (.inr a0)), (1, .inl x1), (2, .inr (.inl y2))] [] h = if sK h a0 = 7 then if (wr x1) < (wr (hI h a0 2)) then EX d 288 14 [(0, .inr (.inr a0)), (1, .inl x1), (2, .inr (.inl y2))] [] h else EX d 288 12 [] [] h else none := (EX_at bk_Tray_put_4 _ _ _).trans rfl
theorem bk_Tray_put_12 : blk 288 12 = some (((cd_Tray_put.lookup 12).getD ([], 0, []))) := rfl
theorem Tray_put_12 (d : Nat) (h : Hp) : EX d 288 12 [] [] h = some (.inr (.inl 0), h) := (EX_at bk_Tray_put_12 _ _ _).trans rfl
theorem bk_Tray_put_14 : blk 288 14 = some (((cd_Tray_put.lookup 14).getD ([], 0, []))) := rfl
theorem Tray_put_14 (d : Nat) (a0 : Nat) (x1 : Int) (y2 : Int) (h : Hp) : EX d 288 14 [(0, .inr (.inr a0)), (1, .inl x1), (2, .inr (.inl y2))] [] h = if sK h a0 = 7 then if sK h a0 = 7 then bak (EX d 288) 24 [(0, .inr (.inr a0)), (1, .inl x1)] [.inl x1, .inr (.inr (hR h a0 0))] false (cal d 287 [.inr (.inr a0), .inr (.inl y2)] h) else none else none := (EX_at bk_Tray_put_14 _ _ _).trans rfl
theorem bk_Tray_put_24 : blk 288 24 = some (((cd_Tray_put.lookup 24).getD ([], 0, []))) := rfl
theorem Tray_put_24 (d : Nat) (a0 : Nat) (x1 : Int) (r0 : Nat) (s1 : Int) (t2 : Int) (h : Hp) : EX d 288 24 [(0, .inr (.inr a0)), (1, .inl x1)] [.inr (.inl t2), .inl s1, .inr (.inr r0)] h = if okx h r0 21 s1 then EX d 288 25 [(0, .inr (.inr a0)), (1, .inl x1)] [] (pL h r0 (ix s1) t2) else none := (EX_at bk_Tray_put_24 _ _ _).trans rfl
theorem bk_Tray_put_25 : blk 288 25 = some (((cd_Tray_put.lookup 25).getD ([], 0, []))) := rfl
theorem Tray_put_25 (d : Nat) (a0 : Nat) (x1 : Int) (h : Hp) : EX d 288 25 [(0, .inr (.inr a0)), (1, .inl x1)] [] h = if sK h a0 = 7 then if okx h (hR h a0 0) 21 x1 then some (.inr (.inl (hL h (hR h a0 0) (ix x1))), h) else none else none := (EX_at bk_Tray_put_25 _ _ _).trans rfl
