/-! fill([II)V of java/util/Arrays: method 3 -/
theorem bk_Arr_fill_aII_0 : blk 3 0 = some (((cd_Arr_fill_aII.lookup 0).getD ([], 0, []))) := rfl
theorem Arr_fill_aII_0 (d : Nat) (a0 : Nat) (x1 : Int) (h : Hp) : EX d 3 0 [(0, .inr (.inr a0)), (1, .inl x1)] [] h = if sK h a0 = 20 then EX d 3 5 [(0, .inr (.inr a0)), (1, .inl x1), (2, .inl 0), (3, .inl (sL h a0))] [] h else none := (EX_at bk_Arr_fill_aII_0 _ _ _).trans rfl
theorem bk_Arr_fill_aII_5 : blk 3 5 = some (((cd_Arr_fill_aII.lookup 5).getD ([], 0, []))) := rfl
theorem Arr_fill_aII_5 (d : Nat) (a0 : Nat) (x1 : Int) (x2 : Int) (x3 : Int) (h : Hp) : EX d 3 5 [(0, .inr (.inr a0)), (1, .inl x1), (2, .inl x2), (3, .inl x3)] [] h = if (wr x2) < (wr x3) then EX d 3 10 [(0, .inr (.inr a0)), (1, .inl x1), (2, .inl x2), (3, .inl x3)] [] h else EX d 3 20 [] [] h := (EX_at bk_Arr_fill_aII_5 _ _ _).trans rfl
theorem bk_Arr_fill_aII_10 : blk 3 10 = some (((cd_Arr_fill_aII.lookup 10).getD ([], 0, []))) := rfl
theorem Arr_fill_aII_10 (d : Nat) (a0 : Nat) (x1 : Int) (x2 : Int) (x3 : Int) (h : Hp) : EX d 3 10 [(0, .inr (.inr a0)), (1, .inl x1), (2, .inl x2), (3, .inl x3)] [] h = if okx h a0 20 x2 then EX d 3 14 [(0, .inr (.inr a0)), (1, .inl x1), (2, .inl x2), (3, .inl x3)] [] (pI h a0 (ix x2) x1) else none := (EX_at bk_Arr_fill_aII_10 _ _ _).trans rfl
theorem bk_Arr_fill_aII_14 : blk 3 14 = some (((cd_Arr_fill_aII.lookup 14).getD ([], 0, []))) := rfl
theorem Arr_fill_aII_14 (d : Nat) (a0 : Nat) (x1 : Int) (x2 : Int) (x3 : Int) (h : Hp) : EX d 3 14 [(0, .inr (.inr a0)), (1, .inl x1), (2, .inl x2), (3, .inl x3)] [] h = EX d 3 5 [(0, .inr (.inr a0)), (1, .inl x1), (2, .inl (x2 + 1)), (3, .inl x3)] [] h := (EX_at bk_Arr_fill_aII_14 _ _ _).trans rfl
theorem bk_Arr_fill_aII_20 : blk 3 20 = some (((cd_Arr_fill_aII.lookup 20).getD ([], 0, []))) := rfl
theorem Arr_fill_aII_20 (d : Nat) (h : Hp) : EX d 3 20 [] [] h = some (.inl 0, h) := (EX_at bk_Arr_fill_aII_20 _ _ _).trans rfl
/-! fill([JJ)V of java/util/Arrays: method 283 -/
theorem bk_Arr_fill_aJJ_0 : blk 283 0 = some (((cd_Arr_fill_aJJ.lookup 0).getD ([], 0, []))) := rfl
theorem Arr_fill_aJJ_0 (d : Nat) (a0 : Nat) (y1 : Int) (h : Hp) : EX d 283 0 [(0, .inr (.inr a0)), (1, .inr (.inl y1))] [] h = if sK h a0 = 21 then EX d 283 6 [(0, .inr (.inr a0)), (1, .inr (.inl y1)), (3, .inl 0), (4, .inl (sL h a0))] [] h else none := (EX_at bk_Arr_fill_aJJ_0 _ _ _).trans rfl
theorem bk_Arr_fill_aJJ_6 : blk 283 6 = some (((cd_Arr_fill_aJJ.lookup 6).getD ([], 0, []))) := rfl
theorem Arr_fill_aJJ_6 (d : Nat) (a0 : Nat) (y1 : Int) (x3 : Int) (x4 : Int) (h : Hp) : EX d 283 6 [(0, .inr (.inr a0)), (1, .inr (.inl y1)), (3, .inl x3), (4, .inl x4)] [] h = if (wr x3) < (wr x4) then EX d 283 12 [(0, .inr (.inr a0)), (1, .inr (.inl y1)), (3, .inl x3), (4, .inl x4)] [] h else EX d 283 22 [] [] h := (EX_at bk_Arr_fill_aJJ_6 _ _ _).trans rfl
theorem bk_Arr_fill_aJJ_12 : blk 283 12 = some (((cd_Arr_fill_aJJ.lookup 12).getD ([], 0, []))) := rfl
theorem Arr_fill_aJJ_12 (d : Nat) (a0 : Nat) (y1 : Int) (x3 : Int) (x4 : Int) (h : Hp) : EX d 283 12 [(0, .inr (.inr a0)), (1, .inr (.inl y1)), (3, .inl x3), (4, .inl x4)] [] h = if okx h a0 21 x3 then EX d 283 16 [(0, .inr (.inr a0)), (1, .inr (.inl y1)), (3, .inl x3), (4, .inl x4)] [] (pL h a0 (ix x3) y1) else none := (EX_at bk_Arr_fill_aJJ_12 _ _ _).trans rfl
theorem bk_Arr_fill_aJJ_16 : blk 283 16 = some (((cd_Arr_fill_aJJ.lookup 16).getD ([], 0, []))) := rfl
theorem Arr_fill_aJJ_16 (d : Nat) (a0 : Nat) (y1 : Int) (x3 : Int) (x4 : Int) (h : Hp) : EX d 283 16 [(0, .inr (.inr a0)), (1, .inr (.inl y1)), (3, .inl x3), (4, .inl x4)] [] h = EX d 283 6 [(0, .inr (.inr a0)), (1, .inr (.inl y1)), (3, .inl (x3 + 1)), (4, .inl x4)] [] h := (EX_at bk_Arr_fill_aJJ_16 _ _ _).trans rfl
theorem bk_Arr_fill_aJJ_22 : blk 283 22 = some (((cd_Arr_fill_aJJ.lookup 22).getD ([], 0, []))) := rfl
theorem Arr_fill_aJJ_22 (d : Nat) (h : Hp) : EX d 283 22 [] [] h = some (.inl 0, h) := (EX_at bk_Arr_fill_aJJ_22 _ _ _).trans rfl
