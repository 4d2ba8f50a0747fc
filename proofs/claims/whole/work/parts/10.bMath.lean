/-! min(II)I of java/lang/Math: method 20 -/
theorem bk_Math_min_II_0 : blk 20 0 = some (((cd_Math_min_II.lookup 0).getD ([], 0, []))) := rfl
theorem Math_min_II_0 (d : Nat) (x0 : Int) (x1 : Int) (h : Hp) : EX d 20 0 [(0, .inl x0), (1, .inl x1)] [] h = if (wr x1) < (wr x0) then EX d 20 9 [(1, .inl x1)] [] h else EX d 20 5 [(0, .inl x0)] [] h := (EX_at bk_Math_min_II_0 _ _ _).trans rfl
theorem bk_Math_min_II_5 : blk 20 5 = some (((cd_Math_min_II.lookup 5).getD ([], 0, []))) := rfl
theorem Math_min_II_5 (d : Nat) (x0 : Int) (h : Hp) : EX d 20 5 [(0, .inl x0)] [] h = EX d 20 10 [] [.inl x0] h := (EX_at bk_Math_min_II_5 _ _ _).trans rfl
theorem bk_Math_min_II_9 : blk 20 9 = some (((cd_Math_min_II.lookup 9).getD ([], 0, []))) := rfl
theorem Math_min_II_9 (d : Nat) (x1 : Int) (h : Hp) : EX d 20 9 [(1, .inl x1)] [] h = EX d 20 10 [] [.inl x1] h := (EX_at bk_Math_min_II_9 _ _ _).trans rfl
theorem bk_Math_min_II_10 : blk 20 10 = some (((cd_Math_min_II.lookup 10).getD ([], 0, []))) := rfl
theorem Math_min_II_10 (d : Nat) (s0 : Int) (h : Hp) : EX d 20 10 [] [.inl s0] h = some (.inl s0, h) := (EX_at bk_Math_min_II_10 _ _ _).trans rfl
/-! max(II)I of java/lang/Math: method 21 -/
theorem bk_Math_max_II_0 : blk 21 0 = some (((cd_Math_max_II.lookup 0).getD ([], 0, []))) := rfl
theorem Math_max_II_0 (d : Nat) (x0 : Int) (x1 : Int) (h : Hp) : EX d 21 0 [(0, .inl x0), (1, .inl x1)] [] h = if (wr x0) < (wr x1) then EX d 21 9 [(1, .inl x1)] [] h else EX d 21 5 [(0, .inl x0)] [] h := (EX_at bk_Math_max_II_0 _ _ _).trans rfl
theorem bk_Math_max_II_5 : blk 21 5 = some (((cd_Math_max_II.lookup 5).getD ([], 0, []))) := rfl
theorem Math_max_II_5 (d : Nat) (x0 : Int) (h : Hp) : EX d 21 5 [(0, .inl x0)] [] h = EX d 21 10 [] [.inl x0] h := (EX_at bk_Math_max_II_5 _ _ _).trans rfl
theorem bk_Math_max_II_9 : blk 21 9 = some (((cd_Math_max_II.lookup 9).getD ([], 0, []))) := rfl
theorem Math_max_II_9 (d : Nat) (x1 : Int) (h : Hp) : EX d 21 9 [(1, .inl x1)] [] h = EX d 21 10 [] [.inl x1] h := (EX_at bk_Math_max_II_9 _ _ _).trans rfl
theorem bk_Math_max_II_10 : blk 21 10 = some (((cd_Math_max_II.lookup 10).getD ([], 0, []))) := rfl
theorem Math_max_II_10 (d : Nat) (s0 : Int) (h : Hp) : EX d 21 10 [] [.inl s0] h = some (.inl s0, h) := (EX_at bk_Math_max_II_10 _ _ _).trans rfl
/-! min(JJ)J of java/lang/Math: method 58 -/
theorem bk_Math_min_JJ_0 : blk 58 0 = some (((cd_Math_min_JJ.lookup 0).getD ([], 0, []))) := rfl
theorem Math_min_JJ_0 (d : Nat) (y0 : Int) (y2 : Int) (h : Hp) : EX d 58 0 [(0, .inr (.inl y0)), (2, .inr (.inl y2))] [] h = if 0 < (wr (lCmp y0 y2)) then EX d 58 10 [(2, .inr (.inl y2))] [] h else EX d 58 6 [(0, .inr (.inl y0))] [] h := (EX_at bk_Math_min_JJ_0 _ _ _).trans rfl
theorem bk_Math_min_JJ_6 : blk 58 6 = some (((cd_Math_min_JJ.lookup 6).getD ([], 0, []))) := rfl
theorem Math_min_JJ_6 (d : Nat) (y0 : Int) (h : Hp) : EX d 58 6 [(0, .inr (.inl y0))] [] h = EX d 58 11 [] [.inr (.inl y0)] h := (EX_at bk_Math_min_JJ_6 _ _ _).trans rfl
theorem bk_Math_min_JJ_10 : blk 58 10 = some (((cd_Math_min_JJ.lookup 10).getD ([], 0, []))) := rfl
theorem Math_min_JJ_10 (d : Nat) (y2 : Int) (h : Hp) : EX d 58 10 [(2, .inr (.inl y2))] [] h = EX d 58 11 [] [.inr (.inl y2)] h := (EX_at bk_Math_min_JJ_10 _ _ _).trans rfl
theorem bk_Math_min_JJ_11 : blk 58 11 = some (((cd_Math_min_JJ.lookup 11).getD ([], 0, []))) := rfl
theorem Math_min_JJ_11 (d : Nat) (t0 : Int) (h : Hp) : EX d 58 11 [] [.inr (.inl t0)] h = some (.inr (.inl t0), h) := (EX_at bk_Math_min_JJ_11 _ _ _).trans rfl
/-! max(JJ)J of java/lang/Math: method 59 -/
theorem bk_Math_max_JJ_0 : blk 59 0 = some (((cd_Math_max_JJ.lookup 0).getD ([], 0, []))) := rfl
theorem Math_max_JJ_0 (d : Nat) (y0 : Int) (y2 : Int) (h : Hp) : EX d 59 0 [(0, .inr (.inl y0)), (2, .inr (.inl y2))] [] h = if (wr (lCmp y0 y2)) < 0 then EX d 59 10 [(2, .inr (.inl y2))] [] h else EX d 59 6 [(0, .inr (.inl y0))] [] h := (EX_at bk_Math_max_JJ_0 _ _ _).trans rfl
theorem bk_Math_max_JJ_6 : blk 59 6 = some (((cd_Math_max_JJ.lookup 6).getD ([], 0, []))) := rfl
theorem Math_max_JJ_6 (d : Nat) (y0 : Int) (h : Hp) : EX d 59 6 [(0, .inr (.inl y0))] [] h = EX d 59 11 [] [.inr (.inl y0)] h := (EX_at bk_Math_max_JJ_6 _ _ _).trans rfl
theorem bk_Math_max_JJ_10 : blk 59 10 = some (((cd_Math_max_JJ.lookup 10).getD ([], 0, []))) := rfl
theorem Math_max_JJ_10 (d : Nat) (y2 : Int) (h : Hp) : EX d 59 10 [(2, .inr (.inl y2))] [] h = EX d 59 11 [] [.inr (.inl y2)] h := (EX_at bk_Math_max_JJ_10 _ _ _).trans rfl
theorem bk_Math_max_JJ_11 : blk 59 11 = some (((cd_Math_max_JJ.lookup 11).getD ([], 0, []))) := rfl
theorem Math_max_JJ_11 (d : Nat) (t0 : Int) (h : Hp) : EX d 59 11 [] [.inr (.inl t0)] h = some (.inr (.inl t0), h) := (EX_at bk_Math_max_JJ_11 _ _ _).trans rfl
/-! abs(I)I of java/lang/Math: method 132 -/
theorem bk_Math_abs_0 : blk 132 0 = some (((cd_Math_abs.lookup 0).getD ([], 0, []))) := rfl
theorem Math_abs_0 (d : Nat) (x0 : Int) (h : Hp) : EX d 132 0 [(0, .inl x0)] [] h = if (wr x0) < 0 then EX d 132 4 [(0, .inl x0)] [] h else EX d 132 9 [(0, .inl x0)] [] h := (EX_at bk_Math_abs_0 _ _ _).trans rfl
theorem bk_Math_abs_4 : blk 132 4 = some (((cd_Math_abs.lookup 4).getD ([], 0, []))) := rfl
theorem Math_abs_4 (d : Nat) (x0 : Int) (h : Hp) : EX d 132 4 [(0, .inl x0)] [] h = EX d 132 10 [] [.inl (-x0)] h := (EX_at bk_Math_abs_4 _ _ _).trans rfl
theorem bk_Math_abs_9 : blk 132 9 = some (((cd_Math_abs.lookup 9).getD ([], 0, []))) := rfl
theorem Math_abs_9 (d : Nat) (x0 : Int) (h : Hp) : EX d 132 9 [(0, .inl x0)] [] h = EX d 132 10 [] [.inl x0] h := (EX_at bk_Math_abs_9 _ _ _).trans rfl
theorem bk_Math_abs_10 : blk 132 10 = some (((cd_Math_abs.lookup 10).getD ([], 0, []))) := rfl
theorem Math_abs_10 (d : Nat) (s0 : Int) (h : Hp) : EX d 132 10 [] [.inl s0] h = some (.inl s0, h) := (EX_at bk_Math_abs_10 _ _ _).trans rfl
/-! floorMod(II)I of java/lang/Math: method 150 -/
theorem bk_Math_floorMod_0 : blk 150 0 = some (((cd_Math_floorMod.lookup 0).getD ([], 0, []))) := rfl
theorem Math_floorMod_0 (d : Nat) (x0 : Int) (x1 : Int) (h : Hp) : EX d 150 0 [(0, .inl x0), (1, .inl x1)] [] h = if (wr x1) = 0 then none else if (wr (bXor x0 x1)) < 0 then EX d 150 10 [(1, .inl x1), (2, .inl (bRem x0 x1))] [] h else EX d 150 18 [(2, .inl (bRem x0 x1))] [] h := (EX_at bk_Math_floorMod_0 _ _ _).trans rfl
theorem bk_Math_floorMod_10 : blk 150 10 = some (((cd_Math_floorMod.lookup 10).getD ([], 0, []))) := rfl
theorem Math_floorMod_10 (d : Nat) (x1 : Int) (x2 : Int) (h : Hp) : EX d 150 10 [(1, .inl x1), (2, .inl x2)] [] h = if (wr x2) = 0 then EX d 150 18 [(2, .inl x2)] [] h else EX d 150 14 [(1, .inl x1), (2, .inl x2)] [] h := (EX_at bk_Math_floorMod_10 _ _ _).trans rfl
theorem bk_Math_floorMod_14 : blk 150 14 = some (((cd_Math_floorMod.lookup 14).getD ([], 0, []))) := rfl
theorem Math_floorMod_14 (d : Nat) (x1 : Int) (x2 : Int) (h : Hp) : EX d 150 14 [(1, .inl x1), (2, .inl x2)] [] h = some (.inl (x2 + x1), h) := (EX_at bk_Math_floorMod_14 _ _ _).trans rfl
theorem bk_Math_floorMod_18 : blk 150 18 = some (((cd_Math_floorMod.lookup 18).getD ([], 0, []))) := rfl
theorem Math_floorMod_18 (d : Nat) (x2 : Int) (h : Hp) : EX d 150 18 [(2, .inl x2)] [] h = some (.inl x2, h) := (EX_at bk_Math_floorMod_18 _ _ _).trans rfl
