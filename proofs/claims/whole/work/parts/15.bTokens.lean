/-! <init>()V of HookOver$Tokens: method 0 -/
theorem bk_Tokens_init_0 : blk 0 0 = some (((cd_Tokens_init.lookup 0).getD ([], 0, []))) := rfl
theorem Tokens_init_0 (d : Nat) (a0 : Nat) (h : Hp) : EX d 0 0 [(0, .inr (.inr a0))] [] h = if (0 < a0 ∧ 0 ≤ 8) then EX d 0 8 [(0, .inr (.inr a0))] [.inr (.inr ((Prod.fst h).length)), .inr (.inr a0)] (nwH h 22 0) else none := (EX_at bk_Tokens_init_0 _ _ _).trans rfl
theorem bk_Tokens_init_8 : blk 0 8 = some (((cd_Tokens_init.lookup 8).getD ([], 0, []))) := rfl
theorem Tokens_init_8 (d : Nat) (a0 : Nat) (r0 : Nat) (r1 : Nat) (h : Hp) : EX d 0 8 [(0, .inr (.inr a0))] [.inr (.inr r1), .inr (.inr r0)] h = if sK h r0 = 6 then EX d 0 11 [(0, .inr (.inr a0))] [] (pR h r0 0 r1) else none := (EX_at bk_Tokens_init_8 _ _ _).trans rfl
theorem bk_Tokens_init_11 : blk 0 11 = some (((cd_Tokens_init.lookup 11).getD ([], 0, []))) := rfl
theorem Tokens_init_11 (d : Nat) (a0 : Nat) (h : Hp) : EX d 0 11 [(0, .inr (.inr a0))] [] h = if sK h a0 = 6 then EX d 0 16 [(0, .inr (.inr a0))] [] (pI h a0 1 0) else none := (EX_at bk_Tokens_init_11 _ _ _).trans rfl
theorem bk_Tokens_init_16 : blk 0 16 = some (((cd_Tokens_init.lookup 16).getD ([], 0, []))) := rfl
theorem Tokens_init_16 (d : Nat) (a0 : Nat) (h : Hp) : EX d 0 16 [(0, .inr (.inr a0))] [] h = if sK h a0 = 6 then EX d 0 21 [(0, .inr (.inr a0))] [] (pI h a0 2 0) else none := (EX_at bk_Tokens_init_16 _ _ _).trans rfl
theorem bk_Tokens_init_21 : blk 0 21 = some (((cd_Tokens_init.lookup 21).getD ([], 0, []))) := rfl
theorem Tokens_init_21 (d : Nat) (a0 : Nat) (h : Hp) : EX d 0 21 [(0, .inr (.inr a0))] [] h = if sK h a0 = 6 then EX d 0 26 [(0, .inr (.inr a0))] [] (pI h a0 3 0) else none := (EX_at bk_Tokens_init_21 _ _ _).trans rfl
theorem bk_Tokens_init_26 : blk 0 26 = some (((cd_Tokens_init.lookup 26).getD ([], 0, []))) := rfl
theorem Tokens_init_26 (d : Nat) (a0 : Nat) (h : Hp) : EX d 0 26 [(0, .inr (.inr a0))] [] h = if sK h a0 = 6 then EX d 0 31 [(0, .inr (.inr a0))] [] (pI h a0 4 0) else none := (EX_at bk_Tokens_init_26 _ _ _).trans rfl
theorem bk_Tokens_init_31 : blk 0 31 = some (((cd_Tokens_init.lookup 31).getD ([], 0, []))) := rfl
theorem Tokens_init_31 (d : Nat) (a0 : Nat) (h : Hp) : EX d 0 31 [(0, .inr (.inr a0))] [] h = if sK h a0 = 6 then EX d 0 36 [(0, .inr (.inr a0))] [] (pI h a0 5 0) else none := (EX_at bk_Tokens_init_31 _ _ _).trans rfl
theorem bk_Tokens_init_36 : blk 0 36 = some (((cd_Tokens_init.lookup 36).getD ([], 0, []))) := rfl
theorem Tokens_init_36 (d : Nat) (a0 : Nat) (h : Hp) : EX d 0 36 [(0, .inr (.inr a0))] [] h = if sK h a0 = 6 then EX d 0 41 [(0, .inr (.inr a0))] [] (pI h a0 6 0) else none := (EX_at bk_Tokens_init_36 _ _ _).trans rfl
theorem bk_Tokens_init_41 : blk 0 41 = some (((cd_Tokens_init.lookup 41).getD ([], 0, []))) := rfl
theorem Tokens_init_41 (d : Nat) (a0 : Nat) (h : Hp) : EX d 0 41 [(0, .inr (.inr a0))] [] h = if sK h a0 = 6 then EX d 0 46 [] [] (pI h a0 7 (-1)) else none := (EX_at bk_Tokens_init_41 _ _ _).trans rfl
theorem bk_Tokens_init_46 : blk 0 46 = some (((cd_Tokens_init.lookup 46).getD ([], 0, []))) := rfl
theorem Tokens_init_46 (d : Nat) (h : Hp) : EX d 0 46 [] [] h = some (.inl 0, h) := (EX_at bk_Tokens_init_46 _ _ _).trans rfl
/-! kindOf(B)I of HookOver$Tokens: method 22 -/
theorem bk_Tokens_kindOf_0 : blk 22 0 = some (((cd_Tokens_kindOf.lookup 0).getD ([], 0, []))) := rfl
theorem Tokens_kindOf_0 (d : Nat) (x0 : Int) (h : Hp) : EX d 22 0 [(0, .inl x0)] [] h = if (wr x0) < 48 then EX d 22 14 [(0, .inl x0)] [] h else EX d 22 6 [(0, .inl x0)] [] h := (EX_at bk_Tokens_kindOf_0 _ _ _).trans rfl
theorem bk_Tokens_kindOf_6 : blk 22 6 = some (((cd_Tokens_kindOf.lookup 6).getD ([], 0, []))) := rfl
theorem Tokens_kindOf_6 (d : Nat) (x0 : Int) (h : Hp) : EX d 22 6 [(0, .inl x0)] [] h = if 57 < (wr x0) then EX d 22 14 [(0, .inl x0)] [] h else EX d 22 12 [] [] h := (EX_at bk_Tokens_kindOf_6 _ _ _).trans rfl
theorem bk_Tokens_kindOf_12 : blk 22 12 = some (((cd_Tokens_kindOf.lookup 12).getD ([], 0, []))) := rfl
theorem Tokens_kindOf_12 (d : Nat) (h : Hp) : EX d 22 12 [] [] h = some (.inl 2, h) := (EX_at bk_Tokens_kindOf_12 _ _ _).trans rfl
theorem bk_Tokens_kindOf_14 : blk 22 14 = some (((cd_Tokens_kindOf.lookup 14).getD ([], 0, []))) := rfl
theorem Tokens_kindOf_14 (d : Nat) (x0 : Int) (h : Hp) : EX d 22 14 [(0, .inl x0)] [] h = if (wr x0) < 97 then EX d 22 28 [(0, .inl x0)] [] h else EX d 22 20 [(0, .inl x0)] [] h := (EX_at bk_Tokens_kindOf_14 _ _ _).trans rfl
theorem bk_Tokens_kindOf_20 : blk 22 20 = some (((cd_Tokens_kindOf.lookup 20).getD ([], 0, []))) := rfl
theorem Tokens_kindOf_20 (d : Nat) (x0 : Int) (h : Hp) : EX d 22 20 [(0, .inl x0)] [] h = if 122 < (wr x0) then EX d 22 28 [(0, .inl x0)] [] h else EX d 22 26 [] [] h := (EX_at bk_Tokens_kindOf_20 _ _ _).trans rfl
theorem bk_Tokens_kindOf_26 : blk 22 26 = some (((cd_Tokens_kindOf.lookup 26).getD ([], 0, []))) := rfl
theorem Tokens_kindOf_26 (d : Nat) (h : Hp) : EX d 22 26 [] [] h = some (.inl 3, h) := (EX_at bk_Tokens_kindOf_26 _ _ _).trans rfl
theorem bk_Tokens_kindOf_28 : blk 22 28 = some (((cd_Tokens_kindOf.lookup 28).getD ([], 0, []))) := rfl
theorem Tokens_kindOf_28 (d : Nat) (x0 : Int) (h : Hp) : EX d 22 28 [(0, .inl x0)] [] h = if 0 < (wr x0) then EX d 22 32 [(0, .inl x0)] [] h else EX d 22 46 [] [] h := (EX_at bk_Tokens_kindOf_28 _ _ _).trans rfl
theorem bk_Tokens_kindOf_32 : blk 22 32 = some (((cd_Tokens_kindOf.lookup 32).getD ([], 0, []))) := rfl
set_option maxRecDepth 100000 in
theorem Tokens_kindOf_32 (d : Nat) (x0 : Int) (h : Hp) : EX d 22 32 [(0, .inl x0)] [] h = if (sK h 3 = 40 ∧ catS [] ≤ 8 ∧ (0 : Int) ≤ (wr (bI2c x0)) ∧ (wr (bI2c x0)) < (256 : Int)) then if (wr (sIx h 3 (wr (bI2c x0)))) < 0 then EX d 22 46 [] [] h else EX d 22 42 [(0, .inl x0)] [] h else none := (EX_at bk_Tokens_kindOf_32 _ _ _).trans rfl
theorem bk_Tokens_kindOf_42 : blk 22 42 = some (((cd_Tokens_kindOf.lookup 42).getD ([], 0, []))) := rfl
theorem Tokens_kindOf_42 (d : Nat) (x0 : Int) (h : Hp) : EX d 22 42 [(0, .inl x0)] [] h = EX d 22 47 [] [.inl x0] h := (EX_at bk_Tokens_kindOf_42 _ _ _).trans rfl
theorem bk_Tokens_kindOf_46 : blk 22 46 = some (((cd_Tokens_kindOf.lookup 46).getD ([], 0, []))) := rfl
theorem Tokens_kindOf_46 (d : Nat) (h : Hp) : EX d 22 46 [] [] h = EX d 22 47 [] [.inl 1] h := (EX_at bk_Tokens_kindOf_46 _ _ _).trans rfl
theorem bk_Tokens_kindOf_47 : blk 22 47 = some (((cd_Tokens_kindOf.lookup 47).getD ([], 0, []))) := rfl
theorem Tokens_kindOf_47 (d : Nat) (s0 : Int) (h : Hp) : EX d 22 47 [] [.inl s0] h = some (.inl s0, h) := (EX_at bk_Tokens_kindOf_47 _ _ _).trans rfl
/-! readNumber()V of HookOver$Tokens: method 23 -/
theorem bk_Tokens_readNumber_0 : blk 23 0 = some (((cd_Tokens_readNumber.lookup 0).getD ([], 0, []))) := rfl
theorem Tokens_readNumber_0 (d : Nat) (a0 : Nat) (h : Hp) : EX d 23 0 [(0, .inr (.inr a0))] [] h = if sK h a0 = 6 then EX d 23 5 [(0, .inr (.inr a0))] [] (pI h a0 4 0) else none := (EX_at bk_Tokens_readNumber_0 _ _ _).trans rfl
theorem bk_Tokens_readNumber_5 : blk 23 5 = some (((cd_Tokens_readNumber.lookup 5).getD ([], 0, []))) := rfl
theorem Tokens_readNumber_5 (d : Nat) (a0 : Nat) (h : Hp) : EX d 23 5 [(0, .inr (.inr a0))] [] h = if sK h a0 = 6 then if sK h a0 = 6 then if 3 < (wr ((hI h a0 2) - (hI h a0 5))) then EX d 23 18 [(0, .inr (.inr a0))] [] h else EX d 23 24 [(0, .inr (.inr a0))] [] h else none else none := (EX_at bk_Tokens_readNumber_5 _ _ _).trans rfl
theorem bk_Tokens_readNumber_18 : blk 23 18 = some (((cd_Tokens_readNumber.lookup 18).getD ([], 0, []))) := rfl
theorem Tokens_readNumber_18 (d : Nat) (a0 : Nat) (h : Hp) : EX d 23 18 [(0, .inr (.inr a0))] [] h = if sK h a0 = 6 then EX d 23 23 [] [] (pI h a0 3 1) else none := (EX_at bk_Tokens_readNumber_18 _ _ _).trans rfl
theorem bk_Tokens_readNumber_23 : blk 23 23 = some (((cd_Tokens_readNumber.lookup 23).getD ([], 0, []))) := rfl
theorem Tokens_readNumber_23 (d : Nat) (h : Hp) : EX d 23 23 [] [] h = some (.inl 0, h) := (EX_at bk_Tokens_readNumber_23 _ _ _).trans rfl
theorem bk_Tokens_readNumber_24 : blk 23 24 = some (((cd_Tokens_readNumber.lookup 24).getD ([], 0, []))) := rfl
theorem Tokens_readNumber_24 (d : Nat) (a0 : Nat) (h : Hp) : EX d 23 24 [(0, .inr (.inr a0))] [] h = if sK h a0 = 6 then EX d 23 29 [(0, .inr (.inr a0)), (1, .inl (hI h a0 5))] [] h else none := (EX_at bk_Tokens_readNumber_24 _ _ _).trans rfl
theorem bk_Tokens_readNumber_29 : blk 23 29 = some (((cd_Tokens_readNumber.lookup 29).getD ([], 0, []))) := rfl
theorem Tokens_readNumber_29 (d : Nat) (a0 : Nat) (x1 : Int) (h : Hp) : EX d 23 29 [(0, .inr (.inr a0)), (1, .inl x1)] [] h = if sK h a0 = 6 then if (wr x1) < (wr (hI h a0 2)) then EX d 23 37 [(0, .inr (.inr a0)), (1, .inl x1)] [] h else EX d 23 64 [] [] h else none := (EX_at bk_Tokens_readNumber_29 _ _ _).trans rfl
theorem bk_Tokens_readNumber_37 : blk 23 37 = some (((cd_Tokens_readNumber.lookup 37).getD ([], 0, []))) := rfl
theorem Tokens_readNumber_37 (d : Nat) (a0 : Nat) (x1 : Int) (h : Hp) : EX d 23 37 [(0, .inr (.inr a0)), (1, .inl x1)] [] h = if sK h a0 = 6 then if sK h a0 = 6 then if okx h (hR h a0 0) 22 x1 then if sK h a0 = 6 then EX d 23 58 [(0, .inr (.inr a0)), (1, .inl x1)] [] (pI h a0 4 ((((hI h a0 4) * 10) + (hI h (hR h a0 0) (ix x1))) - 48)) else none else none else none else none := (EX_at bk_Tokens_readNumber_37 _ _ _).trans rfl
theorem bk_Tokens_readNumber_58 : blk 23 58 = some (((cd_Tokens_readNumber.lookup 58).getD ([], 0, []))) := rfl
theorem Tokens_readNumber_58 (d : Nat) (a0 : Nat) (x1 : Int) (h : Hp) : EX d 23 58 [(0, .inr (.inr a0)), (1, .inl x1)] [] h = EX d 23 29 [(0, .inr (.inr a0)), (1, .inl (x1 + 1))] [] h := (EX_at bk_Tokens_readNumber_58 _ _ _).trans rfl
theorem bk_Tokens_readNumber_64 : blk 23 64 = some (((cd_Tokens_readNumber.lookup 64).getD ([], 0, []))) := rfl
theorem Tokens_readNumber_64 (d : Nat) (h : Hp) : EX d 23 64 [] [] h = some (.inl 0, h) := (EX_at bk_Tokens_readNumber_64 _ _ _).trans rfl
/-! findWord()V of HookOver$Tokens: method 24 -/
theorem bk_Tokens_findWord_0 : blk 24 0 = some (((cd_Tokens_findWord.lookup 0).getD ([], 0, []))) := rfl
theorem Tokens_findWord_0 (d : Nat) (a0 : Nat) (h : Hp) : EX d 24 0 [(0, .inr (.inr a0))] [] h = if sK h a0 = 6 then EX d 24 14 [(0, .inr (.inr a0)), (1, .inl 128), (2, .inl (hI h a0 5)), (3, .inl 1), (4, .inl 0)] [] h else none := (EX_at bk_Tokens_findWord_0 _ _ _).trans rfl
theorem bk_Tokens_findWord_14 : blk 24 14 = some (((cd_Tokens_findWord.lookup 14).getD ([], 0, []))) := rfl
theorem Tokens_findWord_14 (d : Nat) (a0 : Nat) (x1 : Int) (x2 : Int) (x3 : Int) (x4 : Int) (h : Hp) : EX d 24 14 [(0, .inr (.inr a0)), (1, .inl x1), (2, .inl x2), (3, .inl x3), (4, .inl x4)] [] h = if (sK h 2 = 40 ∧ catS [.inl x4] ≤ 8) then if (wr x4) < (wr (sL h 2)) then EX d 24 24 [(0, .inr (.inr a0)), (1, .inl x1), (2, .inl x2), (3, .inl x3), (4, .inl x4)] [] h else EX d 24 119 [] [] h else none := (EX_at bk_Tokens_findWord_14 _ _ _).trans rfl
theorem bk_Tokens_findWord_24 : blk 24 24 = some (((cd_Tokens_findWord.lookup 24).getD ([], 0, []))) := rfl
theorem Tokens_findWord_24 (d : Nat) (a0 : Nat) (x1 : Int) (x2 : Int) (x3 : Int) (x4 : Int) (h : Hp) : EX d 24 24 [(0, .inr (.inr a0)), (1, .inl x1), (2, .inl x2), (3, .inl x3), (4, .inl x4)] [] h = if sK h a0 = 6 then if (wr (hI h a0 3)) = 3 then EX d 24 32 [(0, .inr (.inr a0)), (1, .inl x1), (2, .inl x2), (3, .inl x3), (4, .inl x4)] [] h else EX d 24 119 [] [] h else none := (EX_at bk_Tokens_findWord_24 _ _ _).trans rfl
theorem bk_Tokens_findWord_32 : blk 24 32 = some (((cd_Tokens_findWord.lookup 32).getD ([], 0, []))) := rfl
theorem Tokens_findWord_32 (d : Nat) (a0 : Nat) (x1 : Int) (x2 : Int) (x3 : Int) (x4 : Int) (h : Hp) : EX d 24 32 [(0, .inr (.inr a0)), (1, .inl x1), (2, .inl x2), (3, .inl x3), (4, .inl x4)] [] h = if (okx h 2 40 x4 ∧ catS [] ≤ 8) then if (wr (hI h 2 (ix x4))) = 32 then EX d 24 83 [(0, .inr (.inr a0)), (1, .inl x1), (2, .inl x2), (3, .inl x3), (4, .inl x4)] [] h else EX d 24 48 [(0, .inr (.inr a0)), (1, .inl x1), (2, .inl x2), (3, .inl x3), (4, .inl x4), (5, .inl (hI h 2 (ix x4)))] [] h else none := (EX_at bk_Tokens_findWord_32 _ _ _).trans rfl
theorem bk_Tokens_findWord_48 : blk 24 48 = some (((cd_Tokens_findWord.lookup 48).getD ([], 0, []))) := rfl
theorem Tokens_findWord_48 (d : Nat) (a0 : Nat) (x1 : Int) (x2 : Int) (x3 : Int) (x4 : Int) (x5 : Int) (h : Hp) : EX d 24 48 [(0, .inr (.inr a0)), (1, .inl x1), (2, .inl x2), (3, .inl x3), (4, .inl x4), (5, .inl x5)] [] h = if (wr x3) = 0 then EX d 24 75 [(0, .inr (.inr a0)), (1, .inl x1), (2, .inl x2), (4, .inl x4)] [] h else EX d 24 52 [(0, .inr (.inr a0)), (1, .inl x1), (2, .inl x2), (4, .inl x4), (5, .inl x5)] [] h := (EX_at bk_Tokens_findWord_48 _ _ _).trans rfl
theorem bk_Tokens_findWord_52 : blk 24 52 = some (((cd_Tokens_findWord.lookup 52).getD ([], 0, []))) := rfl
theorem Tokens_findWord_52 (d : Nat) (a0 : Nat) (x1 : Int) (x2 : Int) (x4 : Int) (x5 : Int) (h : Hp) : EX d 24 52 [(0, .inr (.inr a0)), (1, .inl x1), (2, .inl x2), (4, .inl x4), (5, .inl x5)] [] h = if sK h a0 = 6 then if (wr x2) < (wr (hI h a0 2)) then EX d 24 60 [(0, .inr (.inr a0)), (1, .inl x1), (2, .inl x2), (4, .inl x4), (5, .inl x5)] [] h else EX d 24 75 [(0, .inr (.inr a0)), (1, .inl x1), (2, .inl x2), (4, .inl x4)] [] h else none := (EX_at bk_Tokens_findWord_52 _ _ _).trans rfl
theorem bk_Tokens_findWord_60 : blk 24 60 = some (((cd_Tokens_findWord.lookup 60).getD ([], 0, []))) := rfl
theorem Tokens_findWord_60 (d : Nat) (a0 : Nat) (x1 : Int) (x2 : Int) (x4 : Int) (x5 : Int) (h : Hp) : EX d 24 60 [(0, .inr (.inr a0)), (1, .inl x1), (2, .inl x2), (4, .inl x4), (5, .inl x5)] [] h = if sK h a0 = 6 then if okx h (hR h a0 0) 22 x2 then if (wr (hI h (hR h a0 0) (ix x2))) = (wr x5) then EX d 24 71 [(0, .inr (.inr a0)), (1, .inl x1), (2, .inl x2), (4, .inl x4)] [] h else EX d 24 75 [(0, .inr (.inr a0)), (1, .inl x1), (2, .inl x2), (4, .inl x4)] [] h else none else none := (EX_at bk_Tokens_findWord_60 _ _ _).trans rfl
theorem bk_Tokens_findWord_71 : blk 24 71 = some (((cd_Tokens_findWord.lookup 71).getD ([], 0, []))) := rfl
theorem Tokens_findWord_71 (d : Nat) (a0 : Nat) (x1 : Int) (x2 : Int) (x4 : Int) (h : Hp) : EX d 24 71 [(0, .inr (.inr a0)), (1, .inl x1), (2, .inl x2), (4, .inl x4)] [] h = EX d 24 76 [(0, .inr (.inr a0)), (1, .inl x1), (2, .inl x2), (4, .inl x4)] [.inl 1] h := (EX_at bk_Tokens_findWord_71 _ _ _).trans rfl
theorem bk_Tokens_findWord_75 : blk 24 75 = some (((cd_Tokens_findWord.lookup 75).getD ([], 0, []))) := rfl
theorem Tokens_findWord_75 (d : Nat) (a0 : Nat) (x1 : Int) (x2 : Int) (x4 : Int) (h : Hp) : EX d 24 75 [(0, .inr (.inr a0)), (1, .inl x1), (2, .inl x2), (4, .inl x4)] [] h = EX d 24 76 [(0, .inr (.inr a0)), (1, .inl x1), (2, .inl x2), (4, .inl x4)] [.inl 0] h := (EX_at bk_Tokens_findWord_75 _ _ _).trans rfl
theorem bk_Tokens_findWord_76 : blk 24 76 = some (((cd_Tokens_findWord.lookup 76).getD ([], 0, []))) := rfl
theorem Tokens_findWord_76 (d : Nat) (a0 : Nat) (x1 : Int) (x2 : Int) (x4 : Int) (s0 : Int) (h : Hp) : EX d 24 76 [(0, .inr (.inr a0)), (1, .inl x1), (2, .inl x2), (4, .inl x4)] [.inl s0] h = EX d 24 113 [(0, .inr (.inr a0)), (1, .inl x1), (2, .inl (x2 + 1)), (3, .inl s0), (4, .inl x4)] [] h := (EX_at bk_Tokens_findWord_76 _ _ _).trans rfl
theorem bk_Tokens_findWord_83 : blk 24 83 = some (((cd_Tokens_findWord.lookup 83).getD ([], 0, []))) := rfl
theorem Tokens_findWord_83 (d : Nat) (a0 : Nat) (x1 : Int) (x2 : Int) (x3 : Int) (x4 : Int) (h : Hp) : EX d 24 83 [(0, .inr (.inr a0)), (1, .inl x1), (2, .inl x2), (3, .inl x3), (4, .inl x4)] [] h = if (wr x3) = 0 then EX d 24 103 [(0, .inr (.inr a0)), (1, .inl x1), (4, .inl x4)] [] h else EX d 24 87 [(0, .inr (.inr a0)), (1, .inl x1), (2, .inl x2), (3, .inl x3), (4, .inl x4)] [] h := (EX_at bk_Tokens_findWord_83 _ _ _).trans rfl
theorem bk_Tokens_findWord_87 : blk 24 87 = some (((cd_Tokens_findWord.lookup 87).getD ([], 0, []))) := rfl
theorem Tokens_findWord_87 (d : Nat) (a0 : Nat) (x1 : Int) (x2 : Int) (x3 : Int) (x4 : Int) (h : Hp) : EX d 24 87 [(0, .inr (.inr a0)), (1, .inl x1), (2, .inl x2), (3, .inl x3), (4, .inl x4)] [] h = if sK h a0 = 6 then if (wr x2) = (wr (hI h a0 2)) then EX d 24 95 [(0, .inr (.inr a0)), (1, .inl x1), (2, .inl x2), (3, .inl x3), (4, .inl x4)] [] h else EX d 24 103 [(0, .inr (.inr a0)), (1, .inl x1), (4, .inl x4)] [] h else none := (EX_at bk_Tokens_findWord_87 _ _ _).trans rfl
theorem bk_Tokens_findWord_95 : blk 24 95 = some (((cd_Tokens_findWord.lookup 95).getD ([], 0, []))) := rfl
theorem Tokens_findWord_95 (d : Nat) (a0 : Nat) (x1 : Int) (x2 : Int) (x3 : Int) (x4 : Int) (h : Hp) : EX d 24 95 [(0, .inr (.inr a0)), (1, .inl x1), (2, .inl x2), (3, .inl x3), (4, .inl x4)] [] h = if sK h a0 = 6 then EX d 24 100 [(0, .inr (.inr a0)), (1, .inl x1), (2, .inl x2), (3, .inl x3), (4, .inl x4)] [] (pI h a0 3 x1) else none := (EX_at bk_Tokens_findWord_95 _ _ _).trans rfl
theorem bk_Tokens_findWord_100 : blk 24 100 = some (((cd_Tokens_findWord.lookup 100).getD ([], 0, []))) := rfl
theorem Tokens_findWord_100 (d : Nat) (a0 : Nat) (x1 : Int) (x2 : Int) (x3 : Int) (x4 : Int) (h : Hp) : EX d 24 100 [(0, .inr (.inr a0)), (1, .inl x1), (2, .inl x2), (3, .inl x3), (4, .inl x4)] [] h = EX d 24 113 [(0, .inr (.inr a0)), (1, .inl x1), (2, .inl x2), (3, .inl x3), (4, .inl x4)] [] h := (EX_at bk_Tokens_findWord_100 _ _ _).trans rfl
theorem bk_Tokens_findWord_103 : blk 24 103 = some (((cd_Tokens_findWord.lookup 103).getD ([], 0, []))) := rfl
theorem Tokens_findWord_103 (d : Nat) (a0 : Nat) (x1 : Int) (x4 : Int) (h : Hp) : EX d 24 103 [(0, .inr (.inr a0)), (1, .inl x1), (4, .inl x4)] [] h = if sK h a0 = 6 then EX d 24 113 [(0, .inr (.inr a0)), (1, .inl (x1 + 1)), (2, .inl (hI h a0 5)), (3, .inl 1), (4, .inl x4)] [] h else none := (EX_at bk_Tokens_findWord_103 _ _ _).trans rfl
theorem bk_Tokens_findWord_113 : blk 24 113 = some (((cd_Tokens_findWord.lookup 113).getD ([], 0, []))) := rfl
theorem Tokens_findWord_113 (d : Nat) (a0 : Nat) (x1 : Int) (x2 : Int) (x3 : Int) (x4 : Int) (h : Hp) : EX d 24 113 [(0, .inr (.inr a0)), (1, .inl x1), (2, .inl x2), (3, .inl x3), (4, .inl x4)] [] h = EX d 24 14 [(0, .inr (.inr a0)), (1, .inl x1), (2, .inl x2), (3, .inl x3), (4, .inl (x4 + 1))] [] h := (EX_at bk_Tokens_findWord_113 _ _ _).trans rfl
theorem bk_Tokens_findWord_119 : blk 24 119 = some (((cd_Tokens_findWord.lookup 119).getD ([], 0, []))) := rfl
theorem Tokens_findWord_119 (d : Nat) (h : Hp) : EX d 24 119 [] [] h = some (.inl 0, h) := (EX_at bk_Tokens_findWord_119 _ _ _).trans rfl
/-! step()V of HookOver$Tokens: method 25 -/
theorem bk_Tokens_step_0 : blk 25 0 = some (((cd_Tokens_step.lookup 0).getD ([], 0, []))) := rfl
theorem Tokens_step_0 (d : Nat) (a0 : Nat) (h : Hp) : EX d 25 0 [(0, .inr (.inr a0))] [] h = if sK h a0 = 6 then if sK h a0 = 6 then if (wr (hI h a0 2)) < (wr (hI h a0 1)) then EX d 25 11 [(0, .inr (.inr a0))] [] h else EX d 25 52 [(0, .inr (.inr a0))] [] h else none else none := (EX_at bk_Tokens_step_0 _ _ _).trans rfl
theorem bk_Tokens_step_11 : blk 25 11 = some (((cd_Tokens_step.lookup 11).getD ([], 0, []))) := rfl
theorem Tokens_step_11 (d : Nat) (a0 : Nat) (h : Hp) : EX d 25 11 [(0, .inr (.inr a0))] [] h = if sK h a0 = 6 then if sK h a0 = 6 then if okx h (hR h a0 0) 22 (hI h a0 2) then if (wr (hI h (hR h a0 0) (ix (hI h a0 2)))) = 32 then EX d 25 39 [(0, .inr (.inr a0))] [] h else EX d 25 25 [(0, .inr (.inr a0))] [] h else none else none else none := (EX_at bk_Tokens_step_11 _ _ _).trans rfl
theorem bk_Tokens_step_25 : blk 25 25 = some (((cd_Tokens_step.lookup 25).getD ([], 0, []))) := rfl
theorem Tokens_step_25 (d : Nat) (a0 : Nat) (h : Hp) : EX d 25 25 [(0, .inr (.inr a0))] [] h = if sK h a0 = 6 then if sK h a0 = 6 then if okx h (hR h a0 0) 22 (hI h a0 2) then if (wr (hI h (hR h a0 0) (ix (hI h a0 2)))) = 10 then EX d 25 39 [(0, .inr (.inr a0))] [] h else EX d 25 52 [(0, .inr (.inr a0))] [] h else none else none else none := (EX_at bk_Tokens_step_25 _ _ _).trans rfl
theorem bk_Tokens_step_39 : blk 25 39 = some (((cd_Tokens_step.lookup 39).getD ([], 0, []))) := rfl
theorem Tokens_step_39 (d : Nat) (a0 : Nat) (h : Hp) : EX d 25 39 [(0, .inr (.inr a0))] [] h = if sK h a0 = 6 then if sK h a0 = 6 then EX d 25 49 [(0, .inr (.inr a0))] [] (pI h a0 2 ((hI h a0 2) + 1)) else none else none := (EX_at bk_Tokens_step_39 _ _ _).trans rfl
theorem bk_Tokens_step_49 : blk 25 49 = some (((cd_Tokens_step.lookup 49).getD ([], 0, []))) := rfl
theorem Tokens_step_49 (d : Nat) (a0 : Nat) (h : Hp) : EX d 25 49 [(0, .inr (.inr a0))] [] h = EX d 25 0 [(0, .inr (.inr a0))] [] h := (EX_at bk_Tokens_step_49 _ _ _).trans rfl
theorem bk_Tokens_step_52 : blk 25 52 = some (((cd_Tokens_step.lookup 52).getD ([], 0, []))) := rfl
theorem Tokens_step_52 (d : Nat) (a0 : Nat) (h : Hp) : EX d 25 52 [(0, .inr (.inr a0))] [] h = if sK h a0 = 6 then if sK h a0 = 6 then EX d 25 60 [(0, .inr (.inr a0))] [] (pI h a0 5 (hI h a0 2)) else none else none := (EX_at bk_Tokens_step_52 _ _ _).trans rfl
theorem bk_Tokens_step_60 : blk 25 60 = some (((cd_Tokens_step.lookup 60).getD ([], 0, []))) := rfl
theorem Tokens_step_60 (d : Nat) (a0 : Nat) (h : Hp) : EX d 25 60 [(0, .inr (.inr a0))] [] h = if sK h a0 = 6 then EX d 25 65 [(0, .inr (.inr a0))] [] (pI h a0 3 0) else none := (EX_at bk_Tokens_step_60 _ _ _).trans rfl
theorem bk_Tokens_step_65 : blk 25 65 = some (((cd_Tokens_step.lookup 65).getD ([], 0, []))) := rfl
theorem Tokens_step_65 (d : Nat) (a0 : Nat) (h : Hp) : EX d 25 65 [(0, .inr (.inr a0))] [] h = if sK h a0 = 6 then if sK h a0 = 6 then if (wr (hI h a0 2)) < (wr (hI h a0 1)) then EX d 25 76 [(0, .inr (.inr a0))] [] h else EX d 25 102 [(0, .inr (.inr a0))] [] h else none else none := (EX_at bk_Tokens_step_65 _ _ _).trans rfl
theorem bk_Tokens_step_76 : blk 25 76 = some (((cd_Tokens_step.lookup 76).getD ([], 0, []))) := rfl
theorem Tokens_step_76 (d : Nat) (a0 : Nat) (h : Hp) : EX d 25 76 [(0, .inr (.inr a0))] [] h = if sK h a0 = 6 then if sK h a0 = 6 then if okx h (hR h a0 0) 22 (hI h a0 2) then bak (EX d 25) 89 [(0, .inr (.inr a0))] [.inr (.inr a0)] false (cal d 22 [.inl (hI h (hR h a0 0) (ix (hI h a0 2)))] h) else none else none else none := (EX_at bk_Tokens_step_76 _ _ _).trans rfl
theorem bk_Tokens_step_89 : blk 25 89 = some (((cd_Tokens_step.lookup 89).getD ([], 0, []))) := rfl
theorem Tokens_step_89 (d : Nat) (a0 : Nat) (r0 : Nat) (s1 : Int) (h : Hp) : EX d 25 89 [(0, .inr (.inr a0))] [.inl s1, .inr (.inr r0)] h = if sK h r0 = 6 then EX d 25 92 [(0, .inr (.inr a0))] [] (pI h r0 3 s1) else none := (EX_at bk_Tokens_step_89 _ _ _).trans rfl
theorem bk_Tokens_step_92 : blk 25 92 = some (((cd_Tokens_step.lookup 92).getD ([], 0, []))) := rfl
theorem Tokens_step_92 (d : Nat) (a0 : Nat) (h : Hp) : EX d 25 92 [(0, .inr (.inr a0))] [] h = if sK h a0 = 6 then if sK h a0 = 6 then EX d 25 102 [(0, .inr (.inr a0))] [] (pI h a0 2 ((hI h a0 2) + 1)) else none else none := (EX_at bk_Tokens_step_92 _ _ _).trans rfl
theorem bk_Tokens_step_102 : blk 25 102 = some (((cd_Tokens_step.lookup 102).getD ([], 0, []))) := rfl
theorem Tokens_step_102 (d : Nat) (a0 : Nat) (h : Hp) : EX d 25 102 [(0, .inr (.inr a0))] [] h = if sK h a0 = 6 then if sK h a0 = 6 then if (wr (hI h a0 2)) < (wr (hI h a0 1)) then EX d 25 113 [(0, .inr (.inr a0))] [] h else EX d 25 161 [(0, .inr (.inr a0))] [] h else none else none := (EX_at bk_Tokens_step_102 _ _ _).trans rfl
theorem bk_Tokens_step_113 : blk 25 113 = some (((cd_Tokens_step.lookup 113).getD ([], 0, []))) := rfl
theorem Tokens_step_113 (d : Nat) (a0 : Nat) (h : Hp) : EX d 25 113 [(0, .inr (.inr a0))] [] h = if sK h a0 = 6 then if (wr (hI h a0 3)) = 2 then EX d 25 129 [(0, .inr (.inr a0))] [] h else EX d 25 121 [(0, .inr (.inr a0))] [] h else none := (EX_at bk_Tokens_step_113 _ _ _).trans rfl
theorem bk_Tokens_step_121 : blk 25 121 = some (((cd_Tokens_step.lookup 121).getD ([], 0, []))) := rfl
theorem Tokens_step_121 (d : Nat) (a0 : Nat) (h : Hp) : EX d 25 121 [(0, .inr (.inr a0))] [] h = if sK h a0 = 6 then if (wr (hI h a0 3)) = 3 then EX d 25 129 [(0, .inr (.inr a0))] [] h else EX d 25 161 [(0, .inr (.inr a0))] [] h else none := (EX_at bk_Tokens_step_121 _ _ _).trans rfl
theorem bk_Tokens_step_129 : blk 25 129 = some (((cd_Tokens_step.lookup 129).getD ([], 0, []))) := rfl
theorem Tokens_step_129 (d : Nat) (a0 : Nat) (h : Hp) : EX d 25 129 [(0, .inr (.inr a0))] [] h = if sK h a0 = 6 then if sK h a0 = 6 then if okx h (hR h a0 0) 22 (hI h a0 2) then bak (EX d 25) 141 [(0, .inr (.inr a0))] [] false (cal d 22 [.inl (hI h (hR h a0 0) (ix (hI h a0 2)))] h) else none else none else none := (EX_at bk_Tokens_step_129 _ _ _).trans rfl
theorem bk_Tokens_step_141 : blk 25 141 = some (((cd_Tokens_step.lookup 141).getD ([], 0, []))) := rfl
theorem Tokens_step_141 (d : Nat) (a0 : Nat) (s0 : Int) (h : Hp) : EX d 25 141 [(0, .inr (.inr a0))] [.inl s0] h = if sK h a0 = 6 then if (wr s0) = (wr (hI h a0 3)) then EX d 25 148 [(0, .inr (.inr a0))] [] h else EX d 25 161 [(0, .inr (.inr a0))] [] h else none := (EX_at bk_Tokens_step_141 _ _ _).trans rfl
theorem bk_Tokens_step_148 : blk 25 148 = some (((cd_Tokens_step.lookup 148).getD ([], 0, []))) := rfl
theorem Tokens_step_148 (d : Nat) (a0 : Nat) (h : Hp) : EX d 25 148 [(0, .inr (.inr a0))] [] h = if sK h a0 = 6 then if sK h a0 = 6 then EX d 25 158 [(0, .inr (.inr a0))] [] (pI h a0 2 ((hI h a0 2) + 1)) else none else none := (EX_at bk_Tokens_step_148 _ _ _).trans rfl
theorem bk_Tokens_step_158 : blk 25 158 = some (((cd_Tokens_step.lookup 158).getD ([], 0, []))) := rfl
theorem Tokens_step_158 (d : Nat) (a0 : Nat) (h : Hp) : EX d 25 158 [(0, .inr (.inr a0))] [] h = EX d 25 102 [(0, .inr (.inr a0))] [] h := (EX_at bk_Tokens_step_158 _ _ _).trans rfl
theorem bk_Tokens_step_161 : blk 25 161 = some (((cd_Tokens_step.lookup 161).getD ([], 0, []))) := rfl
theorem Tokens_step_161 (d : Nat) (a0 : Nat) (h : Hp) : EX d 25 161 [(0, .inr (.inr a0))] [] h = if sK h a0 = 6 then if (wr (hI h a0 3)) = 2 then EX d 25 169 [(0, .inr (.inr a0))] [] h else EX d 25 176 [(0, .inr (.inr a0))] [] h else none := (EX_at bk_Tokens_step_161 _ _ _).trans rfl
theorem bk_Tokens_step_169 : blk 25 169 = some (((cd_Tokens_step.lookup 169).getD ([], 0, []))) := rfl
theorem Tokens_step_169 (d : Nat) (a0 : Nat) (h : Hp) : EX d 25 169 [(0, .inr (.inr a0))] [] h = if sK h a0 = 6 then bak (EX d 25) 173 [] [] true (cal d 23 [.inr (.inr a0)] h) else none := (EX_at bk_Tokens_step_169 _ _ _).trans rfl
theorem bk_Tokens_step_173 : blk 25 173 = some (((cd_Tokens_step.lookup 173).getD ([], 0, []))) := rfl
theorem Tokens_step_173 (d : Nat) (h : Hp) : EX d 25 173 [] [] h = EX d 25 188 [] [] h := (EX_at bk_Tokens_step_173 _ _ _).trans rfl
theorem bk_Tokens_step_176 : blk 25 176 = some (((cd_Tokens_step.lookup 176).getD ([], 0, []))) := rfl
theorem Tokens_step_176 (d : Nat) (a0 : Nat) (h : Hp) : EX d 25 176 [(0, .inr (.inr a0))] [] h = if sK h a0 = 6 then if (wr (hI h a0 3)) = 3 then EX d 25 184 [(0, .inr (.inr a0))] [] h else EX d 25 188 [] [] h else none := (EX_at bk_Tokens_step_176 _ _ _).trans rfl
theorem bk_Tokens_step_184 : blk 25 184 = some (((cd_Tokens_step.lookup 184).getD ([], 0, []))) := rfl
theorem Tokens_step_184 (d : Nat) (a0 : Nat) (h : Hp) : EX d 25 184 [(0, .inr (.inr a0))] [] h = if sK h a0 = 6 then bak (EX d 25) 188 [] [] true (cal d 24 [.inr (.inr a0)] h) else none := (EX_at bk_Tokens_step_184 _ _ _).trans rfl
theorem bk_Tokens_step_188 : blk 25 188 = some (((cd_Tokens_step.lookup 188).getD ([], 0, []))) := rfl
theorem Tokens_step_188 (d : Nat) (h : Hp) : EX d 25 188 [] [] h = some (.inl 0, h) := (EX_at bk_Tokens_step_188 _ _ _).trans rfl
/-! open([BI)V of HookOver$Tokens: method 26 -/
theorem bk_Tokens_open_0 : blk 26 0 = some (((cd_Tokens_open.lookup 0).getD ([], 0, []))) := rfl
theorem Tokens_open_0 (d : Nat) (a0 : Nat) (a1 : Nat) (x2 : Int) (h : Hp) : EX d 26 0 [(0, .inr (.inr a0)), (1, .inr (.inr a1)), (2, .inl x2)] [] h = if sK h a0 = 6 then EX d 26 5 [(0, .inr (.inr a0)), (1, .inr (.inr a1)), (2, .inl x2)] [] (pR h a0 0 a1) else none := (EX_at bk_Tokens_open_0 _ _ _).trans rfl
theorem bk_Tokens_open_5 : blk 26 5 = some (((cd_Tokens_open.lookup 5).getD ([], 0, []))) := rfl
theorem Tokens_open_5 (d : Nat) (a0 : Nat) (a1 : Nat) (x2 : Int) (h : Hp) : EX d 26 5 [(0, .inr (.inr a0)), (1, .inr (.inr a1)), (2, .inl x2)] [] h = if sK h a1 = 22 then bak (EX d 26) 13 [(0, .inr (.inr a0))] [.inl 0, .inr (.inr a0)] false (cal d 20 [.inl x2, .inl (sL h a1)] h) else none := (EX_at bk_Tokens_open_5 _ _ _).trans rfl
theorem bk_Tokens_open_13 : blk 26 13 = some (((cd_Tokens_open.lookup 13).getD ([], 0, []))) := rfl
theorem Tokens_open_13 (d : Nat) (a0 : Nat) (r0 : Nat) (s1 : Int) (s2 : Int) (h : Hp) : EX d 26 13 [(0, .inr (.inr a0))] [.inl s2, .inl s1, .inr (.inr r0)] h = bak (EX d 26) 16 [(0, .inr (.inr a0))] [.inr (.inr r0)] false (cal d 21 [.inl s1, .inl s2] h) := (EX_at bk_Tokens_open_13 _ _ _).trans rfl
theorem bk_Tokens_open_16 : blk 26 16 = some (((cd_Tokens_open.lookup 16).getD ([], 0, []))) := rfl
theorem Tokens_open_16 (d : Nat) (a0 : Nat) (r0 : Nat) (s1 : Int) (h : Hp) : EX d 26 16 [(0, .inr (.inr a0))] [.inl s1, .inr (.inr r0)] h = if sK h r0 = 6 then EX d 26 19 [(0, .inr (.inr a0))] [] (pI h r0 1 s1) else none := (EX_at bk_Tokens_open_16 _ _ _).trans rfl
theorem bk_Tokens_open_19 : blk 26 19 = some (((cd_Tokens_open.lookup 19).getD ([], 0, []))) := rfl
theorem Tokens_open_19 (d : Nat) (a0 : Nat) (h : Hp) : EX d 26 19 [(0, .inr (.inr a0))] [] h = if sK h a0 = 6 then EX d 26 24 [(0, .inr (.inr a0))] [] (pI h a0 2 0) else none := (EX_at bk_Tokens_open_19 _ _ _).trans rfl
theorem bk_Tokens_open_24 : blk 26 24 = some (((cd_Tokens_open.lookup 24).getD ([], 0, []))) := rfl
theorem Tokens_open_24 (d : Nat) (a0 : Nat) (h : Hp) : EX d 26 24 [(0, .inr (.inr a0))] [] h = if sK h a0 = 6 then EX d 26 29 [(0, .inr (.inr a0))] [] (pI h a0 6 0) else none := (EX_at bk_Tokens_open_24 _ _ _).trans rfl
theorem bk_Tokens_open_29 : blk 26 29 = some (((cd_Tokens_open.lookup 29).getD ([], 0, []))) := rfl
theorem Tokens_open_29 (d : Nat) (a0 : Nat) (h : Hp) : EX d 26 29 [(0, .inr (.inr a0))] [] h = if sK h a0 = 6 then EX d 26 34 [(0, .inr (.inr a0))] [] (pI h a0 7 (-1)) else none := (EX_at bk_Tokens_open_29 _ _ _).trans rfl
theorem bk_Tokens_open_34 : blk 26 34 = some (((cd_Tokens_open.lookup 34).getD ([], 0, []))) := rfl
theorem Tokens_open_34 (d : Nat) (a0 : Nat) (h : Hp) : EX d 26 34 [(0, .inr (.inr a0))] [] h = if sK h a0 = 6 then bak (EX d 26) 38 [] [] true (cal d 25 [.inr (.inr a0)] h) else none := (EX_at bk_Tokens_open_34 _ _ _).trans rfl
theorem bk_Tokens_open_38 : blk 26 38 = some (((cd_Tokens_open.lookup 38).getD ([], 0, []))) := rfl
theorem Tokens_open_38 (d : Nat) (h : Hp) : EX d 26 38 [] [] h = some (.inl 0, h) := (EX_at bk_Tokens_open_38 _ _ _).trans rfl
/-! isSound()Z of HookOver$Tokens: method 27 -/
theorem bk_Tokens_isSound_0 : blk 27 0 = some (((cd_Tokens_isSound.lookup 0).getD ([], 0, []))) := rfl
theorem Tokens_isSound_0 (d : Nat) (a0 : Nat) (h : Hp) : EX d 27 0 [(0, .inr (.inr a0))] [] h = if sK h a0 = 6 then if (wr (hI h a0 6)) = 0 then EX d 27 7 [] [] h else EX d 27 11 [] [] h else none := (EX_at bk_Tokens_isSound_0 _ _ _).trans rfl
theorem bk_Tokens_isSound_7 : blk 27 7 = some (((cd_Tokens_isSound.lookup 7).getD ([], 0, []))) := rfl
theorem Tokens_isSound_7 (d : Nat) (h : Hp) : EX d 27 7 [] [] h = EX d 27 12 [] [.inl 1] h := (EX_at bk_Tokens_isSound_7 _ _ _).trans rfl
theorem bk_Tokens_isSound_11 : blk 27 11 = some (((cd_Tokens_isSound.lookup 11).getD ([], 0, []))) := rfl
theorem Tokens_isSound_11 (d : Nat) (h : Hp) : EX d 27 11 [] [] h = EX d 27 12 [] [.inl 0] h := (EX_at bk_Tokens_isSound_11 _ _ _).trans rfl
theorem bk_Tokens_isSound_12 : blk 27 12 = some (((cd_Tokens_isSound.lookup 12).getD ([], 0, []))) := rfl
theorem Tokens_isSound_12 (d : Nat) (s0 : Int) (h : Hp) : EX d 27 12 [] [.inl s0] h = if ((s0 : Int) = 0 ∨ (s0 : Int) = 1) then some (.inl s0, h) else none := (EX_at bk_Tokens_isSound_12 _ _ _).trans rfl
/-! failAt(II)V of HookOver$Tokens: method 29 -/
theorem bk_Tokens_failAt_0 : blk 29 0 = some (((cd_Tokens_failAt.lookup 0).getD ([], 0, []))) := rfl
theorem Tokens_failAt_0 (d : Nat) (a0 : Nat) (x1 : Int) (x2 : Int) (h : Hp) : EX d 29 0 [(0, .inr (.inr a0)), (1, .inl x1), (2, .inl x2)] [] h = if sK h a0 = 6 then if (wr (hI h a0 6)) = 0 then EX d 29 7 [(0, .inr (.inr a0)), (1, .inl x1), (2, .inl x2)] [] h else EX d 29 17 [] [] h else none := (EX_at bk_Tokens_failAt_0 _ _ _).trans rfl
theorem bk_Tokens_failAt_7 : blk 29 7 = some (((cd_Tokens_failAt.lookup 7).getD ([], 0, []))) := rfl
theorem Tokens_failAt_7 (d : Nat) (a0 : Nat) (x1 : Int) (x2 : Int) (h : Hp) : EX d 29 7 [(0, .inr (.inr a0)), (1, .inl x1), (2, .inl x2)] [] h = if sK h a0 = 6 then EX d 29 12 [(0, .inr (.inr a0)), (1, .inl x1)] [] (pI h a0 6 x2) else none := (EX_at bk_Tokens_failAt_7 _ _ _).trans rfl
theorem bk_Tokens_failAt_12 : blk 29 12 = some (((cd_Tokens_failAt.lookup 12).getD ([], 0, []))) := rfl
theorem Tokens_failAt_12 (d : Nat) (a0 : Nat) (x1 : Int) (h : Hp) : EX d 29 12 [(0, .inr (.inr a0)), (1, .inl x1)] [] h = if sK h a0 = 6 then EX d 29 17 [] [] (pI h a0 7 x1) else none := (EX_at bk_Tokens_failAt_12 _ _ _).trans rfl
theorem bk_Tokens_failAt_17 : blk 29 17 = some (((cd_Tokens_failAt.lookup 17).getD ([], 0, []))) := rfl
theorem Tokens_failAt_17 (d : Nat) (h : Hp) : EX d 29 17 [] [] h = some (.inl 0, h) := (EX_at bk_Tokens_failAt_17 _ _ _).trans rfl
/-! refuse()V of HookOver$Tokens: method 30 -/
theorem bk_Tokens_refuse_0 : blk 30 0 = some (((cd_Tokens_refuse.lookup 0).getD ([], 0, []))) := rfl
theorem Tokens_refuse_0 (d : Nat) (a0 : Nat) (h : Hp) : EX d 30 0 [(0, .inr (.inr a0))] [] h = if sK h a0 = 6 then if sK h a0 = 6 then if (wr (hI h a0 3)) = 1 then EX d 30 13 [] [.inl (hI h a0 5), .inr (.inr a0)] h else EX d 30 17 [] [.inl (hI h a0 5), .inr (.inr a0)] h else none else none := (EX_at bk_Tokens_refuse_0 _ _ _).trans rfl
theorem bk_Tokens_refuse_13 : blk 30 13 = some (((cd_Tokens_refuse.lookup 13).getD ([], 0, []))) := rfl
theorem Tokens_refuse_13 (d : Nat) (r0 : Nat) (s1 : Int) (h : Hp) : EX d 30 13 [] [.inl s1, .inr (.inr r0)] h = EX d 30 18 [] [.inl 1, .inl s1, .inr (.inr r0)] h := (EX_at bk_Tokens_refuse_13 _ _ _).trans rfl
theorem bk_Tokens_refuse_17 : blk 30 17 = some (((cd_Tokens_refuse.lookup 17).getD ([], 0, []))) := rfl
theorem Tokens_refuse_17 (d : Nat) (r0 : Nat) (s1 : Int) (h : Hp) : EX d 30 17 [] [.inl s1, .inr (.inr r0)] h = EX d 30 18 [] [.inl 2, .inl s1, .inr (.inr r0)] h := (EX_at bk_Tokens_refuse_17 _ _ _).trans rfl
theorem bk_Tokens_refuse_18 : blk 30 18 = some (((cd_Tokens_refuse.lookup 18).getD ([], 0, []))) := rfl
theorem Tokens_refuse_18 (d : Nat) (r0 : Nat) (s1 : Int) (s2 : Int) (h : Hp) : EX d 30 18 [] [.inl s2, .inl s1, .inr (.inr r0)] h = if sK h r0 = 6 then bak (EX d 30) 21 [] [] true (cal d 29 [.inr (.inr r0), .inl s1, .inl s2] h) else none := (EX_at bk_Tokens_refuse_18 _ _ _).trans rfl
theorem bk_Tokens_refuse_21 : blk 30 21 = some (((cd_Tokens_refuse.lookup 21).getD ([], 0, []))) := rfl
theorem Tokens_refuse_21 (d : Nat) (h : Hp) : EX d 30 21 [] [] h = some (.inl 0, h) := (EX_at bk_Tokens_refuse_21 _ _ _).trans rfl
/-! passNumber(II)I of HookOver$Tokens: method 31 -/
theorem bk_Tokens_passNumber_0 : blk 31 0 = some (((cd_Tokens_passNumber.lookup 0).getD ([], 0, []))) := rfl
theorem Tokens_passNumber_0 (d : Nat) (a0 : Nat) (x1 : Int) (x2 : Int) (h : Hp) : EX d 31 0 [(0, .inr (.inr a0)), (1, .inl x1), (2, .inl x2)] [] h = if sK h a0 = 6 then if sK h a0 = 6 then if (wr (hI h a0 3)) = 2 then EX d 31 19 [(0, .inr (.inr a0)), (1, .inl x1), (2, .inl x2), (3, .inl (hI h a0 4))] [] h else EX d 31 13 [(0, .inr (.inr a0)), (1, .inl x1)] [] h else none else none := (EX_at bk_Tokens_passNumber_0 _ _ _).trans rfl
theorem bk_Tokens_passNumber_13 : blk 31 13 = some (((cd_Tokens_passNumber.lookup 13).getD ([], 0, []))) := rfl
theorem Tokens_passNumber_13 (d : Nat) (a0 : Nat) (x1 : Int) (h : Hp) : EX d 31 13 [(0, .inr (.inr a0)), (1, .inl x1)] [] h = if sK h a0 = 6 then bak (EX d 31) 17 [(1, .inl x1)] [] true (cal d 30 [.inr (.inr a0)] h) else none := (EX_at bk_Tokens_passNumber_13 _ _ _).trans rfl
theorem bk_Tokens_passNumber_17 : blk 31 17 = some (((cd_Tokens_passNumber.lookup 17).getD ([], 0, []))) := rfl
theorem Tokens_passNumber_17 (d : Nat) (x1 : Int) (h : Hp) : EX d 31 17 [(1, .inl x1)] [] h = some (.inl x1, h) := (EX_at bk_Tokens_passNumber_17 _ _ _).trans rfl
theorem bk_Tokens_passNumber_19 : blk 31 19 = some (((cd_Tokens_passNumber.lookup 19).getD ([], 0, []))) := rfl
theorem Tokens_passNumber_19 (d : Nat) (a0 : Nat) (x1 : Int) (x2 : Int) (x3 : Int) (h : Hp) : EX d 31 19 [(0, .inr (.inr a0)), (1, .inl x1), (2, .inl x2), (3, .inl x3)] [] h = if (wr x3) < (wr x1) then EX d 31 29 [(0, .inr (.inr a0)), (1, .inl x1)] [] h else EX d 31 24 [(0, .inr (.inr a0)), (1, .inl x1), (2, .inl x2), (3, .inl x3)] [] h := (EX_at bk_Tokens_passNumber_19 _ _ _).trans rfl
theorem bk_Tokens_passNumber_24 : blk 31 24 = some (((cd_Tokens_passNumber.lookup 24).getD ([], 0, []))) := rfl
theorem Tokens_passNumber_24 (d : Nat) (a0 : Nat) (x1 : Int) (x2 : Int) (x3 : Int) (h : Hp) : EX d 31 24 [(0, .inr (.inr a0)), (1, .inl x1), (2, .inl x2), (3, .inl x3)] [] h = if (wr x2) < (wr x3) then EX d 31 29 [(0, .inr (.inr a0)), (1, .inl x1)] [] h else EX d 31 40 [(0, .inr (.inr a0)), (3, .inl x3)] [] h := (EX_at bk_Tokens_passNumber_24 _ _ _).trans rfl
theorem bk_Tokens_passNumber_29 : blk 31 29 = some (((cd_Tokens_passNumber.lookup 29).getD ([], 0, []))) := rfl
theorem Tokens_passNumber_29 (d : Nat) (a0 : Nat) (x1 : Int) (h : Hp) : EX d 31 29 [(0, .inr (.inr a0)), (1, .inl x1)] [] h = if sK h a0 = 6 then if sK h a0 = 6 then bak (EX d 31) 38 [(1, .inl x1)] [] true (cal d 29 [.inr (.inr a0), .inl (hI h a0 5), .inl 3] h) else none else none := (EX_at bk_Tokens_passNumber_29 _ _ _).trans rfl
theorem bk_Tokens_passNumber_38 : blk 31 38 = some (((cd_Tokens_passNumber.lookup 38).getD ([], 0, []))) := rfl
theorem Tokens_passNumber_38 (d : Nat) (x1 : Int) (h : Hp) : EX d 31 38 [(1, .inl x1)] [] h = some (.inl x1, h) := (EX_at bk_Tokens_passNumber_38 _ _ _).trans rfl
theorem bk_Tokens_passNumber_40 : blk 31 40 = some (((cd_Tokens_passNumber.lookup 40).getD ([], 0, []))) := rfl
theorem Tokens_passNumber_40 (d : Nat) (a0 : Nat) (x3 : Int) (h : Hp) : EX d 31 40 [(0, .inr (.inr a0)), (3, .inl x3)] [] h = if sK h a0 = 6 then bak (EX d 31) 44 [(3, .inl x3)] [] true (cal d 25 [.inr (.inr a0)] h) else none := (EX_at bk_Tokens_passNumber_40 _ _ _).trans rfl
theorem bk_Tokens_passNumber_44 : blk 31 44 = some (((cd_Tokens_passNumber.lookup 44).getD ([], 0, []))) := rfl
theorem Tokens_passNumber_44 (d : Nat) (x3 : Int) (h : Hp) : EX d 31 44 [(3, .inl x3)] [] h = some (.inl x3, h) := (EX_at bk_Tokens_passNumber_44 _ _ _).trans rfl
/-! pass(I)V of HookOver$Tokens: method 33 -/
theorem bk_Tokens_pass_0 : blk 33 0 = some (((cd_Tokens_pass.lookup 0).getD ([], 0, []))) := rfl
theorem Tokens_pass_0 (d : Nat) (a0 : Nat) (x1 : Int) (h : Hp) : EX d 33 0 [(0, .inr (.inr a0)), (1, .inl x1)] [] h = if sK h a0 = 6 then if (wr (hI h a0 3)) = (wr x1) then EX d 33 8 [(0, .inr (.inr a0))] [] h else EX d 33 15 [(0, .inr (.inr a0))] [] h else none := (EX_at bk_Tokens_pass_0 _ _ _).trans rfl
theorem bk_Tokens_pass_8 : blk 33 8 = some (((cd_Tokens_pass.lookup 8).getD ([], 0, []))) := rfl
theorem Tokens_pass_8 (d : Nat) (a0 : Nat) (h : Hp) : EX d 33 8 [(0, .inr (.inr a0))] [] h = if sK h a0 = 6 then bak (EX d 33) 12 [] [] true (cal d 25 [.inr (.inr a0)] h) else none := (EX_at bk_Tokens_pass_8 _ _ _).trans rfl
theorem bk_Tokens_pass_12 : blk 33 12 = some (((cd_Tokens_pass.lookup 12).getD ([], 0, []))) := rfl
theorem Tokens_pass_12 (d : Nat) (h : Hp) : EX d 33 12 [] [] h = EX d 33 19 [] [] h := (EX_at bk_Tokens_pass_12 _ _ _).trans rfl
theorem bk_Tokens_pass_15 : blk 33 15 = some (((cd_Tokens_pass.lookup 15).getD ([], 0, []))) := rfl
theorem Tokens_pass_15 (d : Nat) (a0 : Nat) (h : Hp) : EX d 33 15 [(0, .inr (.inr a0))] [] h = if sK h a0 = 6 then bak (EX d 33) 19 [] [] true (cal d 30 [.inr (.inr a0)] h) else none := (EX_at bk_Tokens_pass_15 _ _ _).trans rfl
theorem bk_Tokens_pass_19 : blk 33 19 = some (((cd_Tokens_pass.lookup 19).getD ([], 0, []))) := rfl
theorem Tokens_pass_19 (d : Nat) (h : Hp) : EX d 33 19 [] [] h = some (.inl 0, h) := (EX_at bk_Tokens_pass_19 _ _ _).trans rfl
