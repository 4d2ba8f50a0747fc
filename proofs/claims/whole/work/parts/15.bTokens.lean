/-! <init>()V of HookOver$Tokens: method 0 -/
theorem bk_Tokens_init_0 : blk 0 0 = some (((cd_Tokens_init.lookup 0).getD ([], 0, []))) := rfl
theorem Tokens_init_0 (d : Nat) (a0 : Nat) (h : Hp) : EX d 0 0 [(0, .inr (.inr a0))] [] h = if (0 < a0 ∧ 0 ≤ 8) then EX d 0 8 [(0, .inr (.inr a0))] [.inr (.inr ((Prod.fst h).length)), .inr (.inr a0)] (nwH h 22 0) else none := (EX_at bk_Tokens_init_0 _ _ _).trans rfl
theorem bk_Tokens_init_8 : blk 0 8 = some (((cd_Tokens_init.lookup 8).getD ([], 0, []))) := rfl
theorem Tokens_init_8 (d : Nat) (a0 : Nat) (r0 : Nat) (r1 : Nat) (h : Hp) : EX d 0 8 [(0, .inr (.inr a0))] [.inr (.inr r1), .inr (.inr r0)] h = if sK h r0 = 6 then EX d 0 11 [(0, .inr (.inr a0))] [] (pR h r0 0 r1) else none := (EX_at bk_Tokens_init_8 _ _ _).trans rfl
theorem bk_Tokens_init_11 : blk 0 11 = some (((cd_Tokens_init.lookup 11).getD ([], 0, []))) := rfl
theorem Tokens_init_11 (d : Nat) (a0 : Nat) (h : Hp) : EX d 0 11 [(0, .inr (.inr a0))] [] h = if sK h a0 = 6 then EX d 0 16 [(0, .inr (.inr a0))] [] (pI h a0 1 0) else none := (EX_at bk_Tokens_init_11 _ _ _).trans rfl
theorem bk_Tokens_init_16 : blk 0 16 = some (((cd_Tokens_init.lookup 16).getD ([], 0, []))) := rfl
theorem Tokens_init_16 (d : Nat) (a0 : Nat) (h : Hp) : EX d 0 16 [(0, .inr (.inr a0))] [] h = if sK h a0 = 6 then EX d 0 21 [(0, .inr (.inr a0))] [] (pI h a0 2 0) else none := (EX_at bk_Tokens_init_16 _ _ _).trans rfl
theorem bk_Tokens_init_21 : blk 0 21 = some (((cd_Tokens_init.lookup 21).getD ([], 0, []))) := rfl
theorem Tokens_init_21 (d : Nat) (a0 : Nat) (h : Hp) : EX d 0 21 [(0, .inr (.inr a0))] [] h = if sK h a0 = 6 then EX d 0 26 [(0, .inr (.inr a0))] [] (pI h a0 3 0) else none := (EX_at bk_Tokens_init_21 _ _ _).trans rfl
theorem bk_Tokens_init_26 : blk 0 26 = some (((cd_Tokens_init.lookup 26).getD ([], 0, []))) := rfl
theorem Tokens_init_26 (d : Nat) (a0 : Nat) (h : Hp) : EX d 0 26 [(0, .inr (.inr a0))] [] h = if sK h a0 = 6 then EX d 0 31 [(0, .inr (.inr a0))] [] (pI h a0 4 0) else none := (EX_at bk_Tokens_init_26 _ _ _).trans rfl
theorem bk_Tokens_init_31 : blk 0 31 = some (((cd_Tokens_init.lookup 31).getD ([], 0, []))) := rfl
theorem Tokens_init_31 (d : Nat) (a0 : Nat) (h : Hp) : EX d 0 31 [(0, .inr (.inr a0))] [] h = if sK h a0 = 6 then EX d 0 36 [(0, .inr (.inr a0))] [] (pI h a0 5 0) else none := (EX_at bk_Tokens_init_31 _ _ _).trans rfl
theorem bk_Tokens_init_36 : blk 0 36 = some (((cd_Tokens_init.lookup 36).getD ([], 0, []))) := rfl
theorem Tokens_init_36 (d : Nat) (a0 : Nat) (h : Hp) : EX d 0 36 [(0, .inr (.inr a0))] [] h = if sK h a0 = 6 then EX d 0 41 [(0, .inr (.inr a0))] [] (pI h a0 6 0) else none := (EX_at bk_Tokens_init_36 _ _ _).trans rfl
theorem bk_Tokens_init_41 : blk 0 41 = some (((cd_Tokens_init.lookup 41).getD ([], 0, []))) := rfl
theorem Tokens_init_41 (d : Nat) (a0 : Nat) (h : Hp) : EX d 0 41 [(0, .inr (.inr a0))] [] h = if sK h a0 = 6 then EX d 0 46 [] [] (pI h a0 7 (-1)) else none := (EX_at bk_Tokens_init_41 _ _ _).trans rfl
theorem bk_Tokens_init_46 : blk 0 46 = some (((cd_Tokens_init.lookup 46).getD ([], 0, []))) := rfl
theorem Tokens_init_46 (d : Nat) (h : Hp) : EX d 0 46 [] [] h = some (.inl 0, h) := (EX_at bk_Tokens_init_46 _ _ _).trans rfl
/-! isDigit(B)Z of HookOver$Tokens: method 22 -/
theorem bk_Tokens_isDigit_0 : blk 22 0 = some (((cd_Tokens_isDigit.lookup 0).getD ([], 0, []))) := rfl
theorem Tokens_isDigit_0 (d : Nat) (x0 : Int) (h : Hp) : EX d 22 0 [(0, .inl x0)] [] h = if (wr x0) < 48 then EX d 22 16 [] [] h else EX d 22 6 [(0, .inl x0)] [] h := (EX_at bk_Tokens_isDigit_0 _ _ _).trans rfl
theorem bk_Tokens_isDigit_6 : blk 22 6 = some (((cd_Tokens_isDigit.lookup 6).getD ([], 0, []))) := rfl
theorem Tokens_isDigit_6 (d : Nat) (x0 : Int) (h : Hp) : EX d 22 6 [(0, .inl x0)] [] h = if 57 < (wr x0) then EX d 22 16 [] [] h else EX d 22 12 [] [] h := (EX_at bk_Tokens_isDigit_6 _ _ _).trans rfl
theorem bk_Tokens_isDigit_12 : blk 22 12 = some (((cd_Tokens_isDigit.lookup 12).getD ([], 0, []))) := rfl
theorem Tokens_isDigit_12 (d : Nat) (h : Hp) : EX d 22 12 [] [] h = EX d 22 17 [] [.inl 1] h := (EX_at bk_Tokens_isDigit_12 _ _ _).trans rfl
theorem bk_Tokens_isDigit_16 : blk 22 16 = some (((cd_Tokens_isDigit.lookup 16).getD ([], 0, []))) := rfl
theorem Tokens_isDigit_16 (d : Nat) (h : Hp) : EX d 22 16 [] [] h = EX d 22 17 [] [.inl 0] h := (EX_at bk_Tokens_isDigit_16 _ _ _).trans rfl
theorem bk_Tokens_isDigit_17 : blk 22 17 = some (((cd_Tokens_isDigit.lookup 17).getD ([], 0, []))) := rfl
theorem Tokens_isDigit_17 (d : Nat) (s0 : Int) (h : Hp) : EX d 22 17 [] [.inl s0] h = if ((s0 : Int) = 0 ∨ (s0 : Int) = 1) then some (.inl s0, h) else none := (EX_at bk_Tokens_isDigit_17 _ _ _).trans rfl
/-! scanNumber()V of HookOver$Tokens: method 23 -/
theorem bk_Tokens_scanNumber_0 : blk 23 0 = some (((cd_Tokens_scanNumber.lookup 0).getD ([], 0, []))) := rfl
theorem Tokens_scanNumber_0 (d : Nat) (a0 : Nat) (h : Hp) : EX d 23 0 [(0, .inr (.inr a0))] [] h = if sK h a0 = 6 then EX d 23 5 [(0, .inr (.inr a0))] [] (pI h a0 4 0) else none := (EX_at bk_Tokens_scanNumber_0 _ _ _).trans rfl
theorem bk_Tokens_scanNumber_5 : blk 23 5 = some (((cd_Tokens_scanNumber.lookup 5).getD ([], 0, []))) := rfl
theorem Tokens_scanNumber_5 (d : Nat) (a0 : Nat) (h : Hp) : EX d 23 5 [(0, .inr (.inr a0))] [] h = if sK h a0 = 6 then if sK h a0 = 6 then if (wr (hI h a0 2)) < (wr (hI h a0 1)) then EX d 23 16 [(0, .inr (.inr a0))] [] h else EX d 23 81 [(0, .inr (.inr a0))] [] h else none else none := (EX_at bk_Tokens_scanNumber_5 _ _ _).trans rfl
theorem bk_Tokens_scanNumber_16 : blk 23 16 = some (((cd_Tokens_scanNumber.lookup 16).getD ([], 0, []))) := rfl
theorem Tokens_scanNumber_16 (d : Nat) (a0 : Nat) (h : Hp) : EX d 23 16 [(0, .inr (.inr a0))] [] h = if sK h a0 = 6 then if sK h a0 = 6 then if okx h (hR h a0 0) 22 (hI h a0 2) then bak (EX d 23) 28 [(0, .inr (.inr a0))] [] false (cal d 22 [.inl (hI h (hR h a0 0) (ix (hI h a0 2)))] h) else none else none else none := (EX_at bk_Tokens_scanNumber_16 _ _ _).trans rfl
theorem bk_Tokens_scanNumber_28 : blk 23 28 = some (((cd_Tokens_scanNumber.lookup 28).getD ([], 0, []))) := rfl
theorem Tokens_scanNumber_28 (d : Nat) (a0 : Nat) (s0 : Int) (h : Hp) : EX d 23 28 [(0, .inr (.inr a0))] [.inl s0] h = if (wr s0) = 0 then EX d 23 81 [(0, .inr (.inr a0))] [] h else EX d 23 31 [(0, .inr (.inr a0))] [] h := (EX_at bk_Tokens_scanNumber_28 _ _ _).trans rfl
theorem bk_Tokens_scanNumber_31 : blk 23 31 = some (((cd_Tokens_scanNumber.lookup 31).getD ([], 0, []))) := rfl
theorem Tokens_scanNumber_31 (d : Nat) (a0 : Nat) (h : Hp) : EX d 23 31 [(0, .inr (.inr a0))] [] h = if sK h a0 = 6 then if sK h a0 = 6 then if (wr ((hI h a0 2) - (hI h a0 5))) < 3 then EX d 23 44 [(0, .inr (.inr a0))] [] h else EX d 23 68 [(0, .inr (.inr a0))] [] h else none else none := (EX_at bk_Tokens_scanNumber_31 _ _ _).trans rfl
theorem bk_Tokens_scanNumber_44 : blk 23 44 = some (((cd_Tokens_scanNumber.lookup 44).getD ([], 0, []))) := rfl
theorem Tokens_scanNumber_44 (d : Nat) (a0 : Nat) (h : Hp) : EX d 23 44 [(0, .inr (.inr a0))] [] h = if sK h a0 = 6 then if sK h a0 = 6 then if sK h a0 = 6 then if okx h (hR h a0 0) 22 (hI h a0 2) then if sK h a0 = 6 then EX d 23 68 [(0, .inr (.inr a0))] [] (pI h a0 4 ((((hI h a0 4) * 10) + (hI h (hR h a0 0) (ix (hI h a0 2)))) - 48)) else none else none else none else none else none := (EX_at bk_Tokens_scanNumber_44 _ _ _).trans rfl
theorem bk_Tokens_scanNumber_68 : blk 23 68 = some (((cd_Tokens_scanNumber.lookup 68).getD ([], 0, []))) := rfl
theorem Tokens_scanNumber_68 (d : Nat) (a0 : Nat) (h : Hp) : EX d 23 68 [(0, .inr (.inr a0))] [] h = if sK h a0 = 6 then if sK h a0 = 6 then EX d 23 78 [(0, .inr (.inr a0))] [] (pI h a0 2 ((hI h a0 2) + 1)) else none else none := (EX_at bk_Tokens_scanNumber_68 _ _ _).trans rfl
theorem bk_Tokens_scanNumber_78 : blk 23 78 = some (((cd_Tokens_scanNumber.lookup 78).getD ([], 0, []))) := rfl
theorem Tokens_scanNumber_78 (d : Nat) (a0 : Nat) (h : Hp) : EX d 23 78 [(0, .inr (.inr a0))] [] h = EX d 23 5 [(0, .inr (.inr a0))] [] h := (EX_at bk_Tokens_scanNumber_78 _ _ _).trans rfl
theorem bk_Tokens_scanNumber_81 : blk 23 81 = some (((cd_Tokens_scanNumber.lookup 81).getD ([], 0, []))) := rfl
theorem Tokens_scanNumber_81 (d : Nat) (a0 : Nat) (h : Hp) : EX d 23 81 [(0, .inr (.inr a0))] [] h = if sK h a0 = 6 then if sK h a0 = 6 then if 3 < (wr ((hI h a0 2) - (hI h a0 5))) then EX d 23 99 [] [.inr (.inr a0)] h else EX d 23 95 [] [.inr (.inr a0)] h else none else none := (EX_at bk_Tokens_scanNumber_81 _ _ _).trans rfl
theorem bk_Tokens_scanNumber_95 : blk 23 95 = some (((cd_Tokens_scanNumber.lookup 95).getD ([], 0, []))) := rfl
theorem Tokens_scanNumber_95 (d : Nat) (r0 : Nat) (h : Hp) : EX d 23 95 [] [.inr (.inr r0)] h = EX d 23 100 [] [.inl 2, .inr (.inr r0)] h := (EX_at bk_Tokens_scanNumber_95 _ _ _).trans rfl
theorem bk_Tokens_scanNumber_99 : blk 23 99 = some (((cd_Tokens_scanNumber.lookup 99).getD ([], 0, []))) := rfl
theorem Tokens_scanNumber_99 (d : Nat) (r0 : Nat) (h : Hp) : EX d 23 99 [] [.inr (.inr r0)] h = EX d 23 100 [] [.inl 1, .inr (.inr r0)] h := (EX_at bk_Tokens_scanNumber_99 _ _ _).trans rfl
theorem bk_Tokens_scanNumber_100 : blk 23 100 = some (((cd_Tokens_scanNumber.lookup 100).getD ([], 0, []))) := rfl
theorem Tokens_scanNumber_100 (d : Nat) (r0 : Nat) (s1 : Int) (h : Hp) : EX d 23 100 [] [.inl s1, .inr (.inr r0)] h = if sK h r0 = 6 then EX d 23 103 [] [] (pI h r0 3 s1) else none := (EX_at bk_Tokens_scanNumber_100 _ _ _).trans rfl
theorem bk_Tokens_scanNumber_103 : blk 23 103 = some (((cd_Tokens_scanNumber.lookup 103).getD ([], 0, []))) := rfl
theorem Tokens_scanNumber_103 (d : Nat) (h : Hp) : EX d 23 103 [] [] h = some (.inl 0, h) := (EX_at bk_Tokens_scanNumber_103 _ _ _).trans rfl
/-! isLetter(B)Z of HookOver$Tokens: method 24 -/
theorem bk_Tokens_isLetter_0 : blk 24 0 = some (((cd_Tokens_isLetter.lookup 0).getD ([], 0, []))) := rfl
theorem Tokens_isLetter_0 (d : Nat) (x0 : Int) (h : Hp) : EX d 24 0 [(0, .inl x0)] [] h = if (wr x0) < 97 then EX d 24 16 [] [] h else EX d 24 6 [(0, .inl x0)] [] h := (EX_at bk_Tokens_isLetter_0 _ _ _).trans rfl
theorem bk_Tokens_isLetter_6 : blk 24 6 = some (((cd_Tokens_isLetter.lookup 6).getD ([], 0, []))) := rfl
theorem Tokens_isLetter_6 (d : Nat) (x0 : Int) (h : Hp) : EX d 24 6 [(0, .inl x0)] [] h = if 122 < (wr x0) then EX d 24 16 [] [] h else EX d 24 12 [] [] h := (EX_at bk_Tokens_isLetter_6 _ _ _).trans rfl
theorem bk_Tokens_isLetter_12 : blk 24 12 = some (((cd_Tokens_isLetter.lookup 12).getD ([], 0, []))) := rfl
theorem Tokens_isLetter_12 (d : Nat) (h : Hp) : EX d 24 12 [] [] h = EX d 24 17 [] [.inl 1] h := (EX_at bk_Tokens_isLetter_12 _ _ _).trans rfl
theorem bk_Tokens_isLetter_16 : blk 24 16 = some (((cd_Tokens_isLetter.lookup 16).getD ([], 0, []))) := rfl
theorem Tokens_isLetter_16 (d : Nat) (h : Hp) : EX d 24 16 [] [] h = EX d 24 17 [] [.inl 0] h := (EX_at bk_Tokens_isLetter_16 _ _ _).trans rfl
theorem bk_Tokens_isLetter_17 : blk 24 17 = some (((cd_Tokens_isLetter.lookup 17).getD ([], 0, []))) := rfl
theorem Tokens_isLetter_17 (d : Nat) (s0 : Int) (h : Hp) : EX d 24 17 [] [.inl s0] h = if ((s0 : Int) = 0 ∨ (s0 : Int) = 1) then some (.inl s0, h) else none := (EX_at bk_Tokens_isLetter_17 _ _ _).trans rfl
/-! scanWord()V of HookOver$Tokens: method 25 -/
theorem bk_Tokens_scanWord_0 : blk 25 0 = some (((cd_Tokens_scanWord.lookup 0).getD ([], 0, []))) := rfl
theorem Tokens_scanWord_0 (d : Nat) (a0 : Nat) (h : Hp) : EX d 25 0 [(0, .inr (.inr a0))] [] h = if sK h a0 = 6 then if sK h a0 = 6 then if (wr (hI h a0 2)) < (wr (hI h a0 1)) then EX d 25 11 [(0, .inr (.inr a0))] [] h else EX d 25 39 [(0, .inr (.inr a0))] [] h else none else none := (EX_at bk_Tokens_scanWord_0 _ _ _).trans rfl
theorem bk_Tokens_scanWord_11 : blk 25 11 = some (((cd_Tokens_scanWord.lookup 11).getD ([], 0, []))) := rfl
theorem Tokens_scanWord_11 (d : Nat) (a0 : Nat) (h : Hp) : EX d 25 11 [(0, .inr (.inr a0))] [] h = if sK h a0 = 6 then if sK h a0 = 6 then if okx h (hR h a0 0) 22 (hI h a0 2) then bak (EX d 25) 23 [(0, .inr (.inr a0))] [] false (cal d 24 [.inl (hI h (hR h a0 0) (ix (hI h a0 2)))] h) else none else none else none := (EX_at bk_Tokens_scanWord_11 _ _ _).trans rfl
theorem bk_Tokens_scanWord_23 : blk 25 23 = some (((cd_Tokens_scanWord.lookup 23).getD ([], 0, []))) := rfl
theorem Tokens_scanWord_23 (d : Nat) (a0 : Nat) (s0 : Int) (h : Hp) : EX d 25 23 [(0, .inr (.inr a0))] [.inl s0] h = if (wr s0) = 0 then EX d 25 39 [(0, .inr (.inr a0))] [] h else EX d 25 26 [(0, .inr (.inr a0))] [] h := (EX_at bk_Tokens_scanWord_23 _ _ _).trans rfl
theorem bk_Tokens_scanWord_26 : blk 25 26 = some (((cd_Tokens_scanWord.lookup 26).getD ([], 0, []))) := rfl
theorem Tokens_scanWord_26 (d : Nat) (a0 : Nat) (h : Hp) : EX d 25 26 [(0, .inr (.inr a0))] [] h = if sK h a0 = 6 then if sK h a0 = 6 then EX d 25 36 [(0, .inr (.inr a0))] [] (pI h a0 2 ((hI h a0 2) + 1)) else none else none := (EX_at bk_Tokens_scanWord_26 _ _ _).trans rfl
theorem bk_Tokens_scanWord_36 : blk 25 36 = some (((cd_Tokens_scanWord.lookup 36).getD ([], 0, []))) := rfl
theorem Tokens_scanWord_36 (d : Nat) (a0 : Nat) (h : Hp) : EX d 25 36 [(0, .inr (.inr a0))] [] h = EX d 25 0 [(0, .inr (.inr a0))] [] h := (EX_at bk_Tokens_scanWord_36 _ _ _).trans rfl
theorem bk_Tokens_scanWord_39 : blk 25 39 = some (((cd_Tokens_scanWord.lookup 39).getD ([], 0, []))) := rfl
theorem Tokens_scanWord_39 (d : Nat) (a0 : Nat) (h : Hp) : EX d 25 39 [(0, .inr (.inr a0))] [] h = if sK h a0 = 6 then EX d 25 44 [(0, .inr (.inr a0))] [] (pI h a0 3 3) else none := (EX_at bk_Tokens_scanWord_39 _ _ _).trans rfl
theorem bk_Tokens_scanWord_44 : blk 25 44 = some (((cd_Tokens_scanWord.lookup 44).getD ([], 0, []))) := rfl
theorem Tokens_scanWord_44 (d : Nat) (a0 : Nat) (h : Hp) : EX d 25 44 [(0, .inr (.inr a0))] [] h = if sK h a0 = 6 then EX d 25 58 [(0, .inr (.inr a0)), (1, .inl 128), (2, .inl (hI h a0 5)), (3, .inl 1), (4, .inl 0)] [] h else none := (EX_at bk_Tokens_scanWord_44 _ _ _).trans rfl
theorem bk_Tokens_scanWord_58 : blk 25 58 = some (((cd_Tokens_scanWord.lookup 58).getD ([], 0, []))) := rfl
theorem Tokens_scanWord_58 (d : Nat) (a0 : Nat) (x1 : Int) (x2 : Int) (x3 : Int) (x4 : Int) (h : Hp) : EX d 25 58 [(0, .inr (.inr a0)), (1, .inl x1), (2, .inl x2), (3, .inl x3), (4, .inl x4)] [] h = if (sK h 2 = 40 ∧ catS [.inl x4] ≤ 8) then if (wr x4) < (wr (sL h 2)) then EX d 25 68 [(0, .inr (.inr a0)), (1, .inl x1), (2, .inl x2), (3, .inl x3), (4, .inl x4)] [] h else EX d 25 163 [] [] h else none := (EX_at bk_Tokens_scanWord_58 _ _ _).trans rfl
theorem bk_Tokens_scanWord_68 : blk 25 68 = some (((cd_Tokens_scanWord.lookup 68).getD ([], 0, []))) := rfl
theorem Tokens_scanWord_68 (d : Nat) (a0 : Nat) (x1 : Int) (x2 : Int) (x3 : Int) (x4 : Int) (h : Hp) : EX d 25 68 [(0, .inr (.inr a0)), (1, .inl x1), (2, .inl x2), (3, .inl x3), (4, .inl x4)] [] h = if sK h a0 = 6 then if (wr (hI h a0 3)) = 3 then EX d 25 76 [(0, .inr (.inr a0)), (1, .inl x1), (2, .inl x2), (3, .inl x3), (4, .inl x4)] [] h else EX d 25 163 [] [] h else none := (EX_at bk_Tokens_scanWord_68 _ _ _).trans rfl
theorem bk_Tokens_scanWord_76 : blk 25 76 = some (((cd_Tokens_scanWord.lookup 76).getD ([], 0, []))) := rfl
theorem Tokens_scanWord_76 (d : Nat) (a0 : Nat) (x1 : Int) (x2 : Int) (x3 : Int) (x4 : Int) (h : Hp) : EX d 25 76 [(0, .inr (.inr a0)), (1, .inl x1), (2, .inl x2), (3, .inl x3), (4, .inl x4)] [] h = if (okx h 2 40 x4 ∧ catS [] ≤ 8) then if (wr (hI h 2 (ix x4))) = 32 then EX d 25 127 [(0, .inr (.inr a0)), (1, .inl x1), (2, .inl x2), (3, .inl x3), (4, .inl x4)] [] h else EX d 25 92 [(0, .inr (.inr a0)), (1, .inl x1), (2, .inl x2), (3, .inl x3), (4, .inl x4), (5, .inl (hI h 2 (ix x4)))] [] h else none := (EX_at bk_Tokens_scanWord_76 _ _ _).trans rfl
theorem bk_Tokens_scanWord_92 : blk 25 92 = some (((cd_Tokens_scanWord.lookup 92).getD ([], 0, []))) := rfl
theorem Tokens_scanWord_92 (d : Nat) (a0 : Nat) (x1 : Int) (x2 : Int) (x3 : Int) (x4 : Int) (x5 : Int) (h : Hp) : EX d 25 92 [(0, .inr (.inr a0)), (1, .inl x1), (2, .inl x2), (3, .inl x3), (4, .inl x4), (5, .inl x5)] [] h = if (wr x3) = 0 then EX d 25 119 [(0, .inr (.inr a0)), (1, .inl x1), (2, .inl x2), (4, .inl x4)] [] h else EX d 25 96 [(0, .inr (.inr a0)), (1, .inl x1), (2, .inl x2), (4, .inl x4), (5, .inl x5)] [] h := (EX_at bk_Tokens_scanWord_92 _ _ _).trans rfl
theorem bk_Tokens_scanWord_96 : blk 25 96 = some (((cd_Tokens_scanWord.lookup 96).getD ([], 0, []))) := rfl
theorem Tokens_scanWord_96 (d : Nat) (a0 : Nat) (x1 : Int) (x2 : Int) (x4 : Int) (x5 : Int) (h : Hp) : EX d 25 96 [(0, .inr (.inr a0)), (1, .inl x1), (2, .inl x2), (4, .inl x4), (5, .inl x5)] [] h = if sK h a0 = 6 then if (wr x2) < (wr (hI h a0 2)) then EX d 25 104 [(0, .inr (.inr a0)), (1, .inl x1), (2, .inl x2), (4, .inl x4), (5, .inl x5)] [] h else EX d 25 119 [(0, .inr (.inr a0)), (1, .inl x1), (2, .inl x2), (4, .inl x4)] [] h else none := (EX_at bk_Tokens_scanWord_96 _ _ _).trans rfl
theorem bk_Tokens_scanWord_104 : blk 25 104 = some (((cd_Tokens_scanWord.lookup 104).getD ([], 0, []))) := rfl
theorem Tokens_scanWord_104 (d : Nat) (a0 : Nat) (x1 : Int) (x2 : Int) (x4 : Int) (x5 : Int) (h : Hp) : EX d 25 104 [(0, .inr (.inr a0)), (1, .inl x1), (2, .inl x2), (4, .inl x4), (5, .inl x5)] [] h = if sK h a0 = 6 then if okx h (hR h a0 0) 22 x2 then if (wr (hI h (hR h a0 0) (ix x2))) = (wr x5) then EX d 25 115 [(0, .inr (.inr a0)), (1, .inl x1), (2, .inl x2), (4, .inl x4)] [] h else EX d 25 119 [(0, .inr (.inr a0)), (1, .inl x1), (2, .inl x2), (4, .inl x4)] [] h else none else none := (EX_at bk_Tokens_scanWord_104 _ _ _).trans rfl
theorem bk_Tokens_scanWord_115 : blk 25 115 = some (((cd_Tokens_scanWord.lookup 115).getD ([], 0, []))) := rfl
theorem Tokens_scanWord_115 (d : Nat) (a0 : Nat) (x1 : Int) (x2 : Int) (x4 : Int) (h : Hp) : EX d 25 115 [(0, .inr (.inr a0)), (1, .inl x1), (2, .inl x2), (4, .inl x4)] [] h = EX d 25 120 [(0, .inr (.inr a0)), (1, .inl x1), (2, .inl x2), (4, .inl x4)] [.inl 1] h := (EX_at bk_Tokens_scanWord_115 _ _ _).trans rfl
theorem bk_Tokens_scanWord_119 : blk 25 119 = some (((cd_Tokens_scanWord.lookup 119).getD ([], 0, []))) := rfl
theorem Tokens_scanWord_119 (d : Nat) (a0 : Nat) (x1 : Int) (x2 : Int) (x4 : Int) (h : Hp) : EX d 25 119 [(0, .inr (.inr a0)), (1, .inl x1), (2, .inl x2), (4, .inl x4)] [] h = EX d 25 120 [(0, .inr (.inr a0)), (1, .inl x1), (2, .inl x2), (4, .inl x4)] [.inl 0] h := (EX_at bk_Tokens_scanWord_119 _ _ _).trans rfl
theorem bk_Tokens_scanWord_120 : blk 25 120 = some (((cd_Tokens_scanWord.lookup 120).getD ([], 0, []))) := rfl
theorem Tokens_scanWord_120 (d : Nat) (a0 : Nat) (x1 : Int) (x2 : Int) (x4 : Int) (s0 : Int) (h : Hp) : EX d 25 120 [(0, .inr (.inr a0)), (1, .inl x1), (2, .inl x2), (4, .inl x4)] [.inl s0] h = EX d 25 157 [(0, .inr (.inr a0)), (1, .inl x1), (2, .inl (x2 + 1)), (3, .inl s0), (4, .inl x4)] [] h := (EX_at bk_Tokens_scanWord_120 _ _ _).trans rfl
theorem bk_Tokens_scanWord_127 : blk 25 127 = some (((cd_Tokens_scanWord.lookup 127).getD ([], 0, []))) := rfl
theorem Tokens_scanWord_127 (d : Nat) (a0 : Nat) (x1 : Int) (x2 : Int) (x3 : Int) (x4 : Int) (h : Hp) : EX d 25 127 [(0, .inr (.inr a0)), (1, .inl x1), (2, .inl x2), (3, .inl x3), (4, .inl x4)] [] h = if (wr x3) = 0 then EX d 25 147 [(0, .inr (.inr a0)), (1, .inl x1), (4, .inl x4)] [] h else EX d 25 131 [(0, .inr (.inr a0)), (1, .inl x1), (2, .inl x2), (3, .inl x3), (4, .inl x4)] [] h := (EX_at bk_Tokens_scanWord_127 _ _ _).trans rfl
theorem bk_Tokens_scanWord_131 : blk 25 131 = some (((cd_Tokens_scanWord.lookup 131).getD ([], 0, []))) := rfl
theorem Tokens_scanWord_131 (d : Nat) (a0 : Nat) (x1 : Int) (x2 : Int) (x3 : Int) (x4 : Int) (h : Hp) : EX d 25 131 [(0, .inr (.inr a0)), (1, .inl x1), (2, .inl x2), (3, .inl x3), (4, .inl x4)] [] h = if sK h a0 = 6 then if (wr x2) = (wr (hI h a0 2)) then EX d 25 139 [(0, .inr (.inr a0)), (1, .inl x1), (2, .inl x2), (3, .inl x3), (4, .inl x4)] [] h else EX d 25 147 [(0, .inr (.inr a0)), (1, .inl x1), (4, .inl x4)] [] h else none := (EX_at bk_Tokens_scanWord_131 _ _ _).trans rfl
theorem bk_Tokens_scanWord_139 : blk 25 139 = some (((cd_Tokens_scanWord.lookup 139).getD ([], 0, []))) := rfl
theorem Tokens_scanWord_139 (d : Nat) (a0 : Nat) (x1 : Int) (x2 : Int) (x3 : Int) (x4 : Int) (h : Hp) : EX d 25 139 [(0, .inr (.inr a0)), (1, .inl x1), (2, .inl x2), (3, .inl x3), (4, .inl x4)] [] h = if sK h a0 = 6 then EX d 25 144 [(0, .inr (.inr a0)), (1, .inl x1), (2, .inl x2), (3, .inl x3), (4, .inl x4)] [] (pI h a0 3 x1) else none := (EX_at bk_Tokens_scanWord_139 _ _ _).trans rfl
theorem bk_Tokens_scanWord_144 : blk 25 144 = some (((cd_Tokens_scanWord.lookup 144).getD ([], 0, []))) := rfl
theorem Tokens_scanWord_144 (d : Nat) (a0 : Nat) (x1 : Int) (x2 : Int) (x3 : Int) (x4 : Int) (h : Hp) : EX d 25 144 [(0, .inr (.inr a0)), (1, .inl x1), (2, .inl x2), (3, .inl x3), (4, .inl x4)] [] h = EX d 25 157 [(0, .inr (.inr a0)), (1, .inl x1), (2, .inl x2), (3, .inl x3), (4, .inl x4)] [] h := (EX_at bk_Tokens_scanWord_144 _ _ _).trans rfl
theorem bk_Tokens_scanWord_147 : blk 25 147 = some (((cd_Tokens_scanWord.lookup 147).getD ([], 0, []))) := rfl
theorem Tokens_scanWord_147 (d : Nat) (a0 : Nat) (x1 : Int) (x4 : Int) (h : Hp) : EX d 25 147 [(0, .inr (.inr a0)), (1, .inl x1), (4, .inl x4)] [] h = if sK h a0 = 6 then EX d 25 157 [(0, .inr (.inr a0)), (1, .inl (x1 + 1)), (2, .inl (hI h a0 5)), (3, .inl 1), (4, .inl x4)] [] h else none := (EX_at bk_Tokens_scanWord_147 _ _ _).trans rfl
theorem bk_Tokens_scanWord_157 : blk 25 157 = some (((cd_Tokens_scanWord.lookup 157).getD ([], 0, []))) := rfl
theorem Tokens_scanWord_157 (d : Nat) (a0 : Nat) (x1 : Int) (x2 : Int) (x3 : Int) (x4 : Int) (h : Hp) : EX d 25 157 [(0, .inr (.inr a0)), (1, .inl x1), (2, .inl x2), (3, .inl x3), (4, .inl x4)] [] h = EX d 25 58 [(0, .inr (.inr a0)), (1, .inl x1), (2, .inl x2), (3, .inl x3), (4, .inl (x4 + 1))] [] h := (EX_at bk_Tokens_scanWord_157 _ _ _).trans rfl
theorem bk_Tokens_scanWord_163 : blk 25 163 = some (((cd_Tokens_scanWord.lookup 163).getD ([], 0, []))) := rfl
theorem Tokens_scanWord_163 (d : Nat) (h : Hp) : EX d 25 163 [] [] h = some (.inl 0, h) := (EX_at bk_Tokens_scanWord_163 _ _ _).trans rfl
/-! isSign(B)Z of HookOver$Tokens: method 26 -/
theorem bk_Tokens_isSign_0 : blk 26 0 = some (((cd_Tokens_isSign.lookup 0).getD ([], 0, []))) := rfl
theorem Tokens_isSign_0 (d : Nat) (x0 : Int) (h : Hp) : EX d 26 0 [(0, .inl x0)] [] h = if 0 < (wr x0) then EX d 26 4 [(0, .inl x0)] [] h else EX d 26 18 [] [] h := (EX_at bk_Tokens_isSign_0 _ _ _).trans rfl
theorem bk_Tokens_isSign_4 : blk 26 4 = some (((cd_Tokens_isSign.lookup 4).getD ([], 0, []))) := rfl
set_option maxRecDepth 100000 in
theorem Tokens_isSign_4 (d : Nat) (x0 : Int) (h : Hp) : EX d 26 4 [(0, .inl x0)] [] h = if (sK h 3 = 40 ∧ catS [] ≤ 8 ∧ (0 : Int) ≤ (wr (bI2c x0)) ∧ (wr (bI2c x0)) < (256 : Int)) then if (wr (sIx h 3 (wr (bI2c x0)))) < 0 then EX d 26 18 [] [] h else EX d 26 14 [] [] h else none := (EX_at bk_Tokens_isSign_4 _ _ _).trans rfl
theorem bk_Tokens_isSign_14 : blk 26 14 = some (((cd_Tokens_isSign.lookup 14).getD ([], 0, []))) := rfl
theorem Tokens_isSign_14 (d : Nat) (h : Hp) : EX d 26 14 [] [] h = EX d 26 19 [] [.inl 1] h := (EX_at bk_Tokens_isSign_14 _ _ _).trans rfl
theorem bk_Tokens_isSign_18 : blk 26 18 = some (((cd_Tokens_isSign.lookup 18).getD ([], 0, []))) := rfl
theorem Tokens_isSign_18 (d : Nat) (h : Hp) : EX d 26 18 [] [] h = EX d 26 19 [] [.inl 0] h := (EX_at bk_Tokens_isSign_18 _ _ _).trans rfl
theorem bk_Tokens_isSign_19 : blk 26 19 = some (((cd_Tokens_isSign.lookup 19).getD ([], 0, []))) := rfl
theorem Tokens_isSign_19 (d : Nat) (s0 : Int) (h : Hp) : EX d 26 19 [] [.inl s0] h = if ((s0 : Int) = 0 ∨ (s0 : Int) = 1) then some (.inl s0, h) else none := (EX_at bk_Tokens_isSign_19 _ _ _).trans rfl
/-! step()V of HookOver$Tokens: method 27 -/
theorem bk_Tokens_step_0 : blk 27 0 = some (((cd_Tokens_step.lookup 0).getD ([], 0, []))) := rfl
theorem Tokens_step_0 (d : Nat) (a0 : Nat) (h : Hp) : EX d 27 0 [(0, .inr (.inr a0))] [] h = if sK h a0 = 6 then if sK h a0 = 6 then if (wr (hI h a0 2)) < (wr (hI h a0 1)) then EX d 27 11 [(0, .inr (.inr a0))] [] h else EX d 27 52 [(0, .inr (.inr a0))] [] h else none else none := (EX_at bk_Tokens_step_0 _ _ _).trans rfl
theorem bk_Tokens_step_11 : blk 27 11 = some (((cd_Tokens_step.lookup 11).getD ([], 0, []))) := rfl
theorem Tokens_step_11 (d : Nat) (a0 : Nat) (h : Hp) : EX d 27 11 [(0, .inr (.inr a0))] [] h = if sK h a0 = 6 then if sK h a0 = 6 then if okx h (hR h a0 0) 22 (hI h a0 2) then if (wr (hI h (hR h a0 0) (ix (hI h a0 2)))) = 32 then EX d 27 39 [(0, .inr (.inr a0))] [] h else EX d 27 25 [(0, .inr (.inr a0))] [] h else none else none else none := (EX_at bk_Tokens_step_11 _ _ _).trans rfl
theorem bk_Tokens_step_25 : blk 27 25 = some (((cd_Tokens_step.lookup 25).getD ([], 0, []))) := rfl
theorem Tokens_step_25 (d : Nat) (a0 : Nat) (h : Hp) : EX d 27 25 [(0, .inr (.inr a0))] [] h = if sK h a0 = 6 then if sK h a0 = 6 then if okx h (hR h a0 0) 22 (hI h a0 2) then if (wr (hI h (hR h a0 0) (ix (hI h a0 2)))) = 10 then EX d 27 39 [(0, .inr (.inr a0))] [] h else EX d 27 52 [(0, .inr (.inr a0))] [] h else none else none else none := (EX_at bk_Tokens_step_25 _ _ _).trans rfl
theorem bk_Tokens_step_39 : blk 27 39 = some (((cd_Tokens_step.lookup 39).getD ([], 0, []))) := rfl
theorem Tokens_step_39 (d : Nat) (a0 : Nat) (h : Hp) : EX d 27 39 [(0, .inr (.inr a0))] [] h = if sK h a0 = 6 then if sK h a0 = 6 then EX d 27 49 [(0, .inr (.inr a0))] [] (pI h a0 2 ((hI h a0 2) + 1)) else none else none := (EX_at bk_Tokens_step_39 _ _ _).trans rfl
theorem bk_Tokens_step_49 : blk 27 49 = some (((cd_Tokens_step.lookup 49).getD ([], 0, []))) := rfl
theorem Tokens_step_49 (d : Nat) (a0 : Nat) (h : Hp) : EX d 27 49 [(0, .inr (.inr a0))] [] h = EX d 27 0 [(0, .inr (.inr a0))] [] h := (EX_at bk_Tokens_step_49 _ _ _).trans rfl
theorem bk_Tokens_step_52 : blk 27 52 = some (((cd_Tokens_step.lookup 52).getD ([], 0, []))) := rfl
theorem Tokens_step_52 (d : Nat) (a0 : Nat) (h : Hp) : EX d 27 52 [(0, .inr (.inr a0))] [] h = if sK h a0 = 6 then if sK h a0 = 6 then EX d 27 60 [(0, .inr (.inr a0))] [] (pI h a0 5 (hI h a0 2)) else none else none := (EX_at bk_Tokens_step_52 _ _ _).trans rfl
theorem bk_Tokens_step_60 : blk 27 60 = some (((cd_Tokens_step.lookup 60).getD ([], 0, []))) := rfl
theorem Tokens_step_60 (d : Nat) (a0 : Nat) (h : Hp) : EX d 27 60 [(0, .inr (.inr a0))] [] h = if sK h a0 = 6 then if sK h a0 = 6 then if (wr (hI h a0 2)) < (wr (hI h a0 1)) then EX d 27 79 [(0, .inr (.inr a0))] [] h else EX d 27 71 [(0, .inr (.inr a0))] [] h else none else none := (EX_at bk_Tokens_step_60 _ _ _).trans rfl
theorem bk_Tokens_step_71 : blk 27 71 = some (((cd_Tokens_step.lookup 71).getD ([], 0, []))) := rfl
theorem Tokens_step_71 (d : Nat) (a0 : Nat) (h : Hp) : EX d 27 71 [(0, .inr (.inr a0))] [] h = if sK h a0 = 6 then EX d 27 76 [] [] (pI h a0 3 0) else none := (EX_at bk_Tokens_step_71 _ _ _).trans rfl
theorem bk_Tokens_step_76 : blk 27 76 = some (((cd_Tokens_step.lookup 76).getD ([], 0, []))) := rfl
theorem Tokens_step_76 (d : Nat) (h : Hp) : EX d 27 76 [] [] h = EX d 27 165 [] [] h := (EX_at bk_Tokens_step_76 _ _ _).trans rfl
theorem bk_Tokens_step_79 : blk 27 79 = some (((cd_Tokens_step.lookup 79).getD ([], 0, []))) := rfl
theorem Tokens_step_79 (d : Nat) (a0 : Nat) (h : Hp) : EX d 27 79 [(0, .inr (.inr a0))] [] h = if sK h a0 = 6 then if sK h a0 = 6 then if okx h (hR h a0 0) 22 (hI h a0 2) then bak (EX d 27) 91 [(0, .inr (.inr a0))] [] false (cal d 22 [.inl (hI h (hR h a0 0) (ix (hI h a0 2)))] h) else none else none else none := (EX_at bk_Tokens_step_79 _ _ _).trans rfl
theorem bk_Tokens_step_91 : blk 27 91 = some (((cd_Tokens_step.lookup 91).getD ([], 0, []))) := rfl
theorem Tokens_step_91 (d : Nat) (a0 : Nat) (s0 : Int) (h : Hp) : EX d 27 91 [(0, .inr (.inr a0))] [.inl s0] h = if (wr s0) = 0 then EX d 27 101 [(0, .inr (.inr a0))] [] h else EX d 27 94 [(0, .inr (.inr a0))] [] h := (EX_at bk_Tokens_step_91 _ _ _).trans rfl
theorem bk_Tokens_step_94 : blk 27 94 = some (((cd_Tokens_step.lookup 94).getD ([], 0, []))) := rfl
theorem Tokens_step_94 (d : Nat) (a0 : Nat) (h : Hp) : EX d 27 94 [(0, .inr (.inr a0))] [] h = if sK h a0 = 6 then bak (EX d 27) 98 [] [] true (cal d 23 [.inr (.inr a0)] h) else none := (EX_at bk_Tokens_step_94 _ _ _).trans rfl
theorem bk_Tokens_step_98 : blk 27 98 = some (((cd_Tokens_step.lookup 98).getD ([], 0, []))) := rfl
theorem Tokens_step_98 (d : Nat) (h : Hp) : EX d 27 98 [] [] h = EX d 27 165 [] [] h := (EX_at bk_Tokens_step_98 _ _ _).trans rfl
theorem bk_Tokens_step_101 : blk 27 101 = some (((cd_Tokens_step.lookup 101).getD ([], 0, []))) := rfl
theorem Tokens_step_101 (d : Nat) (a0 : Nat) (h : Hp) : EX d 27 101 [(0, .inr (.inr a0))] [] h = if sK h a0 = 6 then if sK h a0 = 6 then if okx h (hR h a0 0) 22 (hI h a0 2) then bak (EX d 27) 113 [(0, .inr (.inr a0))] [] false (cal d 24 [.inl (hI h (hR h a0 0) (ix (hI h a0 2)))] h) else none else none else none := (EX_at bk_Tokens_step_101 _ _ _).trans rfl
theorem bk_Tokens_step_113 : blk 27 113 = some (((cd_Tokens_step.lookup 113).getD ([], 0, []))) := rfl
theorem Tokens_step_113 (d : Nat) (a0 : Nat) (s0 : Int) (h : Hp) : EX d 27 113 [(0, .inr (.inr a0))] [.inl s0] h = if (wr s0) = 0 then EX d 27 123 [(0, .inr (.inr a0))] [] h else EX d 27 116 [(0, .inr (.inr a0))] [] h := (EX_at bk_Tokens_step_113 _ _ _).trans rfl
theorem bk_Tokens_step_116 : blk 27 116 = some (((cd_Tokens_step.lookup 116).getD ([], 0, []))) := rfl
theorem Tokens_step_116 (d : Nat) (a0 : Nat) (h : Hp) : EX d 27 116 [(0, .inr (.inr a0))] [] h = if sK h a0 = 6 then bak (EX d 27) 120 [] [] true (cal d 25 [.inr (.inr a0)] h) else none := (EX_at bk_Tokens_step_116 _ _ _).trans rfl
theorem bk_Tokens_step_120 : blk 27 120 = some (((cd_Tokens_step.lookup 120).getD ([], 0, []))) := rfl
theorem Tokens_step_120 (d : Nat) (h : Hp) : EX d 27 120 [] [] h = EX d 27 165 [] [] h := (EX_at bk_Tokens_step_120 _ _ _).trans rfl
theorem bk_Tokens_step_123 : blk 27 123 = some (((cd_Tokens_step.lookup 123).getD ([], 0, []))) := rfl
theorem Tokens_step_123 (d : Nat) (a0 : Nat) (h : Hp) : EX d 27 123 [(0, .inr (.inr a0))] [] h = if sK h a0 = 6 then if sK h a0 = 6 then if okx h (hR h a0 0) 22 (hI h a0 2) then bak (EX d 27) 136 [(0, .inr (.inr a0))] [.inr (.inr a0)] false (cal d 26 [.inl (hI h (hR h a0 0) (ix (hI h a0 2)))] h) else none else none else none := (EX_at bk_Tokens_step_123 _ _ _).trans rfl
theorem bk_Tokens_step_136 : blk 27 136 = some (((cd_Tokens_step.lookup 136).getD ([], 0, []))) := rfl
theorem Tokens_step_136 (d : Nat) (a0 : Nat) (r0 : Nat) (s1 : Int) (h : Hp) : EX d 27 136 [(0, .inr (.inr a0))] [.inl s1, .inr (.inr r0)] h = if (wr s1) = 0 then EX d 27 151 [(0, .inr (.inr a0))] [.inr (.inr r0)] h else EX d 27 139 [(0, .inr (.inr a0))] [.inr (.inr r0)] h := (EX_at bk_Tokens_step_136 _ _ _).trans rfl
theorem bk_Tokens_step_139 : blk 27 139 = some (((cd_Tokens_step.lookup 139).getD ([], 0, []))) := rfl
theorem Tokens_step_139 (d : Nat) (a0 : Nat) (r0 : Nat) (h : Hp) : EX d 27 139 [(0, .inr (.inr a0))] [.inr (.inr r0)] h = if sK h a0 = 6 then if sK h a0 = 6 then if okx h (hR h a0 0) 22 (hI h a0 2) then EX d 27 152 [(0, .inr (.inr a0))] [.inl (hI h (hR h a0 0) (ix (hI h a0 2))), .inr (.inr r0)] h else none else none else none := (EX_at bk_Tokens_step_139 _ _ _).trans rfl
theorem bk_Tokens_step_151 : blk 27 151 = some (((cd_Tokens_step.lookup 151).getD ([], 0, []))) := rfl
theorem Tokens_step_151 (d : Nat) (a0 : Nat) (r0 : Nat) (h : Hp) : EX d 27 151 [(0, .inr (.inr a0))] [.inr (.inr r0)] h = EX d 27 152 [(0, .inr (.inr a0))] [.inl 1, .inr (.inr r0)] h := (EX_at bk_Tokens_step_151 _ _ _).trans rfl
theorem bk_Tokens_step_152 : blk 27 152 = some (((cd_Tokens_step.lookup 152).getD ([], 0, []))) := rfl
theorem Tokens_step_152 (d : Nat) (a0 : Nat) (r0 : Nat) (s1 : Int) (h : Hp) : EX d 27 152 [(0, .inr (.inr a0))] [.inl s1, .inr (.inr r0)] h = if sK h r0 = 6 then EX d 27 155 [(0, .inr (.inr a0))] [] (pI h r0 3 s1) else none := (EX_at bk_Tokens_step_152 _ _ _).trans rfl
theorem bk_Tokens_step_155 : blk 27 155 = some (((cd_Tokens_step.lookup 155).getD ([], 0, []))) := rfl
theorem Tokens_step_155 (d : Nat) (a0 : Nat) (h : Hp) : EX d 27 155 [(0, .inr (.inr a0))] [] h = if sK h a0 = 6 then if sK h a0 = 6 then EX d 27 165 [] [] (pI h a0 2 ((hI h a0 2) + 1)) else none else none := (EX_at bk_Tokens_step_155 _ _ _).trans rfl
theorem bk_Tokens_step_165 : blk 27 165 = some (((cd_Tokens_step.lookup 165).getD ([], 0, []))) := rfl
theorem Tokens_step_165 (d : Nat) (h : Hp) : EX d 27 165 [] [] h = some (.inl 0, h) := (EX_at bk_Tokens_step_165 _ _ _).trans rfl
/-! open([BI)V of HookOver$Tokens: method 28 -/
theorem bk_Tokens_open_0 : blk 28 0 = some (((cd_Tokens_open.lookup 0).getD ([], 0, []))) := rfl
theorem Tokens_open_0 (d : Nat) (a0 : Nat) (a1 : Nat) (x2 : Int) (h : Hp) : EX d 28 0 [(0, .inr (.inr a0)), (1, .inr (.inr a1)), (2, .inl x2)] [] h = if sK h a0 = 6 then EX d 28 5 [(0, .inr (.inr a0)), (1, .inr (.inr a1)), (2, .inl x2)] [] (pR h a0 0 a1) else none := (EX_at bk_Tokens_open_0 _ _ _).trans rfl
theorem bk_Tokens_open_5 : blk 28 5 = some (((cd_Tokens_open.lookup 5).getD ([], 0, []))) := rfl
theorem Tokens_open_5 (d : Nat) (a0 : Nat) (a1 : Nat) (x2 : Int) (h : Hp) : EX d 28 5 [(0, .inr (.inr a0)), (1, .inr (.inr a1)), (2, .inl x2)] [] h = if sK h a1 = 22 then bak (EX d 28) 13 [(0, .inr (.inr a0))] [.inl 0, .inr (.inr a0)] false (cal d 20 [.inl x2, .inl (sL h a1)] h) else none := (EX_at bk_Tokens_open_5 _ _ _).trans rfl
theorem bk_Tokens_open_13 : blk 28 13 = some (((cd_Tokens_open.lookup 13).getD ([], 0, []))) := rfl
theorem Tokens_open_13 (d : Nat) (a0 : Nat) (r0 : Nat) (s1 : Int) (s2 : Int) (h : Hp) : EX d 28 13 [(0, .inr (.inr a0))] [.inl s2, .inl s1, .inr (.inr r0)] h = bak (EX d 28) 16 [(0, .inr (.inr a0))] [.inr (.inr r0)] false (cal d 21 [.inl s1, .inl s2] h) := (EX_at bk_Tokens_open_13 _ _ _).trans rfl
theorem bk_Tokens_open_16 : blk 28 16 = some (((cd_Tokens_open.lookup 16).getD ([], 0, []))) := rfl
theorem Tokens_open_16 (d : Nat) (a0 : Nat) (r0 : Nat) (s1 : Int) (h : Hp) : EX d 28 16 [(0, .inr (.inr a0))] [.inl s1, .inr (.inr r0)] h = if sK h r0 = 6 then EX d 28 19 [(0, .inr (.inr a0))] [] (pI h r0 1 s1) else none := (EX_at bk_Tokens_open_16 _ _ _).trans rfl
theorem bk_Tokens_open_19 : blk 28 19 = some (((cd_Tokens_open.lookup 19).getD ([], 0, []))) := rfl
theorem Tokens_open_19 (d : Nat) (a0 : Nat) (h : Hp) : EX d 28 19 [(0, .inr (.inr a0))] [] h = if sK h a0 = 6 then EX d 28 24 [(0, .inr (.inr a0))] [] (pI h a0 2 0) else none := (EX_at bk_Tokens_open_19 _ _ _).trans rfl
theorem bk_Tokens_open_24 : blk 28 24 = some (((cd_Tokens_open.lookup 24).getD ([], 0, []))) := rfl
theorem Tokens_open_24 (d : Nat) (a0 : Nat) (h : Hp) : EX d 28 24 [(0, .inr (.inr a0))] [] h = if sK h a0 = 6 then EX d 28 29 [(0, .inr (.inr a0))] [] (pI h a0 6 0) else none := (EX_at bk_Tokens_open_24 _ _ _).trans rfl
theorem bk_Tokens_open_29 : blk 28 29 = some (((cd_Tokens_open.lookup 29).getD ([], 0, []))) := rfl
theorem Tokens_open_29 (d : Nat) (a0 : Nat) (h : Hp) : EX d 28 29 [(0, .inr (.inr a0))] [] h = if sK h a0 = 6 then EX d 28 34 [(0, .inr (.inr a0))] [] (pI h a0 7 (-1)) else none := (EX_at bk_Tokens_open_29 _ _ _).trans rfl
theorem bk_Tokens_open_34 : blk 28 34 = some (((cd_Tokens_open.lookup 34).getD ([], 0, []))) := rfl
theorem Tokens_open_34 (d : Nat) (a0 : Nat) (h : Hp) : EX d 28 34 [(0, .inr (.inr a0))] [] h = if sK h a0 = 6 then bak (EX d 28) 38 [] [] true (cal d 27 [.inr (.inr a0)] h) else none := (EX_at bk_Tokens_open_34 _ _ _).trans rfl
theorem bk_Tokens_open_38 : blk 28 38 = some (((cd_Tokens_open.lookup 38).getD ([], 0, []))) := rfl
theorem Tokens_open_38 (d : Nat) (h : Hp) : EX d 28 38 [] [] h = some (.inl 0, h) := (EX_at bk_Tokens_open_38 _ _ _).trans rfl
/-! isSound()Z of HookOver$Tokens: method 29 -/
theorem bk_Tokens_isSound_0 : blk 29 0 = some (((cd_Tokens_isSound.lookup 0).getD ([], 0, []))) := rfl
theorem Tokens_isSound_0 (d : Nat) (a0 : Nat) (h : Hp) : EX d 29 0 [(0, .inr (.inr a0))] [] h = if sK h a0 = 6 then if (wr (hI h a0 6)) = 0 then EX d 29 7 [] [] h else EX d 29 11 [] [] h else none := (EX_at bk_Tokens_isSound_0 _ _ _).trans rfl
theorem bk_Tokens_isSound_7 : blk 29 7 = some (((cd_Tokens_isSound.lookup 7).getD ([], 0, []))) := rfl
theorem Tokens_isSound_7 (d : Nat) (h : Hp) : EX d 29 7 [] [] h = EX d 29 12 [] [.inl 1] h := (EX_at bk_Tokens_isSound_7 _ _ _).trans rfl
theorem bk_Tokens_isSound_11 : blk 29 11 = some (((cd_Tokens_isSound.lookup 11).getD ([], 0, []))) := rfl
theorem Tokens_isSound_11 (d : Nat) (h : Hp) : EX d 29 11 [] [] h = EX d 29 12 [] [.inl 0] h := (EX_at bk_Tokens_isSound_11 _ _ _).trans rfl
theorem bk_Tokens_isSound_12 : blk 29 12 = some (((cd_Tokens_isSound.lookup 12).getD ([], 0, []))) := rfl
theorem Tokens_isSound_12 (d : Nat) (s0 : Int) (h : Hp) : EX d 29 12 [] [.inl s0] h = if ((s0 : Int) = 0 ∨ (s0 : Int) = 1) then some (.inl s0, h) else none := (EX_at bk_Tokens_isSound_12 _ _ _).trans rfl
/-! failAt(II)V of HookOver$Tokens: method 31 -/
theorem bk_Tokens_failAt_0 : blk 31 0 = some (((cd_Tokens_failAt.lookup 0).getD ([], 0, []))) := rfl
theorem Tokens_failAt_0 (d : Nat) (a0 : Nat) (x1 : Int) (x2 : Int) (h : Hp) : EX d 31 0 [(0, .inr (.inr a0)), (1, .inl x1), (2, .inl x2)] [] h = if sK h a0 = 6 then if (wr (hI h a0 6)) = 0 then EX d 31 7 [(0, .inr (.inr a0)), (1, .inl x1), (2, .inl x2)] [] h else EX d 31 17 [] [] h else none := (EX_at bk_Tokens_failAt_0 _ _ _).trans rfl
theorem bk_Tokens_failAt_7 : blk 31 7 = some (((cd_Tokens_failAt.lookup 7).getD ([], 0, []))) := rfl
theorem Tokens_failAt_7 (d : Nat) (a0 : Nat) (x1 : Int) (x2 : Int) (h : Hp) : EX d 31 7 [(0, .inr (.inr a0)), (1, .inl x1), (2, .inl x2)] [] h = if sK h a0 = 6 then EX d 31 12 [(0, .inr (.inr a0)), (1, .inl x1)] [] (pI h a0 6 x2) else none := (EX_at bk_Tokens_failAt_7 _ _ _).trans rfl
theorem bk_Tokens_failAt_12 : blk 31 12 = some (((cd_Tokens_failAt.lookup 12).getD ([], 0, []))) := rfl
theorem Tokens_failAt_12 (d : Nat) (a0 : Nat) (x1 : Int) (h : Hp) : EX d 31 12 [(0, .inr (.inr a0)), (1, .inl x1)] [] h = if sK h a0 = 6 then EX d 31 17 [] [] (pI h a0 7 x1) else none := (EX_at bk_Tokens_failAt_12 _ _ _).trans rfl
theorem bk_Tokens_failAt_17 : blk 31 17 = some (((cd_Tokens_failAt.lookup 17).getD ([], 0, []))) := rfl
theorem Tokens_failAt_17 (d : Nat) (h : Hp) : EX d 31 17 [] [] h = some (.inl 0, h) := (EX_at bk_Tokens_failAt_17 _ _ _).trans rfl
/-! refuse()V of HookOver$Tokens: method 32 -/
theorem bk_Tokens_refuse_0 : blk 32 0 = some (((cd_Tokens_refuse.lookup 0).getD ([], 0, []))) := rfl
theorem Tokens_refuse_0 (d : Nat) (a0 : Nat) (h : Hp) : EX d 32 0 [(0, .inr (.inr a0))] [] h = if sK h a0 = 6 then if sK h a0 = 6 then if (wr (hI h a0 3)) = 1 then EX d 32 13 [] [.inl (hI h a0 5), .inr (.inr a0)] h else EX d 32 17 [] [.inl (hI h a0 5), .inr (.inr a0)] h else none else none := (EX_at bk_Tokens_refuse_0 _ _ _).trans rfl
theorem bk_Tokens_refuse_13 : blk 32 13 = some (((cd_Tokens_refuse.lookup 13).getD ([], 0, []))) := rfl
theorem Tokens_refuse_13 (d : Nat) (r0 : Nat) (s1 : Int) (h : Hp) : EX d 32 13 [] [.inl s1, .inr (.inr r0)] h = EX d 32 18 [] [.inl 1, .inl s1, .inr (.inr r0)] h := (EX_at bk_Tokens_refuse_13 _ _ _).trans rfl
theorem bk_Tokens_refuse_17 : blk 32 17 = some (((cd_Tokens_refuse.lookup 17).getD ([], 0, []))) := rfl
theorem Tokens_refuse_17 (d : Nat) (r0 : Nat) (s1 : Int) (h : Hp) : EX d 32 17 [] [.inl s1, .inr (.inr r0)] h = EX d 32 18 [] [.inl 2, .inl s1, .inr (.inr r0)] h := (EX_at bk_Tokens_refuse_17 _ _ _).trans rfl
theorem bk_Tokens_refuse_18 : blk 32 18 = some (((cd_Tokens_refuse.lookup 18).getD ([], 0, []))) := rfl
theorem Tokens_refuse_18 (d : Nat) (r0 : Nat) (s1 : Int) (s2 : Int) (h : Hp) : EX d 32 18 [] [.inl s2, .inl s1, .inr (.inr r0)] h = if sK h r0 = 6 then bak (EX d 32) 21 [] [] true (cal d 31 [.inr (.inr r0), .inl s1, .inl s2] h) else none := (EX_at bk_Tokens_refuse_18 _ _ _).trans rfl
theorem bk_Tokens_refuse_21 : blk 32 21 = some (((cd_Tokens_refuse.lookup 21).getD ([], 0, []))) := rfl
theorem Tokens_refuse_21 (d : Nat) (h : Hp) : EX d 32 21 [] [] h = some (.inl 0, h) := (EX_at bk_Tokens_refuse_21 _ _ _).trans rfl
/-! passNumber(II)I of HookOver$Tokens: method 33 -/
theorem bk_Tokens_passNumber_0 : blk 33 0 = some (((cd_Tokens_passNumber.lookup 0).getD ([], 0, []))) := rfl
theorem Tokens_passNumber_0 (d : Nat) (a0 : Nat) (x1 : Int) (x2 : Int) (h : Hp) : EX d 33 0 [(0, .inr (.inr a0)), (1, .inl x1), (2, .inl x2)] [] h = if sK h a0 = 6 then if sK h a0 = 6 then if (wr (hI h a0 3)) = 2 then EX d 33 19 [(0, .inr (.inr a0)), (1, .inl x1), (2, .inl x2), (3, .inl (hI h a0 4))] [] h else EX d 33 13 [(0, .inr (.inr a0)), (1, .inl x1)] [] h else none else none := (EX_at bk_Tokens_passNumber_0 _ _ _).trans rfl
theorem bk_Tokens_passNumber_13 : blk 33 13 = some (((cd_Tokens_passNumber.lookup 13).getD ([], 0, []))) := rfl
theorem Tokens_passNumber_13 (d : Nat) (a0 : Nat) (x1 : Int) (h : Hp) : EX d 33 13 [(0, .inr (.inr a0)), (1, .inl x1)] [] h = if sK h a0 = 6 then bak (EX d 33) 17 [(1, .inl x1)] [] true (cal d 32 [.inr (.inr a0)] h) else none := (EX_at bk_Tokens_passNumber_13 _ _ _).trans rfl
theorem bk_Tokens_passNumber_17 : blk 33 17 = some (((cd_Tokens_passNumber.lookup 17).getD ([], 0, []))) := rfl
theorem Tokens_passNumber_17 (d : Nat) (x1 : Int) (h : Hp) : EX d 33 17 [(1, .inl x1)] [] h = some (.inl x1, h) := (EX_at bk_Tokens_passNumber_17 _ _ _).trans rfl
theorem bk_Tokens_passNumber_19 : blk 33 19 = some (((cd_Tokens_passNumber.lookup 19).getD ([], 0, []))) := rfl
theorem Tokens_passNumber_19 (d : Nat) (a0 : Nat) (x1 : Int) (x2 : Int) (x3 : Int) (h : Hp) : EX d 33 19 [(0, .inr (.inr a0)), (1, .inl x1), (2, .inl x2), (3, .inl x3)] [] h = if (wr x3) < (wr x1) then EX d 33 29 [(0, .inr (.inr a0)), (1, .inl x1)] [] h else EX d 33 24 [(0, .inr (.inr a0)), (1, .inl x1), (2, .inl x2), (3, .inl x3)] [] h := (EX_at bk_Tokens_passNumber_19 _ _ _).trans rfl
theorem bk_Tokens_passNumber_24 : blk 33 24 = some (((cd_Tokens_passNumber.lookup 24).getD ([], 0, []))) := rfl
theorem Tokens_passNumber_24 (d : Nat) (a0 : Nat) (x1 : Int) (x2 : Int) (x3 : Int) (h : Hp) : EX d 33 24 [(0, .inr (.inr a0)), (1, .inl x1), (2, .inl x2), (3, .inl x3)] [] h = if (wr x2) < (wr x3) then EX d 33 29 [(0, .inr (.inr a0)), (1, .inl x1)] [] h else EX d 33 40 [(0, .inr (.inr a0)), (3, .inl x3)] [] h := (EX_at bk_Tokens_passNumber_24 _ _ _).trans rfl
theorem bk_Tokens_passNumber_29 : blk 33 29 = some (((cd_Tokens_passNumber.lookup 29).getD ([], 0, []))) := rfl
theorem Tokens_passNumber_29 (d : Nat) (a0 : Nat) (x1 : Int) (h : Hp) : EX d 33 29 [(0, .inr (.inr a0)), (1, .inl x1)] [] h = if sK h a0 = 6 then if sK h a0 = 6 then bak (EX d 33) 38 [(1, .inl x1)] [] true (cal d 31 [.inr (.inr a0), .inl (hI h a0 5), .inl 3] h) else none else none := (EX_at bk_Tokens_passNumber_29 _ _ _).trans rfl
theorem bk_Tokens_passNumber_38 : blk 33 38 = some (((cd_Tokens_passNumber.lookup 38).getD ([], 0, []))) := rfl
theorem Tokens_passNumber_38 (d : Nat) (x1 : Int) (h : Hp) : EX d 33 38 [(1, .inl x1)] [] h = some (.inl x1, h) := (EX_at bk_Tokens_passNumber_38 _ _ _).trans rfl
theorem bk_Tokens_passNumber_40 : blk 33 40 = some (((cd_Tokens_passNumber.lookup 40).getD ([], 0, []))) := rfl
theorem Tokens_passNumber_40 (d : Nat) (a0 : Nat) (x3 : Int) (h : Hp) : EX d 33 40 [(0, .inr (.inr a0)), (3, .inl x3)] [] h = if sK h a0 = 6 then bak (EX d 33) 44 [(3, .inl x3)] [] true (cal d 27 [.inr (.inr a0)] h) else none := (EX_at bk_Tokens_passNumber_40 _ _ _).trans rfl
theorem bk_Tokens_passNumber_44 : blk 33 44 = some (((cd_Tokens_passNumber.lookup 44).getD ([], 0, []))) := rfl
theorem Tokens_passNumber_44 (d : Nat) (x3 : Int) (h : Hp) : EX d 33 44 [(3, .inl x3)] [] h = some (.inl x3, h) := (EX_at bk_Tokens_passNumber_44 _ _ _).trans rfl
/-! pass(I)V of HookOver$Tokens: method 35 -/
theorem bk_Tokens_pass_0 : blk 35 0 = some (((cd_Tokens_pass.lookup 0).getD ([], 0, []))) := rfl
theorem Tokens_pass_0 (d : Nat) (a0 : Nat) (x1 : Int) (h : Hp) : EX d 35 0 [(0, .inr (.inr a0)), (1, .inl x1)] [] h = if sK h a0 = 6 then if (wr (hI h a0 3)) = (wr x1) then EX d 35 8 [(0, .inr (.inr a0))] [] h else EX d 35 15 [(0, .inr (.inr a0))] [] h else none := (EX_at bk_Tokens_pass_0 _ _ _).trans rfl
theorem bk_Tokens_pass_8 : blk 35 8 = some (((cd_Tokens_pass.lookup 8).getD ([], 0, []))) := rfl
theorem Tokens_pass_8 (d : Nat) (a0 : Nat) (h : Hp) : EX d 35 8 [(0, .inr (.inr a0))] [] h = if sK h a0 = 6 then bak (EX d 35) 12 [] [] true (cal d 27 [.inr (.inr a0)] h) else none := (EX_at bk_Tokens_pass_8 _ _ _).trans rfl
theorem bk_Tokens_pass_12 : blk 35 12 = some (((cd_Tokens_pass.lookup 12).getD ([], 0, []))) := rfl
theorem Tokens_pass_12 (d : Nat) (h : Hp) : EX d 35 12 [] [] h = EX d 35 19 [] [] h := (EX_at bk_Tokens_pass_12 _ _ _).trans rfl
theorem bk_Tokens_pass_15 : blk 35 15 = some (((cd_Tokens_pass.lookup 15).getD ([], 0, []))) := rfl
theorem Tokens_pass_15 (d : Nat) (a0 : Nat) (h : Hp) : EX d 35 15 [(0, .inr (.inr a0))] [] h = if sK h a0 = 6 then bak (EX d 35) 19 [] [] true (cal d 32 [.inr (.inr a0)] h) else none := (EX_at bk_Tokens_pass_15 _ _ _).trans rfl
theorem bk_Tokens_pass_19 : blk 35 19 = some (((cd_Tokens_pass.lookup 19).getD ([], 0, []))) := rfl
theorem Tokens_pass_19 (d : Nat) (h : Hp) : EX d 35 19 [] [] h = some (.inl 0, h) := (EX_at bk_Tokens_pass_19 _ _ _).trans rfl
