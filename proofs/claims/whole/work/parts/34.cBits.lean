/-! bits -/
theorem oi_nI (n : Nat) : Int32.ofInt (n : Int) = nI n := Int32.ofInt_eq_ofNat
theorem ush_k : ∀ x, x < 32 → (((nI x).toUInt32 &&& Int32.toUInt32 31).toBitVec % 32).toNat = x := by decide +kernel
theorem bUshr_nat {b x : Nat} (hb : b < 2147483648) (hx : x < 32) : bUshr (b : Int) (x : Int) = ((b / 2 ^ x : Nat) : Int) := by
  unfold bUshr
  have h1 : b / 2 ^ x ≤ b := Nat.div_le_self _ _
  rw [oi_nI, oi_nI, pk_ushrN (by omega) (nI x) x (ush_k x hx), nI_toInt (by omega)]
theorem bAnd_1 {b : Nat} (hb : b < 2147483648) : bAnd (b : Int) 1 = ((b % 2 : Nat) : Int) := by
  unfold bAnd
  rw [oi_nI, pk_andN (by omega) 1 (by decide +kernel), nI_toInt (by omega)]
/-- bit x of b -/
theorem bit_s {b x : Nat} (hb : b < 2147483648) (hx : x < 32) : bAnd (bUshr (b : Int) (x : Int)) 1 = ((b / 2 ^ x % 2 : Nat) : Int) := by
  have h1 : b / 2 ^ x ≤ b := Nat.div_le_self _ _
  rw [bUshr_nat hb hx, bAnd_1 (by omega)]
theorem isBroken_s {d w b r : Nat} {h : Hp} (hw : sK h w = 9) (hb : hI h w 7 = (b : Int)) (hb2 : b < 2147483648) (hr : r < 32) : cal (d + 1) m_Window_isBroken [.inr (.inr w), .inl (r : Int)] h = some (.inl (if b / 2 ^ r % 2 = 0 then 0 else 1), h) := by
  show EX d m_Window_isBroken 0 [(0, .inr (.inr w)), (1, .inl (r : Int))] [] h = _
  simp only [Window_isBroken_0, Window_isBroken_11, Window_isBroken_15, Window_isBroken_16, hw, if_true, hb, bit_s hb2 hr]
  rw [wrn (by omega)]
  have : b / 2 ^ r % 2 = 0 ∨ b / 2 ^ r % 2 = 1 := by omega
  rcases this with h1 | h1 <;> simp [h1]
