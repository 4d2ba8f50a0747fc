/-! bits of ints and longs; truth values -/
def bt (z k : Int) : Int := z / 2 ^ k.toNat % 2
theorem oi_mod (a : Int) : Int32.ofInt a = nI (a % 4294967296).toNat := by
  rw [← oi_nI, oi_eq, Int.toNat_of_nonneg (Int.emod_nonneg _ (by decide))]
  unfold wr
  exact (Int.emod_bmod a 4294967296).symm
theorem pow_pos2 (x : Nat) : (0 : Int) < 2 ^ x := Int.pow_pos (by decide)
theorem bt_mod (a : Int) (x m : Nat) (hx : x < m) : a % 2 ^ m / 2 ^ x % 2 = a / 2 ^ x % 2 := by
  have e2 : (2 : Int) ^ m = 2 ^ (m - 1 - x) * 2 * 2 ^ x := by
    rw [show (2 : Int) ^ (m - 1 - x) * 2 = 2 ^ (m - 1 - x + 1) from (Int.pow_succ _ _).symm, ← Int.pow_add]
    congr 1
    omega
  have e : a = a % 2 ^ m + (a / 2 ^ m * (2 ^ (m - 1 - x) * 2)) * 2 ^ x := by
    rw [Int.mul_assoc, ← e2, Int.mul_comm, Int.emod_add_mul_ediv]
  conv => rhs; rw [e]
  rw [Int.add_mul_ediv_right _ _ (Int.ne_of_gt (pow_pos2 x)), ← Int.mul_assoc, Int.add_mul_emod_self_right]
theorem bt_s {a k : Int} (h0 : 0 ≤ k) (h1 : k < 32) : bAnd (bUshr a k) 1 = bt a k := by
  obtain ⟨x, rfl⟩ := Int.eq_ofNat_of_zero_le h0
  unfold bAnd bUshr bt
  have hn : (a % 4294967296).toNat < 4294967296 := by omega
  have h2 : (a % 4294967296).toNat / 2 ^ x ≤ (a % 4294967296).toNat := Nat.div_le_self _ _
  have h3 : (a % 4294967296).toNat / 2 ^ x % 2 ^ 1 < 2 := Nat.mod_lt _ (by decide)
  rw [oi_self, oi_mod a, oi_nI, pk_ushrN (by omega) (nI x) x (ush_k x (by omega)), show Int32.ofInt 1 = 1 from rfl, pk_andN (by omega) 1 (by decide +kernel), nI_toInt (by omega)]
  have h4 := bt_mod a x 32 (by omega)
  rw [Int.toNat_natCast, ← h4]
  have h5 : ((a % 4294967296).toNat : Int) = a % 2 ^ 32 := Int.toNat_of_nonneg (Int.emod_nonneg _ (by decide))
  rw [← h5]
  generalize (a % 4294967296).toNat = n
  rw [Nat.pow_one, Int.natCast_emod, Int.natCast_ediv, Int.natCast_pow]
  rfl
theorem shr_k : ∀ x, x < 64 → (((nI x).toInt64 &&& 63).toBitVec.smod 64).toNat = x := by decide +kernel
theorem lShr_s {y k : Int} (h0 : 0 ≤ k) (h1 : k < 64) : lShr y k = wl y / 2 ^ k.toNat := by
  obtain ⟨x, rfl⟩ := Int.eq_ofNat_of_zero_le h0
  unfold lShr
  rw [oi_nI]
  show ((Int64.ofInt y).toBitVec.sshiftRight (((nI x).toInt64 &&& 63).toBitVec.smod 64).toNat).toInt = _
  rw [shr_k x (by omega), BitVec.toInt_sshiftRight, Int.shiftRight_eq_div_pow, Int.toNat_natCast, ← ol_toInt]
  norm_cast
theorem lAnd_1 (y : Int) : lAnd y 1 = y % 2 := by
  unfold lAnd
  have e : (Int64.ofInt y &&& Int64.ofInt 1).toBitVec.toNat = (y % 2).toNat := by
    rw [Int64.toBitVec_and, BitVec.toNat_and]
    have e1 : (Int64.ofInt y).toBitVec.toNat = (y % 18446744073709551616).toNat := BitVec.toNat_ofInt ..
    have e2 : (Int64.ofInt 1).toBitVec.toNat = 2 ^ 1 - 1 := by decide +kernel
    rw [e1, e2, Nat.and_two_pow_sub_one_eq_mod]
    omega
  show (Int64.ofInt y &&& Int64.ofInt 1).toBitVec.toInt = _
  rw [BitVec.toInt_eq_toNat_of_lt (by rw [e]; omega), e]
  omega
theorem ltb_s {y k : Int} (h0 : 0 ≤ k) (h1 : k < 64) : lAnd (lShr y k) 1 = bt y k := by
  rw [lShr_s h0 h1, lAnd_1]
  obtain ⟨x, rfl⟩ := Int.eq_ofNat_of_zero_le h0
  unfold bt
  rw [Int.toNat_natCast]
  have h2 := bt_mod y x 64 (by omega)
  have h3 := bt_mod (wl y) x 64 (by omega)
  have h4 : wl y % 2 ^ 64 = y % 2 ^ 64 := by
    unfold wl
    exact Int.bmod_emod
  rw [← h3, h4, h2]
theorem bt_01 (z k : Int) : bt z k = 0 ∨ bt z k = 1 := by
  unfold bt
  omega
theorem bt_wr {z k : Int} (h0 : 0 ≤ k) (h1 : k < 32) : bt (wr z) k = bt z k := by
  obtain ⟨x, rfl⟩ := Int.eq_ofNat_of_zero_le h0
  unfold bt
  rw [Int.toNat_natCast]
  have h2 := bt_mod z x 32 (by omega)
  have h3 := bt_mod (wr z) x 32 (by omega)
  have h4 : wr z % 2 ^ 32 = z % 2 ^ 32 := by
    unfold wr
    exact Int.bmod_emod
  rw [← h3, h4, h2]
/-- a truth value as an int -/
def b01 (p : Prop) [Decidable p] : Int := if p then 1 else 0
theorem b01_or (p : Prop) [Decidable p] : (b01 p = 0 ∨ b01 p = 1) = True := by
  unfold b01
  split <;> simp
theorem wr_b01 (p : Prop) [Decidable p] : wr (b01 p) = b01 p := by
  unfold b01
  split <;> rfl
theorem b01_0 (p : Prop) [Decidable p] : (b01 p = 0) = ¬ p := by
  unfold b01
  split <;> simp_all
theorem b01_1 (p : Prop) [Decidable p] : (b01 p = 1) = p := by
  unfold b01
  split <;> simp_all
theorem wr_rng (z : Int) : -2147483648 ≤ wr z ∧ wr z ≤ 2147483647 := by
  unfold wr
  have h1 := Int.le_bmod (x := z) (m := 4294967296) (by decide)
  have h2 := Int.bmod_lt (x := z) (m := 4294967296) (by decide)
  omega
theorem wl_wr (z : Int) : wl (wr z) = wr z := wl_id (by have := wr_rng z; omega) (by have := wr_rng z; omega)
theorem wr_wr (z : Int) : wr (wr z) = wr z := wr_id (by have := wr_rng z; omega) (by have := wr_rng z; omega)
theorem lc_lt0 (a b : Int) : (wr (lCmp a b) < 0) = (wl a < wl b) := by
  rcases lCmp_cases a b with ⟨h1, h2⟩ | ⟨h1, h2⟩ | ⟨h1, h2⟩ <;> rw [h2] <;> simp <;> omega
theorem lc_gt0 (a b : Int) : (0 < wr (lCmp a b)) = (wl b < wl a) := by
  rcases lCmp_cases a b with ⟨h1, h2⟩ | ⟨h1, h2⟩ | ⟨h1, h2⟩ <;> rw [h2] <;> simp <;> omega
theorem lc_eq0 (a b : Int) : (wr (lCmp a b) = 0) = (wl a = wl b) := by
  rcases lCmp_cases a b with ⟨h1, h2⟩ | ⟨h1, h2⟩ | ⟨h1, h2⟩ <;> rw [h2] <;> simp <;> omega
