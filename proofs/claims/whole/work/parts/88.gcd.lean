/-! the greatest common divisor, both sides -/
def gE : Nat → Int → Int → Int
  | 0, a, _ => a
  | f + 1, a, b => if b = 0 then a else gE f b (a % b)
/-- it ends within f steps -/
def gSt : Nat → Int → Int → Prop
  | 0, _, _ => False
  | f + 1, a, b => b = 0 ∨ gSt f b (a % b)
theorem gE_gcd : ∀ (f : Nat) (a b : Int), 0 ≤ a → 0 ≤ b → gSt f a b → gE f a b = ((a.toNat.gcd b.toNat : Nat) : Int) := by
  intro f
  induction f with
  | zero => intro a b _ _ h; exact absurd h (by simp [gSt])
  | succ f ih =>
    intro a b ha hb h
    simp only [gE]
    by_cases c : b = 0
    · rw [if_pos c, c, show (0 : Int).toNat = 0 from rfl, Nat.gcd_zero_right]
      omega
    · rw [if_neg c]
      have h' : gSt f b (a % b) := by
        rcases h with q | q
        · exact absurd q c
        · exact q
      rw [ih b (a % b) hb (Int.emod_nonneg _ c) h', Int.toNat_emod ha hb]
      congr 1
      rw [Nat.gcd_comm a.toNat b.toNat, Nat.gcd_rec b.toNat a.toNat, Nat.gcd_comm]
theorem emod_half {b r : Int} (h0 : 0 < r) (h1 : r < b) : b % r ≤ b - r := by
  have e := Int.emod_add_mul_ediv b r
  have q : 1 ≤ b / r := Int.le_ediv_of_mul_le h0 (by omega)
  have m : r * 1 ≤ r * (b / r) := Int.mul_le_mul_of_nonneg_left q (by omega)
  omega
theorem gSt_ok : ∀ (k : Nat) (a b : Int), 0 ≤ a → 0 ≤ b → b < 2 ^ k → gSt (2 * k + 1) a b := by
  intro k
  induction k with
  | zero => intro a b _ hb h; simp at h; exact Or.inl (by omega)
  | succ k ih =>
    intro a b ha hb h
    show b = 0 ∨ (a % b = 0 ∨ gSt (2 * k + 1) (a % b) (b % (a % b)))
    by_cases c : b = 0
    · exact Or.inl c
    · refine Or.inr ?_
      have r0 : 0 ≤ a % b := Int.emod_nonneg _ c
      have r1 : a % b < b := Int.emod_lt_of_pos _ (by omega)
      by_cases c2 : a % b = 0
      · exact Or.inl c2
      · refine Or.inr ?_
        have s0 : 0 ≤ b % (a % b) := Int.emod_nonneg _ c2
        have s1 : b % (a % b) < a % b := Int.emod_lt_of_pos _ (by omega)
        have s2 : b % (a % b) ≤ b - a % b := emod_half (by omega) r1
        refine ih (a % b) (b % (a % b)) r0 s0 ?_
        have : (2 : Int) ^ (k + 1) = 2 ^ k * 2 := Int.pow_succ _ _
        omega
theorem lRem_e {a b : Int} (ha : 0 ≤ a ∧ a ≤ 9223372036854775807) (hb : 0 ≤ b ∧ b ≤ 9223372036854775807) : lRem a b = a % b := by
  unfold lRem
  rw [wl_id (by omega) (by omega), wl_id (by omega) (by omega), Int.tmod_eq_emod_of_nonneg ha.1]
theorem lDiv_e {a b : Int} (ha : 0 ≤ a ∧ a ≤ 9223372036854775807) (hb : 0 ≤ b ∧ b ≤ 9223372036854775807) : lDiv a b = a / b := by
  unfold lDiv
  rw [wl_id (by omega) (by omega), wl_id (by omega) (by omega), Int.tdiv_eq_ediv_of_nonneg ha.1]
theorem m_common_f {h : Hp} : ∀ (f d : Nat) (a b : Int), (0 ≤ a ∧ a ≤ 9223372036854775807) → (0 ≤ b ∧ b ≤ 9223372036854775807) → gSt f a b → cal (d+f) m_Mod_common [.inr (.inl (a)), .inr (.inl (b))] (h) = some (.inr (.inl (gE f a b)), h) := by
  intro f
  induction f with
  | zero => intro d a b _ _ h; exact absurd h (by simp [gSt])
  | succ f ih =>
    intro d a b ha hb hs
    show EX (d+f) m_Mod_common 0 [(0, .inr (.inl (a))), (2, .inr (.inl (b)))] [] (h) = _
    simp only [gE]
    by_cases c : b = 0
    · rw [if_pos c]
      simp (disch := omega) only [Mod_common_0, Mod_common_6, Mod_common_17, wr_id, ix_id, okx, if_pos, if_neg, Int.toNat_of_nonneg, bak_v, bak_n, wr_b01, wr_bt, b01_or, b01_0, b01_1, lc_lt0, lc_gt0, lc_eq0, wl_wr, wr_wr, wl_id, true_and, and_true, true_or, or_true, not_true_eq_false, not_false_eq_true, nc0, nc1, nc2, nc3, nc4, nc5, nc6, nc7, nc8, nc9, nc10, nc11, nc12, nc13, nc14, nc15, nc16, nc17, nc18, nc19, nc20, nc21, nc22, nc23, nc35, nc47, nc59, nc60, nc61, nc73, nc74, nc214, nc215, nc1115, nc2230, nc3345, if_true, if_false, Int.reduceToNat]
    · have hs' : gSt f b (a % b) := by
        rcases hs with q | q
        · exact absurd q c
        · exact q
      have r0 : 0 ≤ a % b := Int.emod_nonneg _ c
      have r1 : a % b < b := Int.emod_lt_of_pos _ (by omega)
      have e := ih d b (a % b) hb (by omega) hs'
      rw [if_neg c]
      simp (disch := omega) only [Mod_common_0, Mod_common_10, Mod_common_17, wr_id, ix_id, okx, if_pos, if_neg, Int.toNat_of_nonneg, bak_v, bak_n, wr_b01, wr_bt, b01_or, b01_0, b01_1, lc_lt0, lc_gt0, lc_eq0, wl_wr, wr_wr, wl_id, true_and, and_true, true_or, or_true, not_true_eq_false, not_false_eq_true, nc0, nc1, nc2, nc3, nc4, nc5, nc6, nc7, nc8, nc9, nc10, nc11, nc12, nc13, nc14, nc15, nc16, nc17, nc18, nc19, nc20, nc21, nc22, nc23, nc35, nc47, nc59, nc60, nc61, nc73, nc74, nc214, nc215, nc1115, nc2230, nc3345, if_true, if_false, Int.reduceToNat, lRem_e, e]
theorem c_common_f {d : Nat} {h : Hp} : ∀ (f : Nat) (a b i : Int), (0 ≤ a ∧ a ≤ 9223372036854775807) → (0 ≤ b ∧ b ≤ 9223372036854775807) → (0 ≤ i ∧ i + f ≤ 200) → gSt f a b → EX (d) m_Reckoner_commonDivisor 9 [(4, .inr (.inl (a))), (6, .inr (.inl (b))), (8, .inl (i))] [] (h) = some (.inr (.inl (gE f a b)), h) := by
  intro f
  induction f with
  | zero => intro a b i _ _ _ h; exact absurd h (by simp [gSt])
  | succ f ih =>
    intro a b i ha hb hi hs
    rw [Reckoner_commonDivisor_9]
    simp only [gE]
    by_cases c : b = 0
    · rw [if_pos c]
      simp (disch := omega) only [Reckoner_commonDivisor_17, Reckoner_commonDivisor_45, wr_id, ix_id, okx, if_pos, if_neg, Int.toNat_of_nonneg, bak_v, bak_n, wr_b01, wr_bt, b01_or, b01_0, b01_1, lc_lt0, lc_gt0, lc_eq0, wl_wr, wr_wr, wl_id, true_and, and_true, true_or, or_true, not_true_eq_false, not_false_eq_true, nc0, nc1, nc2, nc3, nc4, nc5, nc6, nc7, nc8, nc9, nc10, nc11, nc12, nc13, nc14, nc15, nc16, nc17, nc18, nc19, nc20, nc21, nc22, nc23, nc35, nc47, nc59, nc60, nc61, nc73, nc74, nc214, nc215, nc1115, nc2230, nc3345, if_true, if_false, Int.reduceToNat]
    · have hs' : gSt f b (a % b) := by
        rcases hs with q | q
        · exact absurd q c
        · exact q
      have r0 : 0 ≤ a % b := Int.emod_nonneg _ c
      have r1 : a % b < b := Int.emod_lt_of_pos _ (by omega)
      have e := ih b (a % b) (i + 1) hb (by omega) (by omega) hs'
      rw [if_neg c]
      simp (disch := omega) only [Reckoner_commonDivisor_17, Reckoner_commonDivisor_24, wr_id, ix_id, okx, if_pos, if_neg, Int.toNat_of_nonneg, bak_v, bak_n, wr_b01, wr_bt, b01_or, b01_0, b01_1, lc_lt0, lc_gt0, lc_eq0, wl_wr, wr_wr, wl_id, true_and, and_true, true_or, or_true, not_true_eq_false, not_false_eq_true, nc0, nc1, nc2, nc3, nc4, nc5, nc6, nc7, nc8, nc9, nc10, nc11, nc12, nc13, nc14, nc15, nc16, nc17, nc18, nc19, nc20, nc21, nc22, nc23, nc35, nc47, nc59, nc60, nc61, nc73, nc74, nc214, nc215, nc1115, nc2230, nc3345, if_true, if_false, Int.reduceToNat, lRem_e]
      exact e
