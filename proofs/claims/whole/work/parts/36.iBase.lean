/-! whole numbers as indices: loops, sums, searches -/
theorem up_ind {P : Int → Prop} {hi : Int} (base : ∀ i, hi ≤ i → P i) (step : ∀ i, i < hi → P (i + 1) → P i) : ∀ i, P i := by
  intro i
  generalize hn : (hi - i).toNat = n
  induction n generalizing i with
  | zero => exact base i (by omega)
  | succ n ih =>
    by_cases hc : hi ≤ i
    · exact base i hc
    · exact step i (by omega) (ih (i + 1) (by omega))
theorem dn_ind {P : Int → Prop} {lo : Int} (base : ∀ i, i < lo → P i) (step : ∀ i, lo ≤ i → P (i - 1) → P i) : ∀ i, P i := by
  intro i
  generalize hn : (i - lo + 1).toNat = n
  induction n generalizing i with
  | zero => exact base i (by omega)
  | succ n ih =>
    by_cases hc : i < lo
    · exact base i hc
    · exact step i (by omega) (ih (i - 1) (by omega))
def smN (f : Int → Int) : Nat → Int → Int
  | 0, _ => 0
  | n + 1, i => f i + smN f n (i + 1)
def sm (f : Int → Int) (i N : Int) : Int := smN f (N - i).toNat i
theorem sm_stop {f : Int → Int} {i N : Int} (h : N ≤ i) : sm f i N = 0 := by
  unfold sm
  rw [show (N - i).toNat = 0 by omega]
  rfl
theorem sm_step {f : Int → Int} {i N : Int} (h : i < N) : sm f i N = f i + sm f (i + 1) N := by
  unfold sm
  rw [show (N - i).toNat = (N - (i + 1)).toNat + 1 by omega]
  rfl
theorem sm_congr {f g : Int → Int} {N : Int} : ∀ i, (∀ j, i ≤ j → j < N → f j = g j) → sm f i N = sm g i N := by
  refine up_ind (hi := N) ?_ ?_
  · intro i hi _
    rw [sm_stop hi, sm_stop hi]
  · intro i hi ih h
    rw [sm_step hi, sm_step hi, h i (by omega) hi, ih (fun j h1 h2 => h j (by omega) h2)]
theorem sm_split {f : Int → Int} {M N : Int} (hMN : M ≤ N) : ∀ i, i ≤ M → sm f i N = sm f i M + sm f M N := by
  refine up_ind (hi := M) ?_ ?_
  · intro i h1 h2
    rw [show i = M by omega, sm_stop (Int.le_refl M)]
    omega
  · intro i h1 ih h2
    rw [sm_step (show i < N by omega), sm_step h1, ih (by omega)]
    omega
theorem sm_last {f : Int → Int} {i N : Int} (h : i ≤ N) : sm f i (N + 1) = sm f i N + f N := by
  rw [sm_split (show N ≤ N + 1 by omega) i h, sm_step (show N < N + 1 by omega), sm_stop (Int.le_refl _)]
  omega
theorem sm_rng {f : Int → Int} {N lo hi : Int} (hlo : lo ≤ 0) (hhi : 0 ≤ hi) : ∀ i, (∀ j, i ≤ j → j < N → lo ≤ f j ∧ f j ≤ hi) → lo * (N - i).toNat ≤ sm f i N ∧ sm f i N ≤ hi * (N - i).toNat := by
  refine up_ind (hi := N) ?_ ?_
  · intro i hi _
    rw [sm_stop hi, show (N - i).toNat = 0 by omega]
    simp
  · intro i hi ih h
    have h1 := ih (fun j h1 h2 => h j (by omega) h2)
    have h2 := h i (by omega) hi
    rw [sm_step hi, show (N - i).toNat = (N - (i + 1)).toNat + 1 by omega]
    push_cast
    rw [Int.mul_add, Int.mul_add]
    omega
def ffN (p : Int → Bool) : Nat → Int → Int
  | 0, _ => -1
  | n + 1, i => if p i = true then i else ffN p n (i + 1)
/-- the first from i on, below N, or -1 -/
def ff (p : Int → Bool) (i N : Int) : Int := ffN p (N - i).toNat i
theorem ff_stop {p : Int → Bool} {i N : Int} (h : N ≤ i) : ff p i N = -1 := by
  unfold ff
  rw [show (N - i).toNat = 0 by omega]
  rfl
theorem ff_step {p : Int → Bool} {i N : Int} (h : i < N) : ff p i N = if p i = true then i else ff p (i + 1) N := by
  unfold ff
  rw [show (N - i).toNat = (N - (i + 1)).toNat + 1 by omega]
  rfl
theorem ff_spec {p : Int → Bool} {N : Int} : ∀ i, (ff p i N = -1 ∧ ∀ j, i ≤ j → j < N → p j = false) ∨ (i ≤ ff p i N ∧ ff p i N < N ∧ p (ff p i N) = true ∧ ∀ j, i ≤ j → j < ff p i N → p j = false) := by
  refine up_ind (hi := N) ?_ ?_
  · intro i hi
    exact Or.inl ⟨ff_stop hi, fun j h1 h2 => by omega⟩
  · intro i hi ih
    rw [ff_step hi]
    by_cases h : p i = true
    · rw [if_pos h]
      exact Or.inr ⟨Int.le_refl _, hi, h, fun j h1 h2 => by omega⟩
    · rw [if_neg h]
      rcases ih with ⟨h1, h2⟩ | ⟨h1, h2, h3, h4⟩
      · refine Or.inl ⟨h1, fun j h3 h4 => ?_⟩
        by_cases h5 : j = i
        · subst h5; simpa using h
        · exact h2 j (by omega) h4
      · refine Or.inr ⟨by omega, h2, h3, fun j h5 h6 => ?_⟩
        by_cases h7 : j = i
        · subst h7; simpa using h
        · exact h4 j (by omega) h6
theorem ff_congr {p q : Int → Bool} {N : Int} : ∀ i, (∀ j, i ≤ j → j < N → p j = q j) → ff p i N = ff q i N := by
  refine up_ind (hi := N) ?_ ?_
  · intro i hi _
    rw [ff_stop hi, ff_stop hi]
  · intro i hi ih h
    rw [ff_step hi, ff_step hi, h i (by omega) hi, ih (fun j h1 h2 => h j (by omega) h2)]
/-- a row of the model: array cell a holds S -/
def RS (h : Hp) (a : Nat) (S : Int → Int) : Prop := sK h a = 20 ∧ 1115 ≤ sN h a ∧ sN h a ≤ 3345 ∧ ∀ k : Nat, hI h a k = S k
def nxJ (S : Int → Int) (i : Int) : Int := ff (fun k => decide (¬ S (61 + k) = -1)) i (S 1)
def sagM (S : Int → Int) (x r y s : Int) : Int := sm (fun k => S (11 + k)) x y - sm (fun k => S (23 + k)) r s
def hookM (S : Int → Int) (r : Int) : Int := ff (fun k => decide (S (61 + k) = r)) 0 (S 1)

theorem m_sag_1 {d a : Nat} {h : Hp} {S : Int → Int} (hs : RS h a S) {x2 x3 x4 : Int} (h3 : 0 ≤ x3) (h3' : x3 ≤ 100) : ∀ x6, 0 ≤ x6 → x6 ≤ 100 → ∀ x5, EX (d) m_Mod_sag 6 [(0, .inr (.inr (a))), (2, .inl (x2)), (3, .inl (x3)), (4, .inl (x4)), (5, .inl (x5)), (6, .inl (x6))] [] (h) = EX (d) m_Mod_sag 30 [(0, .inr (.inr (a))), (2, .inl (x2)), (4, .inl (x4)), (5, .inl (x5 + sm (fun k => S (11 + k)) x6 x3))] [] (h) := by
  obtain ⟨k1, k2, k3, k4⟩ := hs
  refine up_ind (hi := x3) ?_ ?_
  · intro i hi h0 h1 x5
    rw [Mod_sag_6]
    simp (disch := omega) only [wr_id, ix_id, okx, if_pos, if_neg, Int.toNat_of_nonneg, bak_v, bak_n, sm_stop, Int.add_zero]
  · intro i hi ih h0 h1 x5
    rw [Mod_sag_6]
    simp (disch := omega) only [Mod_sag_12, wr_id, ix_id, okx, if_pos, if_neg, Int.toNat_of_nonneg, bak_v, bak_n, k4, sm_step hi]
    rw [ih (by omega) (by omega), Int.add_assoc]
theorem m_sag_2 {d a : Nat} {h : Hp} {S : Int → Int} (hs : RS h a S) {x4 : Int} (h3 : 0 ≤ x4) (h3' : x4 ≤ 100) : ∀ x6, 0 ≤ x6 → x6 ≤ 100 → ∀ x5, EX (d) m_Mod_sag 33 [(0, .inr (.inr (a))), (4, .inl (x4)), (5, .inl (x5)), (6, .inl (x6))] [] (h) = some (.inl (x5 - sm (fun k => S (23 + k)) x6 x4), h) := by
  obtain ⟨k1, k2, k3, k4⟩ := hs
  refine up_ind (hi := x4) ?_ ?_
  · intro i hi h0 h1 x5
    rw [Mod_sag_33]
    simp (disch := omega) only [Mod_sag_58, wr_id, ix_id, okx, if_pos, if_neg, Int.toNat_of_nonneg, bak_v, bak_n, sm_stop, Int.sub_zero]
  · intro i hi ih h0 h1 x5
    rw [Mod_sag_33]
    simp (disch := omega) only [Mod_sag_40, wr_id, ix_id, okx, if_pos, if_neg, Int.toNat_of_nonneg, bak_v, bak_n, k4, sm_step hi]
    rw [ih (by omega) (by omega), Int.sub_sub]
theorem m_sag {d a : Nat} {h : Hp} {S : Int → Int} (hs : RS h a S) {x1 x2 x3 x4 : Int} (h1 : 0 ≤ x1 ∧ x1 ≤ 100) (h2 : 0 ≤ x2 ∧ x2 ≤ 100) (h3 : 0 ≤ x3 ∧ x3 ≤ 100) (h4 : 0 ≤ x4 ∧ x4 ≤ 100) : cal (d+1) m_Mod_sag [.inr (.inr (a)), .inl (x1), .inl (x2), .inl (x3), .inl (x4)] (h) = some (.inl (sagM S x1 x2 x3 x4), h) := by
  show EX (d) m_Mod_sag 0 [(0, .inr (.inr (a))), (1, .inl (x1)), (2, .inl (x2)), (3, .inl (x3)), (4, .inl (x4))] [] (h) = _
  rw [Mod_sag_0, m_sag_1 hs h3.1 h3.2 _ h1.1 h1.2, Mod_sag_30, m_sag_2 hs h4.1 h4.2 _ h2.1 h2.2]
  simp only [sagM, Int.zero_add]
