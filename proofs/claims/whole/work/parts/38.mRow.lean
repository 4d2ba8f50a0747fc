/-! the model's row: plain questions -/

theorem m_within {d : Nat} {h : Hp} (v lo hi : Int) : cal (d+1) m_Mod_within [.inr (.inl (v)), .inr (.inl (lo)), .inr (.inl (hi))] (h) = some (.inl (b01 (wl lo ≤ wl v ∧ wl v ≤ wl hi)), h) := by
  show EX (d) m_Mod_within 0 [(0, .inr (.inl (v))), (2, .inr (.inl (lo))), (4, .inr (.inl (hi)))] [] (h) = _
  simp only [Mod_within_0, Mod_within_6, Mod_within_13, Mod_within_17, Mod_within_18, wr_id, ix_id, okx, if_pos, if_neg, Int.toNat_of_nonneg, bak_v, bak_n, wr_b01, b01_or, b01_0, b01_1, lc_lt0, lc_gt0, lc_eq0, wl_wr, wr_wr, wl_id, b01]
  by_cases h1 : wl v < wl lo <;> by_cases h2 : wl hi < wl v <;> simp [h1, h2] <;> omega
theorem m_isIn {d : Nat} {h : Hp} {v k : Int} (h0 : 0 ≤ k) (h1 : k < 64) : cal (d+1) m_Mod_isIn [.inr (.inl (v)), .inl (k)] (h) = some (.inl (bt v k), h) := by
  show EX (d) m_Mod_isIn 0 [(0, .inr (.inl (v))), (2, .inl (k))] [] (h) = _
  simp only [Mod_isIn_0, Mod_isIn_10, Mod_isIn_14, Mod_isIn_15, lc_eq0, ltb_s h0 h1]
  rcases bt_01 v k with e | e <;> rw [e] <;> simp [wl]
theorem m_hookAt_l {d a : Nat} {h : Hp} {S : Int → Int} (hs : RS h a S) (h1 : S 1 ≤ 12) (h1' : 0 ≤ S 1) (hr : ∀ i, 0 ≤ i → i < 12 → -1 ≤ S (61 + i) ∧ S (61 + i) ≤ 11) {r : Int} : ∀ i, 0 ≤ i → i ≤ 12 → EX (d) m_Mod_hookAt 2 [(0, .inr (.inr (a))), (1, .inl (r)), (2, .inl (i))] [] (h) = some (.inl (ff (fun k => decide (S (61 + k) = wr r)) i (S 1)), h) := by
  obtain ⟨k1, k2, k3, k4⟩ := hs
  have e1 : hI h a 1 = S 1 := k4 1
  refine up_ind (hi := S 1) ?_ ?_
  · intro i hi h0 hm
    rw [Mod_hookAt_2]
    simp (disch := omega) only [Mod_hookAt_0, Mod_hookAt_9, Mod_hookAt_19, Mod_hookAt_21, Mod_hookAt_27, wr_id, ix_id, okx, if_pos, if_neg, Int.toNat_of_nonneg, bak_v, bak_n, wr_b01, b01_or, b01_0, b01_1, lc_lt0, lc_gt0, lc_eq0, wl_wr, wr_wr, wl_id, e1, ff_stop]
  · intro i hi ih h0 hm
    have := hr i h0 (by omega)
    rw [Mod_hookAt_2]
    simp (disch := omega) only [Mod_hookAt_0, Mod_hookAt_9, Mod_hookAt_19, Mod_hookAt_21, Mod_hookAt_27, wr_id, ix_id, okx, if_pos, if_neg, Int.toNat_of_nonneg, bak_v, bak_n, wr_b01, b01_or, b01_0, b01_1, lc_lt0, lc_gt0, lc_eq0, wl_wr, wr_wr, wl_id, e1, k4, ff_step hi]
    by_cases hc : S (61 + i) = wr r
    · simp [hc]
    · simp [hc, ih (by omega) (by omega)]
theorem m_hookAt {d a : Nat} {h : Hp} {S : Int → Int} (hs : RS h a S) (h1 : S 1 ≤ 12) (h1' : 0 ≤ S 1) (hr : ∀ i, 0 ≤ i → i < 12 → -1 ≤ S (61 + i) ∧ S (61 + i) ≤ 11) (r : Int) : cal (d+1) m_Mod_hookAt [.inr (.inr (a)), .inl (r)] (h) = some (.inl (hookM S (wr r)), h) := by
  show EX (d) m_Mod_hookAt 0 [(0, .inr (.inr (a))), (1, .inl (r))] [] (h) = _
  rw [Mod_hookAt_0, m_hookAt_l hs h1 h1' hr 0 (by omega) (by omega)]
  rfl
/-- the last below i, or -1 -/
def flN (p : Int → Bool) : Nat → Int
  | 0 => -1
  | n + 1 => if p (n : Int) = true then (n : Int) else flN p n
def fl (p : Int → Bool) (i : Int) : Int := flN p i.toNat
theorem fl_stop {p : Int → Bool} {i : Int} (h : i ≤ 0) : fl p i = -1 := by
  unfold fl
  rw [show i.toNat = 0 by omega]
  rfl
theorem fl_step {p : Int → Bool} {i : Int} (h : 0 < i) : fl p i = if p (i - 1) = true then i - 1 else fl p (i - 1) := by
  unfold fl
  obtain ⟨n, hn⟩ : ∃ n : Nat, i = (n : Int) + 1 := ⟨(i - 1).toNat, by omega⟩
  subst hn
  rw [show ((n : Int) + 1).toNat = n + 1 by omega, show ((n : Int) + 1 - 1) = (n : Int) by omega, show ((n : Int)).toNat = n by omega]
  rfl
theorem fl_spec {p : Int → Bool} : ∀ i, 0 ≤ i → (fl p i = -1 ∧ ∀ j, 0 ≤ j → j < i → p j = false) ∨ (0 ≤ fl p i ∧ fl p i < i ∧ p (fl p i) = true ∧ ∀ j, fl p i < j → j < i → p j = false) := by
  refine dn_ind (lo := 1) ?_ ?_
  · intro i hi h0
    exact Or.inl ⟨fl_stop (by omega), fun j h1 h2 => by omega⟩
  · intro i hi ih h0
    rw [fl_step (by omega)]
    by_cases h : p (i - 1) = true
    · rw [if_pos h]
      exact Or.inr ⟨by omega, by omega, h, fun j h1 h2 => by omega⟩
    · rw [if_neg h]
      rcases ih (by omega) with ⟨h1, h2⟩ | ⟨h1, h2, h3, h4⟩
      · refine Or.inl ⟨h1, fun j h3 h4 => ?_⟩
        by_cases h5 : j = i - 1
        · subst h5; simpa using h
        · exact h2 j h3 (by omega)
      · refine Or.inr ⟨h1, by omega, h3, fun j h5 h6 => ?_⟩
        by_cases h7 : j = i - 1
        · subst h7; simpa using h
        · exact h4 j h5 (by omega)
theorem ff_last {p : Int → Bool} {N : Int} : ∀ i, 0 ≤ i → i ≤ N → ff p i (N + 1) = if ff p i N = -1 then (if p N = true then N else -1) else ff p i N := by
  refine up_ind (hi := N) ?_ ?_
  · intro i h1 h0 h2
    rw [show i = N by omega, ff_step (show N < N + 1 by omega), ff_stop (Int.le_refl N), ff_stop (Int.le_refl (N + 1))]
    simp
  · intro i h1 ih h0 h2
    rw [ff_step (show i < N + 1 by omega), ff_step h1]
    by_cases h : p i = true
    · rw [if_pos h, if_pos h, if_neg (by omega)]
    · rw [if_neg h, if_neg h]
      exact ih (by omega) (by omega)
def Jn (S : Int → Int) : Int → Bool := fun k => decide (¬ S (61 + k) = -1)
/-- what speaks against order when hook x comes to ring y -/
def bad3 (S : Int → Int) (x y : Int) : Int → Bool := fun k => decide (¬ S (61 + k) = -1 ∧ ((k < x ∧ y < S (61 + k)) ∨ (x ≤ k ∧ S (61 + k) < y)))
def whyM (S : Int → Int) (x y : Int) : Int :=
  if ¬ (0 ≤ x ∧ x < S 1) ∨ ¬ (0 ≤ y ∧ y < S 2) then 1
  else if ¬ S (61 + x) = -1 ∨ ¬ hookM S y = -1 ∨ bt (S 10) y = 1 then 2
  else if ¬ ff (bad3 S x y) 0 (S 1) = -1 then 3
  else if ¬ fl (Jn S) x = -1 ∧ sagM S (fl (Jn S) x) (S (61 + fl (Jn S) x)) x y < 0 then 4
  else if ¬ ff (Jn S) x (S 1) = -1 ∧ sagM S x y (ff (Jn S) x (S 1)) (S (61 + ff (Jn S) x (S 1))) < 0 then 4 else 0
