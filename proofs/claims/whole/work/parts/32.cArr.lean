/-! Arrays.fill -/
def flI (h : Hp) (a : Nat) (v : Int) (n : Nat) : Hp := (h.1, fun b j => if b = a ∧ j < n then v else h.2.1 b j, h.2.2.1, h.2.2.2)
def flL (h : Hp) (a : Nat) (v : Int) (n : Nat) : Hp := (h.1, h.2.1, fun b j => if b = a ∧ j < n then v else h.2.2.1 b j, h.2.2.2)
theorem hI_flI (h : Hp) (a b j n : Nat) (v : Int) : hI (flI h a v n) b j = if b = a ∧ j < n then v else hI h b j := rfl
theorem hL_flI (h : Hp) (a b j n : Nat) (v : Int) : hL (flI h a v n) b j = hL h b j := rfl
theorem hR_flI (h : Hp) (a b j n : Nat) (v : Int) : hR (flI h a v n) b j = hR h b j := rfl
theorem sK_flI (h : Hp) (a b n : Nat) (v : Int) : sK (flI h a v n) b = sK h b := rfl
theorem sN_flI (h : Hp) (a b n : Nat) (v : Int) : sN (flI h a v n) b = sN h b := rfl
theorem hI_flL (h : Hp) (a b j n : Nat) (v : Int) : hI (flL h a v n) b j = hI h b j := rfl
theorem hL_flL (h : Hp) (a b j n : Nat) (v : Int) : hL (flL h a v n) b j = if b = a ∧ j < n then v else hL h b j := rfl
theorem hR_flL (h : Hp) (a b j n : Nat) (v : Int) : hR (flL h a v n) b j = hR h b j := rfl
theorem sK_flL (h : Hp) (a b n : Nat) (v : Int) : sK (flL h a v n) b = sK h b := rfl
theorem sN_flL (h : Hp) (a b n : Nat) (v : Int) : sN (flL h a v n) b = sN h b := rfl
theorem flI_0 (h : Hp) (a : Nat) (v : Int) : flI h a v 0 = h := by
  unfold flI
  simp
theorem flI_S (h : Hp) (a : Nat) (v : Int) (n : Nat) : pI (flI h a v n) a n v = flI h a v (n + 1) := by
  unfold flI pI up2
  congr 1
  congr 1
  funext b j
  by_cases h1 : b = a
  · subst h1
    by_cases h2 : j = n
    · subst h2; simp
    · by_cases h3 : j < n
      · simp [h2, h3, show j < n + 1 by omega]
      · simp [h2, h3, show ¬ j < n + 1 by omega]
  · simp [h1]
theorem flL_0 (h : Hp) (a : Nat) (v : Int) : flL h a v 0 = h := by
  unfold flL
  simp
theorem flL_S (h : Hp) (a : Nat) (v : Int) (n : Nat) : pL (flL h a v n) a n v = flL h a v (n + 1) := by
  unfold flL pL up2
  congr 1
  congr 1
  congr 1
  funext b j
  by_cases h1 : b = a
  · subst h1
    by_cases h2 : j = n
    · subst h2; simp
    · by_cases h3 : j < n
      · simp [h2, h3, show j < n + 1 by omega]
      · simp [h2, h3, show ¬ j < n + 1 by omega]
  · simp [h1]
theorem fill_l (d a : Nat) (v : Int) (h : Hp) (N : Nat) (hk : sK h a = 20) (hN : sN h a = N) (hb : N ≤ 2147483647) : ∀ (n i : Nat), i + n = N → EX d m_Arr_fill_aII 5 [(0, .inr (.inr a)), (1, .inl v), (2, .inl (i : Int)), (3, .inl (N : Int))] [] (flI h a v i) = some (.inl 0, flI h a v N) := by
  intro n
  induction n with
  | zero =>
    intro i hi
    have e : wr (i : Int) = i := wr_id (by omega) (by omega)
    have e2 : wr (N : Int) = N := wr_id (by omega) (by omega)
    simp only [Arr_fill_aII_5, e, e2]
    rw [if_neg (by omega)]
    simp only [Arr_fill_aII_20]
    rw [show i = N by omega]
  | succ n ih =>
    intro i hi
    have e : wr (i : Int) = i := wr_id (by omega) (by omega)
    have e2 : wr (N : Int) = N := wr_id (by omega) (by omega)
    simp only [Arr_fill_aII_5, e, e2]
    rw [if_pos (by omega)]
    simp only [Arr_fill_aII_10, if_pos (okx_nat (h := flI h a v i) hk hN (show i < N by omega) hb), ix_nat (show i ≤ 2147483647 by omega), flI_S, Arr_fill_aII_14]
    exact ih (i + 1) (by omega)
theorem fill_s (d a : Nat) (v : Int) (h : Hp) (hk : sK h a = 20) (hb : sN h a ≤ 2147483647) : cal (d + 1) m_Arr_fill_aII [.inr (.inr a), .inl v] h = some (.inl 0, flI h a v (sN h a)) := by
  show EX d m_Arr_fill_aII 0 [(0, .inr (.inr a)), (1, .inl v)] [] h = _
  simp only [Arr_fill_aII_0, hk, if_true, sL_eq]
  have := fill_l d a v h (sN h a) hk rfl hb (sN h a) 0 (by omega)
  rw [flI_0] at this
  exact this
theorem fillL_l (d a : Nat) (v : Int) (h : Hp) (N : Nat) (hk : sK h a = 21) (hN : sN h a = N) (hb : N ≤ 2147483647) : ∀ (n i : Nat), i + n = N → EX d m_Arr_fill_aJJ 6 [(0, .inr (.inr a)), (1, .inr (.inl v)), (3, .inl (i : Int)), (4, .inl (N : Int))] [] (flL h a v i) = some (.inl 0, flL h a v N) := by
  intro n
  induction n with
  | zero =>
    intro i hi
    have e : wr (i : Int) = i := wr_id (by omega) (by omega)
    have e2 : wr (N : Int) = N := wr_id (by omega) (by omega)
    simp only [Arr_fill_aJJ_6, e, e2]
    rw [if_neg (by omega)]
    simp only [Arr_fill_aJJ_22]
    rw [show i = N by omega]
  | succ n ih =>
    intro i hi
    have e : wr (i : Int) = i := wr_id (by omega) (by omega)
    have e2 : wr (N : Int) = N := wr_id (by omega) (by omega)
    simp only [Arr_fill_aJJ_6, e, e2]
    rw [if_pos (by omega)]
    simp only [Arr_fill_aJJ_12, if_pos (okx_nat (h := flL h a v i) hk hN (show i < N by omega) hb), ix_nat (show i ≤ 2147483647 by omega), flL_S, Arr_fill_aJJ_16]
    exact ih (i + 1) (by omega)
theorem fillL_s (d a : Nat) (v : Int) (h : Hp) (hk : sK h a = 21) (hb : sN h a ≤ 2147483647) : cal (d + 1) m_Arr_fill_aJJ [.inr (.inr a), .inr (.inl v)] h = some (.inl 0, flL h a v (sN h a)) := by
  show EX d m_Arr_fill_aJJ 0 [(0, .inr (.inr a)), (1, .inr (.inl v))] [] h = _
  simp only [Arr_fill_aJJ_0, hk, if_true, sL_eq]
  have := fillL_l d a v h (sN h a) hk rfl hb (sN h a) 0 (by omega)
  rw [flL_0] at this
  exact this
