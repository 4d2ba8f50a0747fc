/-! base rows of the abstract machine's words -/
theorem wr_id {z : Int} (h1 : -2147483648 ≤ z) (h2 : z ≤ 2147483647) : wr z = z := Int.bmod_eq_of_le (by omega) (by omega)
theorem wl_id {z : Int} (h1 : -9223372036854775808 ≤ z) (h2 : z ≤ 9223372036854775807) : wl z = z := Int.bmod_eq_of_le (by omega) (by omega)
theorem ix_id {z : Int} (h1 : 0 ≤ z) (h2 : z ≤ 2147483647) : ix z = z.toNat := by unfold ix; rw [wr_id (by omega) h2]
theorem ix_nat {n : Nat} (h2 : n ≤ 2147483647) : ix (n : Int) = n := by rw [ix_id (by omega) (by omega)]; omega
theorem hI_pI (h : Hp) (a k b j : Nat) (v : Int) : hI (pI h a k v) b j = if b = a ∧ j = k then v else hI h b j := rfl
theorem hL_pI (h : Hp) (a k b j : Nat) (v : Int) : hL (pI h a k v) b j = hL h b j := rfl
theorem hR_pI (h : Hp) (a k b j : Nat) (v : Int) : hR (pI h a k v) b j = hR h b j := rfl
theorem sK_pI (h : Hp) (a k b : Nat) (v : Int) : sK (pI h a k v) b = sK h b := rfl
theorem sN_pI (h : Hp) (a k b : Nat) (v : Int) : sN (pI h a k v) b = sN h b := rfl
theorem hI_pL (h : Hp) (a k b j : Nat) (v : Int) : hI (pL h a k v) b j = hI h b j := rfl
theorem hL_pL (h : Hp) (a k b j : Nat) (v : Int) : hL (pL h a k v) b j = if b = a ∧ j = k then v else hL h b j := rfl
theorem hR_pL (h : Hp) (a k b j : Nat) (v : Int) : hR (pL h a k v) b j = hR h b j := rfl
theorem sK_pL (h : Hp) (a k b : Nat) (v : Int) : sK (pL h a k v) b = sK h b := rfl
theorem sN_pL (h : Hp) (a k b : Nat) (v : Int) : sN (pL h a k v) b = sN h b := rfl
theorem hI_pR (h : Hp) (a k b j v : Nat) : hI (pR h a k v) b j = hI h b j := rfl
theorem hL_pR (h : Hp) (a k b j v : Nat) : hL (pR h a k v) b j = hL h b j := rfl
theorem hR_pR (h : Hp) (a k b j v : Nat) : hR (pR h a k v) b j = if b = a ∧ j = k then v else hR h b j := rfl
theorem sK_pR (h : Hp) (a k b v : Nat) : sK (pR h a k v) b = sK h b := rfl
theorem sN_pR (h : Hp) (a k b v : Nat) : sN (pR h a k v) b = sN h b := rfl
theorem cal_s (d m : Nat) (as : List AV) (h : Hp) : cal (d + 1) m as h = EX d m 0 (largs 0 as) [] h := rfl
/-! Math -/
theorem min_s (d : Nat) (a b : Int) (h : Hp) : cal (d + 1) m_Math_min_II [.inl a, .inl b] h = some (.inl (if wr b < wr a then b else a), h) := by
  show EX d m_Math_min_II 0 [(0, .inl a), (1, .inl b)] [] h = _
  simp only [Math_min_II_0, Math_min_II_5, Math_min_II_9, Math_min_II_10]
  split <;> rfl
theorem max_s (d : Nat) (a b : Int) (h : Hp) : cal (d + 1) m_Math_max_II [.inl a, .inl b] h = some (.inl (if wr a < wr b then b else a), h) := by
  show EX d m_Math_max_II 0 [(0, .inl a), (1, .inl b)] [] h = _
  simp only [Math_max_II_0, Math_max_II_5, Math_max_II_9, Math_max_II_10]
  split <;> rfl
theorem lCmp_cases (a b : Int) : (wl b < wl a ∧ wr (lCmp a b) = 1) ∨ (wl a = wl b ∧ wr (lCmp a b) = 0) ∨ (wl a < wl b ∧ wr (lCmp a b) = -1) := by
  unfold lCmp
  by_cases h1 : wl b < wl a
  · rw [if_pos h1]; exact Or.inl ⟨h1, rfl⟩
  · rw [if_neg h1]
    by_cases h2 : wl a = wl b
    · rw [if_pos h2]; exact Or.inr (Or.inl ⟨h2, rfl⟩)
    · rw [if_neg h2]; exact Or.inr (Or.inr ⟨by omega, rfl⟩)
theorem minL_s (d : Nat) (a b : Int) (h : Hp) : cal (d + 1) m_Math_min_JJ [.inr (.inl a), .inr (.inl b)] h = some (.inr (.inl (if wl b < wl a then b else a)), h) := by
  show EX d m_Math_min_JJ 0 [(0, .inr (.inl a)), (2, .inr (.inl b))] [] h = _
  simp only [Math_min_JJ_0, Math_min_JJ_6, Math_min_JJ_10, Math_min_JJ_11]
  rcases lCmp_cases a b with ⟨h1, h2⟩ | ⟨h1, h2⟩ | ⟨h1, h2⟩ <;> rw [h2] <;> simp [h1] <;> omega
theorem maxL_s (d : Nat) (a b : Int) (h : Hp) : cal (d + 1) m_Math_max_JJ [.inr (.inl a), .inr (.inl b)] h = some (.inr (.inl (if wl a < wl b then b else a)), h) := by
  show EX d m_Math_max_JJ 0 [(0, .inr (.inl a)), (2, .inr (.inl b))] [] h = _
  simp only [Math_max_JJ_0, Math_max_JJ_6, Math_max_JJ_10, Math_max_JJ_11]
  rcases lCmp_cases a b with ⟨h1, h2⟩ | ⟨h1, h2⟩ | ⟨h1, h2⟩ <;> rw [h2] <;> simp [h1] <;> omega
theorem abs_s (d : Nat) (a : Int) (h : Hp) : cal (d + 1) m_Math_abs [.inl a] h = some (.inl (if wr a < 0 then -a else a), h) := by
  show EX d m_Math_abs 0 [(0, .inl a)] [] h = _
  simp only [Math_abs_0, Math_abs_4, Math_abs_9, Math_abs_10]
  split <;> rfl
/-! Window -/
theorem isHook_s (d w : Nat) (x : Int) (h : Hp) (hw : sK h w = 9) : cal (d + 1) m_Window_isHook [.inr (.inr w), .inl x] h = some (.inl (if 0 ≤ wr x ∧ wr x < wr (hI h w 5) then 1 else 0), h) := by
  show EX d m_Window_isHook 0 [(0, .inr (.inr w)), (1, .inl x)] [] h = _
  simp only [Window_isHook_0, Window_isHook_4, Window_isHook_12, Window_isHook_16, Window_isHook_17, hw]
  by_cases h1 : wr x < 0 <;> by_cases h2 : wr x < wr (hI h w 5) <;> simp [h1, h2] <;> omega
theorem isRing_s (d w : Nat) (x : Int) (h : Hp) (hw : sK h w = 9) : cal (d + 1) m_Window_isRing [.inr (.inr w), .inl x] h = some (.inl (if 0 ≤ wr x ∧ wr x < wr (hI h w 6) then 1 else 0), h) := by
  show EX d m_Window_isRing 0 [(0, .inr (.inr w)), (1, .inl x)] [] h = _
  simp only [Window_isRing_0, Window_isRing_4, Window_isRing_12, Window_isRing_16, Window_isRing_17, hw]
  by_cases h1 : wr x < 0 <;> by_cases h2 : wr x < wr (hI h w 6) <;> simp [h1, h2] <;> omega

/-- a window at w: its five rows lie behind it -/
def WinAt (h : Hp) (w : Nat) : Prop := sK h w = 9 ∧ (hR h w 0 = w + 1 ∧ hR h w 1 = w + 2 ∧ hR h w 2 = w + 3 ∧ hR h w 3 = w + 4 ∧ hR h w 4 = w + 5) ∧ (∀ k, 1 ≤ k → k < 6 → sK h (w + k) = 20 ∧ sN h (w + k) = 12)
theorem okx_nat {h : Hp} {a kd n : Nat} {i : Nat} (hk : sK h a = kd) (hn : sN h a = n) (hi : i < n) (hb : n ≤ 2147483647) : okx h a kd (i : Int) := by
  refine ⟨hk, ?_, ?_⟩
  · rw [wr_id (by omega) (by omega)]; omega
  · rw [wr_id (by omega) (by omega), hn]; omega
theorem WinAt.row {h : Hp} {w : Nat} (hw : WinAt h w) {k i : Nat} (h1 : 1 ≤ k) (h2 : k < 6) (hi : i < 12) : okx h (w + k) 20 (i : Int) := okx_nat (hw.2.2 k h1 h2).1 (hw.2.2 k h1 h2).2 hi (by omega)
theorem sag_s (d w a b g s : Nat) (h : Hp) (hw : WinAt h w) (ha : a < 12) (hb : b < 12) (hg : g < 12) (hs : s < 12) : cal (d + 1) m_Window_sagBetween [.inr (.inr w), .inl a, .inl b, .inl g, .inl s] h = some (.inl (hI h (w + 1) g - hI h (w + 1) a - (hI h (w + 2) s - hI h (w + 2) b)), h) := by
  show EX d m_Window_sagBetween 0 [(0, .inr (.inr w)), (1, .inl (a : Int)), (2, .inl (b : Int)), (3, .inl (g : Int)), (4, .inl (s : Int))] [] h = _
  rw [Window_sagBetween_0, hw.2.1.1, hw.2.1.2.1, if_pos hw.1, if_pos (hw.row (k := 1) (by omega) (by omega) hg), if_pos hw.1, if_pos (hw.row (k := 1) (by omega) (by omega) ha), if_pos hw.1, if_pos (hw.row (k := 2) (by omega) (by omega) hs), if_pos hw.1, if_pos (hw.row (k := 2) (by omega) (by omega) hb)]
  simp only [ix_nat (show a ≤ 2147483647 by omega), ix_nat (show b ≤ 2147483647 by omega), ix_nat (show g ≤ 2147483647 by omega), ix_nat (show s ≤ 2147483647 by omega)]
theorem gaps_s (d w : Nat) (h : Hp) (hw : sK h w = 9) : cal (d + 1) m_Window_gaps [.inr (.inr w)] h = some (.inl (if 0 < wr (hI h w 6) then hI h w 6 - 1 else 0), h) := by
  show EX d m_Window_gaps 0 [(0, .inr (.inr w))] [] h = _
  simp only [Window_gaps_0, Window_gaps_7, Window_gaps_16, Window_gaps_17, hw, if_true]
  split <;> rfl
theorem chairFor_s (d w : Nat) (c r : Int) (h : Hp) (hw : sK h w = 9) : cal (d + 1) m_Window_chairFor [.inr (.inr w), .inl c, .inl r] h = some (.inl (if wr (c + hI h w 8) < wr r then r - hI h w 8 else if wr r < wr (c - hI h w 8) then r + hI h w 8 else c), h) := by
  show EX d m_Window_chairFor 0 [(0, .inr (.inr w)), (1, .inl c), (2, .inl r)] [] h = _
  simp only [Window_chairFor_0, Window_chairFor_10, Window_chairFor_17, Window_chairFor_27, Window_chairFor_34, hw, if_true]
  split
  · rfl
  · split <;> rfl
