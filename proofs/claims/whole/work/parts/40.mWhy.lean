/-! the model: whyNot, nextJoined, sagOf, joinedMany -/
theorem m_whyNot_l {d a : Nat} {h : Hp} {S : Int → Int} (hs : RS h a S) (g : Gd S) {x y : Int} (hx : 0 ≤ x ∧ x < S 1) (hy : 0 ≤ y ∧ y < S 2) (hx1 : S (61 + x) = -1) : ∀ k, 0 ≤ k → k ≤ 12 → k ≤ S 1 → EX (d) m_Mod_whyNot 73 [(0, .inr (.inr (a))), (1, .inl (x)), (2, .inl (y)), (3, .inl (fl (Jn S) (min k x))), (4, .inl (ff (Jn S) x k)), (5, .inl (k))] [] (h) = if ff (bad3 S x y) k (S 1) = -1 then EX (d) m_Mod_whyNot 156 [(0, .inr (.inr (a))), (1, .inl (x)), (2, .inl (y)), (3, .inl (fl (Jn S) x)), (4, .inl (ff (Jn S) x (S 1)))] [] (h) else some (.inl 3, h) := by
  obtain ⟨k1, k2, k3, k4⟩ := hs
  have ga := g.a
  have gb := g.b
  refine up_ind (hi := S 1) ?_ ?_
  · intro k hk h0 h1 h2
    rw [Mod_whyNot_73]
    simp (disch := omega) only [wr_id, ix_id, okx, if_pos, if_neg, Int.toNat_of_nonneg, bak_v, bak_n, wr_b01, wr_bt, b01_or, b01_0, b01_1, lc_lt0, lc_gt0, lc_eq0, wl_wr, wr_wr, wl_id, true_and, and_true, true_or, or_true, not_true_eq_false, not_false_eq_true, nc0, nc1, nc2, nc3, nc4, nc5, nc6, nc7, nc8, nc9, nc10, nc11, nc12, nc13, nc14, nc15, nc16, nc17, nc18, nc19, nc20, nc21, nc22, nc23, nc35, nc47, nc59, nc60, nc61, nc73, nc74, nc214, nc215, nc1115, nc2230, nc3345, if_true, if_false, Int.reduceToNat, k4, ff_stop]
    rw [show min k x = x by omega, show k = S 1 by omega]
  · intro k hk ih h0 h1 h2
    have gr := g.rg h0 (by omega)
    have ih := ih (by omega) (by omega) (by omega)
    rw [Mod_whyNot_73]
    rw [ff_step hk]
    simp (disch := omega) only [Mod_whyNot_81, Mod_whyNot_92, Mod_whyNot_95, Mod_whyNot_101, Mod_whyNot_112, Mod_whyNot_115, Mod_whyNot_126, Mod_whyNot_128, Mod_whyNot_134, Mod_whyNot_140, Mod_whyNot_146, Mod_whyNot_150, wr_id, ix_id, okx, if_pos, if_neg, Int.toNat_of_nonneg, bak_v, bak_n, wr_b01, wr_bt, b01_or, b01_0, b01_1, lc_lt0, lc_gt0, lc_eq0, wl_wr, wr_wr, wl_id, true_and, and_true, true_or, or_true, not_true_eq_false, not_false_eq_true, nc0, nc1, nc2, nc3, nc4, nc5, nc6, nc7, nc8, nc9, nc10, nc11, nc12, nc13, nc14, nc15, nc16, nc17, nc18, nc19, nc20, nc21, nc22, nc23, nc35, nc47, nc59, nc60, nc61, nc73, nc74, nc214, nc215, nc1115, nc2230, nc3345, if_true, if_false, Int.reduceToNat, k4]
    by_cases j : S (61 + k) = -1
    · have e1 : fl (Jn S) (min (k + 1) x) = fl (Jn S) (min k x) := by
        by_cases c : k < x
        · rw [show min (k + 1) x = k + 1 by omega, show min k x = k by omega, fl_step (by omega)]
          simp [Jn, j]
        · rw [show min (k + 1) x = x by omega, show min k x = x by omega]
      have e2 : ff (Jn S) x (k + 1) = ff (Jn S) x k := by
        by_cases c : k < x
        · rw [ff_stop (by omega), ff_stop (by omega)]
        · rw [ff_last x (by omega) (by omega)]
          simp [Jn, j]
          omega
      rw [e1, e2] at ih
      simp [j, bad3, ih]
    · by_cases c : k < x
      · have e1 : fl (Jn S) (min (k + 1) x) = k := by
          rw [show min (k + 1) x = k + 1 by omega, fl_step (by omega)]
          simp [Jn, j]
        have e2 : ff (Jn S) x (k + 1) = ff (Jn S) x k := by
          rw [ff_stop (by omega), ff_stop (by omega)]
        rw [e1, e2] at ih
        have c' : ¬ x ≤ k := by omega
        by_cases c2 : y < S (61 + k)
        · have c3 : ¬ k = -1 := by omega
          simp [j, bad3, c, c2, c', c3]
        · simp [j, bad3, c, c2, c', ih]
      · have e1 : fl (Jn S) (min (k + 1) x) = fl (Jn S) (min k x) := by
          rw [show min (k + 1) x = x by omega, show min k x = x by omega]
        have c' : x ≤ k := by omega
        by_cases c2 : S (61 + k) < y
        · have c3 : ¬ k = -1 := by omega
          simp [j, bad3, c, c2, c', c3]
        · have e2 : ff (Jn S) x (k + 1) = if ff (Jn S) x k = -1 then k else ff (Jn S) x k := by
            rw [ff_last x (by omega) (by omega)]
            simp [Jn, j]
          rw [e1, e2] at ih
          have c4 := ff_spec (p := Jn S) (N := k) x
          have c5 : wr (ff (Jn S) x k) = ff (Jn S) x k := wr_id (by omega) (by omega)
          by_cases c6 : ff (Jn S) x k = -1
          · simp [c6] at ih
            simp [j, bad3, c, c2, c', c6, ih, wr]
          · simp [c6] at ih
            simp [j, bad3, c, c2, c', c6, c5, ih]
