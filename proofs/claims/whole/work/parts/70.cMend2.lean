/-! the class: mend -/
def p67 (a _k : Nat) : Prop := a = 67
theorem c_mend_1 {d w : Nat} {S : Int → Int} (gd : Gd S) : ∀ i, 0 ≤ i → i ≤ S 1 → ∀ h, ME h w S → (∀ j, 0 ≤ j → j ≤ i → hI h 67 j.toNat = jA S j) → ∃ h', EX (d+1) m_Mender_mend 10 [(0, .inr (.inr (64))), (1, .inr (.inr (w))), (2, .inr (.inr (26))), (3, .inl (i))] [] (h) = EX (d+1) m_Mender_mend 52 [(0, .inr (.inr (64))), (1, .inr (.inr (w))), (2, .inr (.inr (26)))] [] (h') ∧ JAv h' S ∧ Fr (fun a k => a = 67 ∧ 1 ≤ k) h h' := by
  have ga := gd.a
  refine up_ind (hi := S 1) ?_ ?_
  · intro i hi h0 h1 h me ja
    have hc := me.1
    have wv := me.2.1
    have hw := wv.1
    refine ⟨h, ?_, fun j j0 j1 => ja j j0 (by omega), Fr.rf⟩
    rw [Mender_mend_10]
    simp (disch := omega) only [wr_id, ix_id, okx, if_pos, if_neg, Int.toNat_of_nonneg, bak_v, bak_n, wr_b01, wr_bt, b01_or, b01_0, b01_1, lc_lt0, lc_gt0, lc_eq0, wl_wr, wr_wr, wl_id, true_and, and_true, true_or, or_true, not_true_eq_false, not_false_eq_true, nc0, nc1, nc2, nc3, nc4, nc5, nc6, nc7, nc8, nc9, nc10, nc11, nc12, nc13, nc14, nc15, nc16, nc17, nc18, nc19, nc20, nc21, nc22, nc23, nc35, nc47, nc59, nc60, nc61, nc73, nc74, nc214, nc215, nc1115, nc2230, nc3345, if_true, if_false, Int.reduceToNat, hw.k, hw.r0, hw.r1, hw.r2, hw.r3, hw.r4, hw.k1, hw.k2, hw.k3, hw.k4, hw.k5, hw.n1, hw.n2, hw.n3, hw.n4, hw.n5, wv.f5, wv.f6, wv.f7, wv.f8, wv.f9, wv.f10, wv.f11, wv.f12, wv.f13, wv.f14, wv.pk, wv.qk, wv.hk, wv.rk]
  · intro i hi ih h0 h1 h me ja
    have hc := me.1
    have wv := me.2.1
    have hw := wv.1
    have hv := me.2.2.2
    have ha := hv.1
    have e1 := ja i h0 (by omega)
    have js := jA_s (S := S) h0
    have f0 : Fr (fun a k => a = 67 ∧ 1 ≤ k) h (pI h 67 (i + 1).toNat (jA S (i + 1))) := Fr.pI Fr.rf ⟨rfl, by omega⟩
    obtain ⟨h2, e2, k2, f2⟩ := ih (by omega) (by omega) _ (me.fr f0 (fun a k q => by omega)) (fun j j0 j1 => by
      rw [hI_pI]
      by_cases c : j = i + 1
      · rw [if_pos ⟨rfl, by rw [c]⟩, c]
      · rw [if_neg (fun q => c (by have := q.2; omega))]; exact ja j j0 (by omega))
    refine ⟨h2, ?_, k2, f0.tr f2⟩
    rw [Mender_mend_10]
    unfold b01 at js
    by_cases c : S (61 + i) = -1
    · rw [if_neg (fun q => q c)] at js
      rw [js] at e2
      simp (disch := omega) only [Mender_mend_18, Mender_mend_36, Mender_mend_43, Mender_mend_44, Mender_mend_46, wr_id, ix_id, okx, if_pos, if_neg, Int.toNat_of_nonneg, bak_v, bak_n, wr_b01, wr_bt, b01_or, b01_0, b01_1, lc_lt0, lc_gt0, lc_eq0, wl_wr, wr_wr, wl_id, true_and, and_true, true_or, or_true, not_true_eq_false, not_false_eq_true, nc0, nc1, nc2, nc3, nc4, nc5, nc6, nc7, nc8, nc9, nc10, nc11, nc12, nc13, nc14, nc15, nc16, nc17, nc18, nc19, nc20, nc21, nc22, nc23, nc35, nc47, nc59, nc60, nc61, nc73, nc74, nc214, nc215, nc1115, nc2230, nc3345, if_true, if_false, Int.reduceToNat, hw.k, hw.r0, hw.r1, hw.r2, hw.r3, hw.r4, hw.k1, hw.k2, hw.k3, hw.k4, hw.k5, hw.n1, hw.n2, hw.n3, hw.n4, hw.n5, wv.f5, wv.f6, wv.f7, wv.f8, wv.f9, wv.f10, wv.f11, wv.f12, wv.f13, wv.f14, wv.pk, wv.qk, wv.hk, wv.rk, ha.k, ha.r, ha.k1, ha.n1, hc.k6, hc.r5, hc.r6, hc.r0, hc.r2, hc.r7, hc.r8, hc.r9, hc.r10, hc.r11, hc.r12, hc.r13, hc.r14, hc.r15, hc.r16, hc.r17, hc.r18, hc.r8_0, hc.r8_1, hc.r11_0, hc.r11_1, hc.r60_0, hc.r60_1, hc.r60_4, hc.r64_0, hc.r64_3, hc.r64_4, hc.r68_0, hc.r41_0, hc.r41_1, hc.r42_0, hc.r42_1, hc.k7, hc.k8, hc.k9, hc.k11, hc.k12, hc.k13, hc.k32, hc.k41, hc.k42, hc.k43, hc.k60, hc.k61, hc.k62, hc.k63, hc.k64, hc.k65, hc.k66, hc.k67, hc.k68, hc.k69, hc.k70, hc.k71, hc.n6, hc.n7, hc.n8, hc.n9, hc.n11, hc.n12, hc.n13, hc.n32, hc.n41, hc.n42, hc.n43, hc.n60, hc.n61, hc.n62, hc.n63, hc.n64, hc.n65, hc.n66, hc.n67, hc.n68, hc.n69, hc.n70, hc.n71, c_isJoined' hv gd, e1, c]
      exact e2
    · rw [if_pos c] at js
      rw [js] at e2
      simp (disch := omega) only [Mender_mend_18, Mender_mend_36, Mender_mend_39, Mender_mend_44, Mender_mend_46, wr_id, ix_id, okx, if_pos, if_neg, Int.toNat_of_nonneg, bak_v, bak_n, wr_b01, wr_bt, b01_or, b01_0, b01_1, lc_lt0, lc_gt0, lc_eq0, wl_wr, wr_wr, wl_id, true_and, and_true, true_or, or_true, not_true_eq_false, not_false_eq_true, nc0, nc1, nc2, nc3, nc4, nc5, nc6, nc7, nc8, nc9, nc10, nc11, nc12, nc13, nc14, nc15, nc16, nc17, nc18, nc19, nc20, nc21, nc22, nc23, nc35, nc47, nc59, nc60, nc61, nc73, nc74, nc214, nc215, nc1115, nc2230, nc3345, if_true, if_false, Int.reduceToNat, hw.k, hw.r0, hw.r1, hw.r2, hw.r3, hw.r4, hw.k1, hw.k2, hw.k3, hw.k4, hw.k5, hw.n1, hw.n2, hw.n3, hw.n4, hw.n5, wv.f5, wv.f6, wv.f7, wv.f8, wv.f9, wv.f10, wv.f11, wv.f12, wv.f13, wv.f14, wv.pk, wv.qk, wv.hk, wv.rk, ha.k, ha.r, ha.k1, ha.n1, hc.k6, hc.r5, hc.r6, hc.r0, hc.r2, hc.r7, hc.r8, hc.r9, hc.r10, hc.r11, hc.r12, hc.r13, hc.r14, hc.r15, hc.r16, hc.r17, hc.r18, hc.r8_0, hc.r8_1, hc.r11_0, hc.r11_1, hc.r60_0, hc.r60_1, hc.r60_4, hc.r64_0, hc.r64_3, hc.r64_4, hc.r68_0, hc.r41_0, hc.r41_1, hc.r42_0, hc.r42_1, hc.k7, hc.k8, hc.k9, hc.k11, hc.k12, hc.k13, hc.k32, hc.k41, hc.k42, hc.k43, hc.k60, hc.k61, hc.k62, hc.k63, hc.k64, hc.k65, hc.k66, hc.k67, hc.k68, hc.k69, hc.k70, hc.k71, hc.n6, hc.n7, hc.n8, hc.n9, hc.n11, hc.n12, hc.n13, hc.n32, hc.n41, hc.n42, hc.n43, hc.n60, hc.n61, hc.n62, hc.n63, hc.n64, hc.n65, hc.n66, hc.n67, hc.n68, hc.n69, hc.n70, hc.n71, c_isJoined' hv gd, e1]
      exact e2
theorem c_mend_2 {d w : Nat} {S : Int → Int} (gd : Gd S) {x : Int} (hx : 0 ≤ x ∧ x < S 1) : ∀ r, -1 ≤ r → r < S 2 → ∀ h, ME h w S → JAv h S → (∀ g s, x < g → g < S 1 → 0 ≤ s → s < S 2 → csR S g s = true → wV h S g s) → (∀ s, r < s → s < S 2 → csR S x s = true → wV h S x s) → ∃ h', EX (d+5) m_Mender_mend 71 [(0, .inr (.inr (64))), (1, .inr (.inr (w))), (2, .inr (.inr (26))), (3, .inl (x)), (4, .inl (r))] [] (h) = EX (d+5) m_Mender_mend 113 [(0, .inr (.inr (64))), (1, .inr (.inr (w))), (2, .inr (.inr (26))), (3, .inl (x))] [] (h') ∧ (∀ g s, x ≤ g → g < S 1 → 0 ≤ s → s < S 2 → csR S g s = true → wV h' S g s) ∧ Fr (fun a _ => a = 66) h h' := by
  have ga := gd.a
  have gb := gd.b
  refine dn_ind (lo := 0) ?_ ?_
  · intro r hr h0 h1 h me ja wt wx
    refine ⟨h, ?_, fun g s z1 z2 z3 z4 z5 => ?_, Fr.rf⟩
    · rw [Mender_mend_71]
      simp (disch := omega) only [wr_id, ix_id, okx, if_pos, if_neg, Int.toNat_of_nonneg, bak_v, bak_n, wr_b01, wr_bt, b01_or, b01_0, b01_1, lc_lt0, lc_gt0, lc_eq0, wl_wr, wr_wr, wl_id, true_and, and_true, true_or, or_true, not_true_eq_false, not_false_eq_true, nc0, nc1, nc2, nc3, nc4, nc5, nc6, nc7, nc8, nc9, nc10, nc11, nc12, nc13, nc14, nc15, nc16, nc17, nc18, nc19, nc20, nc21, nc22, nc23, nc35, nc47, nc59, nc60, nc61, nc73, nc74, nc214, nc215, nc1115, nc2230, nc3345, if_true, if_false, Int.reduceToNat]
    · by_cases c : g = x
      · rw [c] at z5 ⊢; exact wx s (by omega) z4 z5
      · exact wt g s (by omega) z2 z3 z4 z5
  · intro r hr ih h0 h1 h me ja wt wx
    have hc := me.1
    have er : r + -1 = r - 1 := by omega
    have es := c_canStand (d := d + 2) me gd (g := x) (s := r) hx ⟨hr, h1⟩
    by_cases c : csR S x r = true
    · have eb := c_bestBehind (d := d) me gd ja (x := x) (r := r) (by omega) (by omega) (by omega) wt
      have f0 : Fr (fun a _ => a = 66) h (pI h 66 (x * 12 + r).toNat (AR S x r - (jnM S - jA S (x + 1)))) := Fr.pI Fr.rf (by rfl)
      have wn : ∀ g s, 0 ≤ g → 0 ≤ s → s < 12 → ¬ (g = x ∧ s = r) → wV h S g s → wV (pI h 66 (x * 12 + r).toNat (AR S x r - (jnM S - jA S (x + 1)))) S g s := fun g s g0 s0 s1 ne v => by
        unfold wV at *
        rw [hI_pI, if_neg (fun q => ne (by have := q.2; omega))]; exact v
      obtain ⟨h2, e2, k2, f2⟩ := ih (by omega) (by omega) _ (me.fr f0 (fun a k q => by omega)) (fun j j0 j1 => by rw [f0.I (by omega)]; exact ja j j0 j1) (fun g s z1 z2 z3 z4 z5 => wn g s (by omega) z3 (by omega) (by omega) (wt g s z1 z2 z3 z4 z5)) (fun s s1 s2 s3 => by
        by_cases cs : s = r
        · rw [cs]; unfold wV; rw [hI_pI, if_pos ⟨rfl, rfl⟩]
        · exact wn x s (by omega) (by omega) (by omega) (by omega) (wx s (by omega) s2 s3))
      refine ⟨h2, ?_, k2, f0.tr f2⟩
      rw [Mender_mend_71]
      simp (disch := omega) only [Mender_mend_76, Mender_mend_83, Mender_mend_86, Mender_mend_106, Mender_mend_107, wr_id, ix_id, okx, if_pos, if_neg, Int.toNat_of_nonneg, bak_v, bak_n, wr_b01, wr_bt, b01_or, b01_0, b01_1, lc_lt0, lc_gt0, lc_eq0, wl_wr, wr_wr, wl_id, true_and, and_true, true_or, or_true, not_true_eq_false, not_false_eq_true, nc0, nc1, nc2, nc3, nc4, nc5, nc6, nc7, nc8, nc9, nc10, nc11, nc12, nc13, nc14, nc15, nc16, nc17, nc18, nc19, nc20, nc21, nc22, nc23, nc35, nc47, nc59, nc60, nc61, nc73, nc74, nc214, nc215, nc1115, nc2230, nc3345, if_true, if_false, Int.reduceToNat, hc.k6, hc.r5, hc.r6, hc.r0, hc.r2, hc.r7, hc.r8, hc.r9, hc.r10, hc.r11, hc.r12, hc.r13, hc.r14, hc.r15, hc.r16, hc.r17, hc.r18, hc.r8_0, hc.r8_1, hc.r11_0, hc.r11_1, hc.r60_0, hc.r60_1, hc.r60_4, hc.r64_0, hc.r64_3, hc.r64_4, hc.r68_0, hc.r41_0, hc.r41_1, hc.r42_0, hc.r42_1, hc.k7, hc.k8, hc.k9, hc.k11, hc.k12, hc.k13, hc.k32, hc.k41, hc.k42, hc.k43, hc.k60, hc.k61, hc.k62, hc.k63, hc.k64, hc.k65, hc.k66, hc.k67, hc.k68, hc.k69, hc.k70, hc.k71, hc.n6, hc.n7, hc.n8, hc.n9, hc.n11, hc.n12, hc.n13, hc.n32, hc.n41, hc.n42, hc.n43, hc.n60, hc.n61, hc.n62, hc.n63, hc.n64, hc.n65, hc.n66, hc.n67, hc.n68, hc.n69, hc.n70, hc.n71, es, c, eb, er]
      exact e2
    · have c' : csR S x r = false := by simpa using c
      rw [c'] at es
      obtain ⟨h2, e2, k2, f2⟩ := ih (by omega) (by omega) h me ja wt (fun s s1 s2 s3 => by
        by_cases cs : s = r
        · rw [cs] at s3; exact absurd s3 c
        · exact wx s (by omega) s2 s3)
      refine ⟨h2, ?_, k2, f2⟩
      rw [Mender_mend_71]
      simp (disch := omega) only [Mender_mend_76, Mender_mend_83, Mender_mend_107, wr_id, ix_id, okx, if_pos, if_neg, Int.toNat_of_nonneg, bak_v, bak_n, wr_b01, wr_bt, b01_or, b01_0, b01_1, lc_lt0, lc_gt0, lc_eq0, wl_wr, wr_wr, wl_id, true_and, and_true, true_or, or_true, not_true_eq_false, not_false_eq_true, nc0, nc1, nc2, nc3, nc4, nc5, nc6, nc7, nc8, nc9, nc10, nc11, nc12, nc13, nc14, nc15, nc16, nc17, nc18, nc19, nc20, nc21, nc22, nc23, nc35, nc47, nc59, nc60, nc61, nc73, nc74, nc214, nc215, nc1115, nc2230, nc3345, if_true, if_false, Int.reduceToNat, hc.k6, hc.r5, hc.r6, hc.r0, hc.r2, hc.r7, hc.r8, hc.r9, hc.r10, hc.r11, hc.r12, hc.r13, hc.r14, hc.r15, hc.r16, hc.r17, hc.r18, hc.r8_0, hc.r8_1, hc.r11_0, hc.r11_1, hc.r60_0, hc.r60_1, hc.r60_4, hc.r64_0, hc.r64_3, hc.r64_4, hc.r68_0, hc.r41_0, hc.r41_1, hc.r42_0, hc.r42_1, hc.k7, hc.k8, hc.k9, hc.k11, hc.k12, hc.k13, hc.k32, hc.k41, hc.k42, hc.k43, hc.k60, hc.k61, hc.k62, hc.k63, hc.k64, hc.k65, hc.k66, hc.k67, hc.k68, hc.k69, hc.k70, hc.k71, hc.n6, hc.n7, hc.n8, hc.n9, hc.n11, hc.n12, hc.n13, hc.n32, hc.n41, hc.n42, hc.n43, hc.n60, hc.n61, hc.n62, hc.n63, hc.n64, hc.n65, hc.n66, hc.n67, hc.n68, hc.n69, hc.n70, hc.n71, es, er]
      simp only [Bool.false_eq_true, not_false_eq_true, if_true]
      exact e2
theorem c_mend_3 {d w : Nat} {S : Int → Int} (gd : Gd S) : ∀ x, -1 ≤ x → x < S 1 → ∀ h, ME h w S → JAv h S → (∀ g s, x < g → g < S 1 → 0 ≤ s → s < S 2 → csR S g s = true → wV h S g s) → ∃ h', EX (d+5) m_Mender_mend 59 [(0, .inr (.inr (64))), (1, .inr (.inr (w))), (2, .inr (.inr (26))), (3, .inl (x))] [] (h) = EX (d+5) m_Mender_mend 119 [(0, .inr (.inr (64))), (1, .inr (.inr (w))), (2, .inr (.inr (26)))] [] (h') ∧ (∀ g s, 0 ≤ g → g < S 1 → 0 ≤ s → s < S 2 → csR S g s = true → wV h' S g s) ∧ Fr (fun a _ => a = 66) h h' := by
  have ga := gd.a
  have gb := gd.b
  refine dn_ind (lo := 0) ?_ ?_
  · intro x hx h0 h1 h me ja wt
    refine ⟨h, ?_, fun g s z1 z2 z3 z4 z5 => wt g s (by omega) z2 z3 z4 z5, Fr.rf⟩
    rw [Mender_mend_59]
    simp (disch := omega) only [wr_id, ix_id, okx, if_pos, if_neg, Int.toNat_of_nonneg, bak_v, bak_n, wr_b01, wr_bt, b01_or, b01_0, b01_1, lc_lt0, lc_gt0, lc_eq0, wl_wr, wr_wr, wl_id, true_and, and_true, true_or, or_true, not_true_eq_false, not_false_eq_true, nc0, nc1, nc2, nc3, nc4, nc5, nc6, nc7, nc8, nc9, nc10, nc11, nc12, nc13, nc14, nc15, nc16, nc17, nc18, nc19, nc20, nc21, nc22, nc23, nc35, nc47, nc59, nc60, nc61, nc73, nc74, nc214, nc215, nc1115, nc2230, nc3345, if_true, if_false, Int.reduceToNat]
  · intro x hx ih h0 h1 h me ja wt
    have hc := me.1
    have wv := me.2.1
    have hw := wv.1
    obtain ⟨h1', e1, k1, f1⟩ := c_mend_2 (d := d) (w := w) gd (x := x) ⟨hx, h1⟩ (S 2 - 1) (by omega) (by omega) h me ja wt (fun s s1 s2 _ => by omega)
    obtain ⟨h2, e2, k2, f2⟩ := ih (by omega) (by omega) h1' (me.fr f1 (fun a k q => by omega)) (fun j j0 j1 => by rw [f1.I (by omega)]; exact ja j j0 j1) (fun g s z1 z2 z3 z4 z5 => k1 g s (by omega) z2 z3 z4 z5)
    refine ⟨h2, ?_, k2, f1.tr f2⟩
    rw [Mender_mend_59]
    simp (disch := omega) only [Mender_mend_63, wr_id, ix_id, okx, if_pos, if_neg, Int.toNat_of_nonneg, bak_v, bak_n, wr_b01, wr_bt, b01_or, b01_0, b01_1, lc_lt0, lc_gt0, lc_eq0, wl_wr, wr_wr, wl_id, true_and, and_true, true_or, or_true, not_true_eq_false, not_false_eq_true, nc0, nc1, nc2, nc3, nc4, nc5, nc6, nc7, nc8, nc9, nc10, nc11, nc12, nc13, nc14, nc15, nc16, nc17, nc18, nc19, nc20, nc21, nc22, nc23, nc35, nc47, nc59, nc60, nc61, nc73, nc74, nc214, nc215, nc1115, nc2230, nc3345, if_true, if_false, Int.reduceToNat, hw.k, hw.r0, hw.r1, hw.r2, hw.r3, hw.r4, hw.k1, hw.k2, hw.k3, hw.k4, hw.k5, hw.n1, hw.n2, hw.n3, hw.n4, hw.n5, wv.f5, wv.f6, wv.f7, wv.f8, wv.f9, wv.f10, wv.f11, wv.f12, wv.f13, wv.f14, wv.pk, wv.qk, wv.hk, wv.rk]
    refine e1.trans ?_
    rw [Mender_mend_113, show x + -1 = x - 1 by omega]
    exact e2
theorem c_ch_1 {d w : Nat} {S : Int → Int} (gd : Gd S) {x r g : Int} (hx : -1 ≤ x ∧ x < g ∧ g < S 1) (hr : -1 ≤ r ∧ r < S 2) (hxr : x = -1 ↔ r = -1) (n : Int) : ∀ s, r + 1 ≤ s → s ≤ 12 → ∀ h, ME h w S → (∀ s, 0 ≤ s → s < S 2 → csR S g s = true → wV h S g s) → hI h 65 g.toNat = -1 → ∃ h', EX (d+4) m_Mender_choose 27 [(0, .inr (.inr (64))), (1, .inr (.inr (w))), (2, .inr (.inr (26))), (4, .inl (AR S x r - (jnM S - jA S g))), (5, .inl (x)), (6, .inl (r)), (7, .inl (g)), (8, .inl (s))] [] (h) = EX (d+4) m_Mender_choose 91 [(0, .inr (.inr (64))), (1, .inr (.inr (w))), (2, .inr (.inr (26))), (4, .inl (AR S x r - (jnM S - jA S g))), (5, .inl (x)), (6, .inl (r)), (7, .inl (g))] [] (h') ∧ hI h' 65 g.toNat = ff (PmR S x r n g) s (S 2) ∧ Fr (fun a k => a = 65 ∧ k = g.toNat) h h' := by
  have ga := gd.a
  have gb := gd.b
  have j2 := jA_rng S (i := S 1) (by omega)
  have j3 := jA_rng S (i := g) (by omega)
  rw [jA_N] at j2
  refine up_ind (hi := S 2) ?_ ?_
  · intro s hs h0 h1 h me wt v
    have hc := me.1
    have wv := me.2.1
    have hw := wv.1
    refine ⟨h, ?_, by rw [v, ff_stop hs], Fr.rf⟩
    rw [Mender_choose_27]
    simp (disch := omega) only [wr_id, ix_id, okx, if_pos, if_neg, Int.toNat_of_nonneg, bak_v, bak_n, wr_b01, wr_bt, b01_or, b01_0, b01_1, lc_lt0, lc_gt0, lc_eq0, wl_wr, wr_wr, wl_id, true_and, and_true, true_or, or_true, not_true_eq_false, not_false_eq_true, nc0, nc1, nc2, nc3, nc4, nc5, nc6, nc7, nc8, nc9, nc10, nc11, nc12, nc13, nc14, nc15, nc16, nc17, nc18, nc19, nc20, nc21, nc22, nc23, nc35, nc47, nc59, nc60, nc61, nc73, nc74, nc214, nc215, nc1115, nc2230, nc3345, if_true, if_false, Int.reduceToNat, hw.k, hw.r0, hw.r1, hw.r2, hw.r3, hw.r4, hw.k1, hw.k2, hw.k3, hw.k4, hw.k5, hw.n1, hw.n2, hw.n3, hw.n4, hw.n5, wv.f5, wv.f6, wv.f7, wv.f8, wv.f9, wv.f10, wv.f11, wv.f12, wv.f13, wv.f14, wv.pk, wv.qk, wv.hk, wv.rk]
  · intro s hs ih h0 h1 h me wt v
    have hc := me.1
    have wv := me.2.1
    have hw := wv.1
    have ec := c_canCome (d := d) me gd (x := x) (r := r) (g := g) (s := s) hx (by omega) hxr
    have ar := AR_rng S g s
    have ax := AR_rng S x r
    have kr := kbR_rng S g s
    rw [Mender_choose_27, ff_step hs]
    by_cases c : okR S x r g s = true
    · have cs : csR S g s = true := by have := c; rw [okR_cs] at this; exact this.1
      have ew := c_worthOf (d := d + 2) me gd (g := g) (s := s) (by omega) (by omega) (wt s (by omega) hs cs)
      by_cases c2 : kbR S g s + AR S g s = AR S x r
      · have cp : PmR S x r n g s = true := by simp [PmR, c, c2]
        have f0 : Fr (fun a k => a = 65 ∧ k = g.toNat) h (pI h 65 g.toNat s) := Fr.pI Fr.rf ⟨rfl, rfl⟩
        have e5 : hI (pI h 65 g.toNat s) 65 g.toNat = s := by rw [hI_pI, if_pos ⟨rfl, rfl⟩]
        have me1 := me.fr f0 (fun a k q => by omega)
        have hc1 := me1.1
        have wv1 := me1.2.1
        have hw1 := wv1.1
        refine ⟨pI h 65 g.toNat s, ?_, by rw [if_pos cp, e5], f0⟩
        simp (disch := omega) only [Mender_choose_36, Mender_choose_47, Mender_choose_59, Mender_choose_62, Mender_choose_71, Mender_choose_76, Mender_choose_85, wr_id, ix_id, okx, if_pos, if_neg, Int.toNat_of_nonneg, bak_v, bak_n, wr_b01, wr_bt, b01_or, b01_0, b01_1, lc_lt0, lc_gt0, lc_eq0, wl_wr, wr_wr, wl_id, true_and, and_true, true_or, or_true, not_true_eq_false, not_false_eq_true, nc0, nc1, nc2, nc3, nc4, nc5, nc6, nc7, nc8, nc9, nc10, nc11, nc12, nc13, nc14, nc15, nc16, nc17, nc18, nc19, nc20, nc21, nc22, nc23, nc35, nc47, nc59, nc60, nc61, nc73, nc74, nc214, nc215, nc1115, nc2230, nc3345, if_true, if_false, Int.reduceToNat, hw.k, hw.r0, hw.r1, hw.r2, hw.r3, hw.r4, hw.k1, hw.k2, hw.k3, hw.k4, hw.k5, hw.n1, hw.n2, hw.n3, hw.n4, hw.n5, wv.f5, wv.f6, wv.f7, wv.f8, wv.f9, wv.f10, wv.f11, wv.f12, wv.f13, wv.f14, wv.pk, wv.qk, wv.hk, wv.rk, hc.k6, hc.r5, hc.r6, hc.r0, hc.r2, hc.r7, hc.r8, hc.r9, hc.r10, hc.r11, hc.r12, hc.r13, hc.r14, hc.r15, hc.r16, hc.r17, hc.r18, hc.r8_0, hc.r8_1, hc.r11_0, hc.r11_1, hc.r60_0, hc.r60_1, hc.r60_4, hc.r64_0, hc.r64_3, hc.r64_4, hc.r68_0, hc.r41_0, hc.r41_1, hc.r42_0, hc.r42_1, hc.k7, hc.k8, hc.k9, hc.k11, hc.k12, hc.k13, hc.k32, hc.k41, hc.k42, hc.k43, hc.k60, hc.k61, hc.k62, hc.k63, hc.k64, hc.k65, hc.k66, hc.k67, hc.k68, hc.k69, hc.k70, hc.k71, hc.n6, hc.n7, hc.n8, hc.n9, hc.n11, hc.n12, hc.n13, hc.n32, hc.n41, hc.n42, hc.n43, hc.n60, hc.n61, hc.n62, hc.n63, hc.n64, hc.n65, hc.n66, hc.n67, hc.n68, hc.n69, hc.n70, hc.n71, v, ec, c, ew]
        rw [Mender_choose_27]
        have hc := hc1
        by_cases c4 : s + 1 < S 2
        · simp (disch := omega) only [Mender_choose_36, wr_id, ix_id, okx, if_pos, if_neg, Int.toNat_of_nonneg, bak_v, bak_n, wr_b01, wr_bt, b01_or, b01_0, b01_1, lc_lt0, lc_gt0, lc_eq0, wl_wr, wr_wr, wl_id, true_and, and_true, true_or, or_true, not_true_eq_false, not_false_eq_true, nc0, nc1, nc2, nc3, nc4, nc5, nc6, nc7, nc8, nc9, nc10, nc11, nc12, nc13, nc14, nc15, nc16, nc17, nc18, nc19, nc20, nc21, nc22, nc23, nc35, nc47, nc59, nc60, nc61, nc73, nc74, nc214, nc215, nc1115, nc2230, nc3345, if_true, if_false, Int.reduceToNat, hw1.k, wv1.f6, hc.k6, hc.r5, hc.r6, hc.r0, hc.r2, hc.r7, hc.r8, hc.r9, hc.r10, hc.r11, hc.r12, hc.r13, hc.r14, hc.r15, hc.r16, hc.r17, hc.r18, hc.r8_0, hc.r8_1, hc.r11_0, hc.r11_1, hc.r60_0, hc.r60_1, hc.r60_4, hc.r64_0, hc.r64_3, hc.r64_4, hc.r68_0, hc.r41_0, hc.r41_1, hc.r42_0, hc.r42_1, hc.k7, hc.k8, hc.k9, hc.k11, hc.k12, hc.k13, hc.k32, hc.k41, hc.k42, hc.k43, hc.k60, hc.k61, hc.k62, hc.k63, hc.k64, hc.k65, hc.k66, hc.k67, hc.k68, hc.k69, hc.k70, hc.k71, hc.n6, hc.n7, hc.n8, hc.n9, hc.n11, hc.n12, hc.n13, hc.n32, hc.n41, hc.n42, hc.n43, hc.n60, hc.n61, hc.n62, hc.n63, hc.n64, hc.n65, hc.n66, hc.n67, hc.n68, hc.n69, hc.n70, hc.n71, e5]
        · simp (disch := omega) only [wr_id, ix_id, okx, if_pos, if_neg, Int.toNat_of_nonneg, bak_v, bak_n, wr_b01, wr_bt, b01_or, b01_0, b01_1, lc_lt0, lc_gt0, lc_eq0, wl_wr, wr_wr, wl_id, true_and, and_true, true_or, or_true, not_true_eq_false, not_false_eq_true, nc0, nc1, nc2, nc3, nc4, nc5, nc6, nc7, nc8, nc9, nc10, nc11, nc12, nc13, nc14, nc15, nc16, nc17, nc18, nc19, nc20, nc21, nc22, nc23, nc35, nc47, nc59, nc60, nc61, nc73, nc74, nc214, nc215, nc1115, nc2230, nc3345, if_true, if_false, Int.reduceToNat, hw1.k, wv1.f6]
      · have cp : ¬ PmR S x r n g s = true := by simp [PmR, c2]
        rw [if_neg cp]
        obtain ⟨h2, e2, k2, f2⟩ := ih (by omega) (by omega) h me wt v
        refine ⟨h2, ?_, k2, f2⟩
        simp (disch := omega) only [Mender_choose_36, Mender_choose_47, Mender_choose_59, Mender_choose_62, Mender_choose_71, Mender_choose_85, wr_id, ix_id, okx, if_pos, if_neg, Int.toNat_of_nonneg, bak_v, bak_n, wr_b01, wr_bt, b01_or, b01_0, b01_1, lc_lt0, lc_gt0, lc_eq0, wl_wr, wr_wr, wl_id, true_and, and_true, true_or, or_true, not_true_eq_false, not_false_eq_true, nc0, nc1, nc2, nc3, nc4, nc5, nc6, nc7, nc8, nc9, nc10, nc11, nc12, nc13, nc14, nc15, nc16, nc17, nc18, nc19, nc20, nc21, nc22, nc23, nc35, nc47, nc59, nc60, nc61, nc73, nc74, nc214, nc215, nc1115, nc2230, nc3345, if_true, if_false, Int.reduceToNat, hw.k, hw.r0, hw.r1, hw.r2, hw.r3, hw.r4, hw.k1, hw.k2, hw.k3, hw.k4, hw.k5, hw.n1, hw.n2, hw.n3, hw.n4, hw.n5, wv.f5, wv.f6, wv.f7, wv.f8, wv.f9, wv.f10, wv.f11, wv.f12, wv.f13, wv.f14, wv.pk, wv.qk, wv.hk, wv.rk, hc.k6, hc.r5, hc.r6, hc.r0, hc.r2, hc.r7, hc.r8, hc.r9, hc.r10, hc.r11, hc.r12, hc.r13, hc.r14, hc.r15, hc.r16, hc.r17, hc.r18, hc.r8_0, hc.r8_1, hc.r11_0, hc.r11_1, hc.r60_0, hc.r60_1, hc.r60_4, hc.r64_0, hc.r64_3, hc.r64_4, hc.r68_0, hc.r41_0, hc.r41_1, hc.r42_0, hc.r42_1, hc.k7, hc.k8, hc.k9, hc.k11, hc.k12, hc.k13, hc.k32, hc.k41, hc.k42, hc.k43, hc.k60, hc.k61, hc.k62, hc.k63, hc.k64, hc.k65, hc.k66, hc.k67, hc.k68, hc.k69, hc.k70, hc.k71, hc.n6, hc.n7, hc.n8, hc.n9, hc.n11, hc.n12, hc.n13, hc.n32, hc.n41, hc.n42, hc.n43, hc.n60, hc.n61, hc.n62, hc.n63, hc.n64, hc.n65, hc.n66, hc.n67, hc.n68, hc.n69, hc.n70, hc.n71, v, ec, c, ew]
        exact e2
    · have c' : okR S x r g s = false := by simpa using c
      have cp : ¬ PmR S x r n g s = true := by simp [PmR, c']
      rw [c'] at ec
      rw [if_neg cp]
      obtain ⟨h2, e2, k2, f2⟩ := ih (by omega) (by omega) h me wt v
      refine ⟨h2, ?_, k2, f2⟩
      simp (disch := omega) only [Mender_choose_36, Mender_choose_47, Mender_choose_59, Mender_choose_85, wr_id, ix_id, okx, if_pos, if_neg, Int.toNat_of_nonneg, bak_v, bak_n, wr_b01, wr_bt, b01_or, b01_0, b01_1, lc_lt0, lc_gt0, lc_eq0, wl_wr, wr_wr, wl_id, true_and, and_true, true_or, or_true, not_true_eq_false, not_false_eq_true, nc0, nc1, nc2, nc3, nc4, nc5, nc6, nc7, nc8, nc9, nc10, nc11, nc12, nc13, nc14, nc15, nc16, nc17, nc18, nc19, nc20, nc21, nc22, nc23, nc35, nc47, nc59, nc60, nc61, nc73, nc74, nc214, nc215, nc1115, nc2230, nc3345, if_true, if_false, Int.reduceToNat, hw.k, hw.r0, hw.r1, hw.r2, hw.r3, hw.r4, hw.k1, hw.k2, hw.k3, hw.k4, hw.k5, hw.n1, hw.n2, hw.n3, hw.n4, hw.n5, wv.f5, wv.f6, wv.f7, wv.f8, wv.f9, wv.f10, wv.f11, wv.f12, wv.f13, wv.f14, wv.pk, wv.qk, wv.hk, wv.rk, hc.k6, hc.r5, hc.r6, hc.r0, hc.r2, hc.r7, hc.r8, hc.r9, hc.r10, hc.r11, hc.r12, hc.r13, hc.r14, hc.r15, hc.r16, hc.r17, hc.r18, hc.r8_0, hc.r8_1, hc.r11_0, hc.r11_1, hc.r60_0, hc.r60_1, hc.r60_4, hc.r64_0, hc.r64_3, hc.r64_4, hc.r68_0, hc.r41_0, hc.r41_1, hc.r42_0, hc.r42_1, hc.k7, hc.k8, hc.k9, hc.k11, hc.k12, hc.k13, hc.k32, hc.k41, hc.k42, hc.k43, hc.k60, hc.k61, hc.k62, hc.k63, hc.k64, hc.k65, hc.k66, hc.k67, hc.k68, hc.k69, hc.k70, hc.k71, hc.n6, hc.n7, hc.n8, hc.n9, hc.n11, hc.n12, hc.n13, hc.n32, hc.n41, hc.n42, hc.n43, hc.n60, hc.n61, hc.n62, hc.n63, hc.n64, hc.n65, hc.n66, hc.n67, hc.n68, hc.n69, hc.n70, hc.n71, v, ec]
      simp only [Bool.false_eq_true, not_false_eq_true, if_true]
      exact e2
theorem c_ch_2 {d w : Nat} {S : Int → Int} (gd : Gd S) : ∀ (m : Nat) (g x r n : Int) (h : Hp), g + m = S 1 → (-1 ≤ x ∧ x < g) → (-1 ≤ r ∧ r < S 2) → (x = -1 ↔ r = -1) → ME h w S → (∀ g s, 0 ≤ g → g < S 1 → 0 ≤ s → s < S 2 → csR S g s = true → wV h S g s) → (∀ j, g ≤ j → j < 12 → hI h 65 j.toNat = -1) → ∃ h', EX (d+4) m_Mender_choose 12 [(0, .inr (.inr (64))), (1, .inr (.inr (w))), (2, .inr (.inr (26))), (4, .inl (AR S x r - (jnM S - jA S g))), (5, .inl (x)), (6, .inl (r)), (7, .inl (g))] [] (h) = some (.inl 0, h') ∧ (∀ z : Nat, (z : Int) < S 1 → hI h' 65 z = if (z : Int) < g then hI h 65 z else hwG (PmR S) (S 2) z m g x r n) ∧ Fr (fun a _ => a = 65) h h' := by
  have ga := gd.a
  have gb := gd.b
  intro m
  induction m with
  | zero =>
    intro g x r n h hg hx hr hxr me wt v
    have wv := me.2.1
    have hw := wv.1
    refine ⟨h, ?_, fun z hz => by rw [if_pos (by omega)], Fr.rf⟩
    rw [Mender_choose_12]
    simp (disch := omega) only [Mender_choose_156, wr_id, ix_id, okx, if_pos, if_neg, Int.toNat_of_nonneg, bak_v, bak_n, wr_b01, wr_bt, b01_or, b01_0, b01_1, lc_lt0, lc_gt0, lc_eq0, wl_wr, wr_wr, wl_id, true_and, and_true, true_or, or_true, not_true_eq_false, not_false_eq_true, nc0, nc1, nc2, nc3, nc4, nc5, nc6, nc7, nc8, nc9, nc10, nc11, nc12, nc13, nc14, nc15, nc16, nc17, nc18, nc19, nc20, nc21, nc22, nc23, nc35, nc47, nc59, nc60, nc61, nc73, nc74, nc214, nc215, nc1115, nc2230, nc3345, if_true, if_false, Int.reduceToNat, hw.k, hw.r0, hw.r1, hw.r2, hw.r3, hw.r4, hw.k1, hw.k2, hw.k3, hw.k4, hw.k5, hw.n1, hw.n2, hw.n3, hw.n4, hw.n5, wv.f5, wv.f6, wv.f7, wv.f8, wv.f9, wv.f10, wv.f11, wv.f12, wv.f13, wv.f14, wv.pk, wv.qk, wv.hk, wv.rk]
  | succ m ih =>
    intro g x r n h hg hx hr hxr me wt v
    have hc := me.1
    have wv := me.2.1
    have hw := wv.1
    have hv := me.2.2.2
    have ha := hv.1
    obtain ⟨h1, e1, k1, f1⟩ := c_ch_1 (d := d) (w := w) gd (x := x) (r := r) (g := g) (by omega) hr hxr n (r + 1) (by omega) (by omega) h me (fun s s0 s1 cs => wt g s (by omega) (by omega) s0 s1 cs) (v g (by omega) (by omega))
    have me1 := me.fr f1 (fun a k q => by omega)
    have wt1 : ∀ g s, 0 ≤ g → g < S 1 → 0 ≤ s → s < S 2 → csR S g s = true → wV h1 S g s := fun g s a b c d e => by unfold wV; rw [f1.I (by omega)]; exact wt g s a b c d e
    have v1 : ∀ j, g + 1 ≤ j → j < 12 → hI h1 65 j.toNat = -1 := fun j a b => by rw [f1.I (by omega)]; exact v j (by omega) b
    have fm : Fr (fun a _ => a = 65) h h1 := f1.mo (fun a k q => q.1)
    have js := jA_s (S := S) (i := g) (by omega)
    have sp := ff_spec (p := PmR S x r n g) (N := S 2) (r + 1)
    have st : EX (d+4) m_Mender_choose 12 [(0, .inr (.inr (64))), (1, .inr (.inr (w))), (2, .inr (.inr (26))), (4, .inl (AR S x r - (jnM S - jA S g))), (5, .inl (x)), (6, .inl (r)), (7, .inl (g))] [] (h) = EX (d+4) m_Mender_choose 91 [(0, .inr (.inr (64))), (1, .inr (.inr (w))), (2, .inr (.inr (26))), (4, .inl (AR S x r - (jnM S - jA S g))), (5, .inl (x)), (6, .inl (r)), (7, .inl (g))] [] (h1) := by
      rw [Mender_choose_12]
      simp (disch := omega) only [Mender_choose_21, wr_id, ix_id, okx, if_pos, if_neg, Int.toNat_of_nonneg, bak_v, bak_n, wr_b01, wr_bt, b01_or, b01_0, b01_1, lc_lt0, lc_gt0, lc_eq0, wl_wr, wr_wr, wl_id, true_and, and_true, true_or, or_true, not_true_eq_false, not_false_eq_true, nc0, nc1, nc2, nc3, nc4, nc5, nc6, nc7, nc8, nc9, nc10, nc11, nc12, nc13, nc14, nc15, nc16, nc17, nc18, nc19, nc20, nc21, nc22, nc23, nc35, nc47, nc59, nc60, nc61, nc73, nc74, nc214, nc215, nc1115, nc2230, nc3345, if_true, if_false, Int.reduceToNat, hw.k, hw.r0, hw.r1, hw.r2, hw.r3, hw.r4, hw.k1, hw.k2, hw.k3, hw.k4, hw.k5, hw.n1, hw.n2, hw.n3, hw.n4, hw.n5, wv.f5, wv.f6, wv.f7, wv.f8, wv.f9, wv.f10, wv.f11, wv.f12, wv.f13, wv.f14, wv.pk, wv.qk, wv.hk, wv.rk]
      exact e1
    have low : ∀ z : Nat, (z : Int) < g → hI h1 65 z = hI h 65 z := fun z hz => f1.I (by omega)
    have hc1 := me1.1
    have hv1 := me1.2.2.2
    have ha1 := hv1.1
    have gr := gd.rg (i := g) (by omega) (by omega)
    by_cases cq : ff (PmR S x r n g) (r + 1) (S 2) = -1
    · rw [cq] at k1
      obtain ⟨h2, e2, v2, f2⟩ := ih (g + 1) x r n h1 (by omega) (by omega) hr hxr me1 wt1 v1
      refine ⟨h2, ?_, fun z hz => ?_, fm.tr f2⟩
      · refine st.trans ?_
        have hc := hc1
        have ha := ha1
        unfold b01 at js
        by_cases cj : S (61 + g) = -1
        · rw [if_neg (fun q => q cj)] at js
          rw [js, Int.add_zero] at e2
          simp (disch := omega) only [Mender_choose_91, Mender_choose_138, Mender_choose_144, Mender_choose_150, wr_id, ix_id, okx, if_pos, if_neg, Int.toNat_of_nonneg, bak_v, bak_n, wr_b01, wr_bt, b01_or, b01_0, b01_1, lc_lt0, lc_gt0, lc_eq0, wl_wr, wr_wr, wl_id, true_and, and_true, true_or, or_true, not_true_eq_false, not_false_eq_true, nc0, nc1, nc2, nc3, nc4, nc5, nc6, nc7, nc8, nc9, nc10, nc11, nc12, nc13, nc14, nc15, nc16, nc17, nc18, nc19, nc20, nc21, nc22, nc23, nc35, nc47, nc59, nc60, nc61, nc73, nc74, nc214, nc215, nc1115, nc2230, nc3345, if_true, if_false, Int.reduceToNat, hc.k6, hc.r5, hc.r6, hc.r0, hc.r2, hc.r7, hc.r8, hc.r9, hc.r10, hc.r11, hc.r12, hc.r13, hc.r14, hc.r15, hc.r16, hc.r17, hc.r18, hc.r8_0, hc.r8_1, hc.r11_0, hc.r11_1, hc.r60_0, hc.r60_1, hc.r60_4, hc.r64_0, hc.r64_3, hc.r64_4, hc.r68_0, hc.r41_0, hc.r41_1, hc.r42_0, hc.r42_1, hc.k7, hc.k8, hc.k9, hc.k11, hc.k12, hc.k13, hc.k32, hc.k41, hc.k42, hc.k43, hc.k60, hc.k61, hc.k62, hc.k63, hc.k64, hc.k65, hc.k66, hc.k67, hc.k68, hc.k69, hc.k70, hc.k71, hc.n6, hc.n7, hc.n8, hc.n9, hc.n11, hc.n12, hc.n13, hc.n32, hc.n41, hc.n42, hc.n43, hc.n60, hc.n61, hc.n62, hc.n63, hc.n64, hc.n65, hc.n66, hc.n67, hc.n68, hc.n69, hc.n70, hc.n71, ha.k, ha.r, ha.k1, ha.n1, k1, c_isJoined' hv1 gd, cj]
          exact e2
        · rw [if_pos cj] at js
          rw [js, show AR S x r - (jnM S - (jA S g + 1)) = AR S x r - (jnM S - jA S g) + 1 by omega] at e2
          simp (disch := omega) only [Mender_choose_91, Mender_choose_138, Mender_choose_144, Mender_choose_147, Mender_choose_150, wr_id, ix_id, okx, if_pos, if_neg, Int.toNat_of_nonneg, bak_v, bak_n, wr_b01, wr_bt, b01_or, b01_0, b01_1, lc_lt0, lc_gt0, lc_eq0, wl_wr, wr_wr, wl_id, true_and, and_true, true_or, or_true, not_true_eq_false, not_false_eq_true, nc0, nc1, nc2, nc3, nc4, nc5, nc6, nc7, nc8, nc9, nc10, nc11, nc12, nc13, nc14, nc15, nc16, nc17, nc18, nc19, nc20, nc21, nc22, nc23, nc35, nc47, nc59, nc60, nc61, nc73, nc74, nc214, nc215, nc1115, nc2230, nc3345, if_true, if_false, Int.reduceToNat, hc.k6, hc.r5, hc.r6, hc.r0, hc.r2, hc.r7, hc.r8, hc.r9, hc.r10, hc.r11, hc.r12, hc.r13, hc.r14, hc.r15, hc.r16, hc.r17, hc.r18, hc.r8_0, hc.r8_1, hc.r11_0, hc.r11_1, hc.r60_0, hc.r60_1, hc.r60_4, hc.r64_0, hc.r64_3, hc.r64_4, hc.r68_0, hc.r41_0, hc.r41_1, hc.r42_0, hc.r42_1, hc.k7, hc.k8, hc.k9, hc.k11, hc.k12, hc.k13, hc.k32, hc.k41, hc.k42, hc.k43, hc.k60, hc.k61, hc.k62, hc.k63, hc.k64, hc.k65, hc.k66, hc.k67, hc.k68, hc.k69, hc.k70, hc.k71, hc.n6, hc.n7, hc.n8, hc.n9, hc.n11, hc.n12, hc.n13, hc.n32, hc.n41, hc.n42, hc.n43, hc.n60, hc.n61, hc.n62, hc.n63, hc.n64, hc.n65, hc.n66, hc.n67, hc.n68, hc.n69, hc.n70, hc.n71, ha.k, ha.r, ha.k1, ha.n1, k1, c_isJoined' hv1 gd]
          exact e2
      · rw [v2 z hz]
        simp only [hwG]
        by_cases c1 : (z : Int) < g
        · rw [if_pos (by omega), if_pos c1, low z c1]
        · rw [if_neg c1]
          by_cases c2 : g = (z : Int)
          · rw [if_pos (show (z : Int) < g + 1 by omega), if_pos c2, cq]
            rw [show z = g.toNat by omega]; exact k1
          · rw [if_neg (show ¬ (z : Int) < g + 1 by omega), if_neg c2, if_pos cq]
    · have sq : r + 1 ≤ ff (PmR S x r n g) (r + 1) (S 2) ∧ ff (PmR S x r n g) (r + 1) (S 2) < S 2 ∧ PmR S x r n g (ff (PmR S x r n g) (r + 1) (S 2)) = true := by
        rcases sp with q | q
        · exact absurd q.1 cq
        · exact ⟨q.1, q.2.1, q.2.2.1⟩
      generalize hs : ff (PmR S x r n g) (r + 1) (S 2) = s at *
      have cs : csR S g s = true := by
        have := sq.2.2
        simp only [PmR, decide_eq_true_eq] at this
        have := this.1
        rw [okR_cs] at this
        exact this.1
      have ew := wt1 g s (by omega) (by omega) (by omega) sq.2.1 cs
      unfold wV at ew
      obtain ⟨h2, e2, v2, f2⟩ := ih (g + 1) g s (n - 1) h1 (by omega) (by omega) (by omega) (by omega) me1 wt1 v1
      refine ⟨h2, ?_, fun z hz => ?_, fm.tr f2⟩
      · refine st.trans ?_
        have hc := hc1
        simp (disch := omega) only [Mender_choose_91, Mender_choose_102, Mender_choose_150, wr_id, ix_id, okx, if_pos, if_neg, Int.toNat_of_nonneg, bak_v, bak_n, wr_b01, wr_bt, b01_or, b01_0, b01_1, lc_lt0, lc_gt0, lc_eq0, wl_wr, wr_wr, wl_id, true_and, and_true, true_or, or_true, not_true_eq_false, not_false_eq_true, nc0, nc1, nc2, nc3, nc4, nc5, nc6, nc7, nc8, nc9, nc10, nc11, nc12, nc13, nc14, nc15, nc16, nc17, nc18, nc19, nc20, nc21, nc22, nc23, nc35, nc47, nc59, nc60, nc61, nc73, nc74, nc214, nc215, nc1115, nc2230, nc3345, if_true, if_false, Int.reduceToNat, hc.k6, hc.r5, hc.r6, hc.r0, hc.r2, hc.r7, hc.r8, hc.r9, hc.r10, hc.r11, hc.r12, hc.r13, hc.r14, hc.r15, hc.r16, hc.r17, hc.r18, hc.r8_0, hc.r8_1, hc.r11_0, hc.r11_1, hc.r60_0, hc.r60_1, hc.r60_4, hc.r64_0, hc.r64_3, hc.r64_4, hc.r68_0, hc.r41_0, hc.r41_1, hc.r42_0, hc.r42_1, hc.k7, hc.k8, hc.k9, hc.k11, hc.k12, hc.k13, hc.k32, hc.k41, hc.k42, hc.k43, hc.k60, hc.k61, hc.k62, hc.k63, hc.k64, hc.k65, hc.k66, hc.k67, hc.k68, hc.k69, hc.k70, hc.k71, hc.n6, hc.n7, hc.n8, hc.n9, hc.n11, hc.n12, hc.n13, hc.n32, hc.n41, hc.n42, hc.n43, hc.n60, hc.n61, hc.n62, hc.n63, hc.n64, hc.n65, hc.n66, hc.n67, hc.n68, hc.n69, hc.n70, hc.n71, k1, ew]
        exact e2
      · rw [v2 z hz]
        simp only [hwG]
        rw [hs]
        by_cases c1 : (z : Int) < g
        · rw [if_pos (by omega), if_pos c1, low z c1]
        · rw [if_neg c1]
          by_cases c2 : g = (z : Int)
          · rw [if_pos (show (z : Int) < g + 1 by omega), if_pos c2]
            rw [show z = g.toNat by omega]; exact k1
          · rw [if_neg (show ¬ (z : Int) < g + 1 by omega), if_neg c2, if_neg cq]
