/-! the class: chooseEven, evenFor -/
theorem PmE_iff {S : Int → Int} (gd : Gd S) {x r n g s : Int} (hn : 1 ≤ n ∧ n ≤ 12) (hx : -1 ≤ x ∧ x < g ∧ g < S 1) (hr : -1 ≤ r ∧ r < s ∧ s < S 2) (hxr : x = -1 ↔ r = -1) (hl : ¬ Lv S (eMo S) 1 n x r = -1) : (0 ≤ sgE S x r g s ∧ sgE S x r g s ≤ eMo S ∧ sgE S x r g s * sgE S x r g s + toF (EvC S (eMo S) 1 (n - 1) g s) = Lv S (eMo S) 1 n x r) ↔ PmE S x r n g s = true := by
  have ga := gd.a
  have gb := gd.b
  have eo := eMo_ok gd
  have lr := Lv_rng gd (eMo S) 1 (n := n - 1) (by omega) (x := g) (r := s) (by omega) (by omega) (by omega)
  have ln := Lv_rng gd (eMo S) 1 (n := n) (by omega) (x := x) (r := r) (by omega) (by omega) hxr
  unfold PmE
  simp only [decide_eq_true_eq]
  by_cases cb : bt (S 10) s = 0
  · have ee : EvC S (eMo S) 1 (n - 1) g s = Lv S (eMo S) 1 (n - 1) g s := by unfold EvC; rw [if_pos cb]
    rw [ee]
    by_cases cs : 0 ≤ sgE S x r g s
    · have cf : Fpl S x r g s = true := by
        unfold sgE at cs
        by_cases c : x = -1
        · simp [Fpl, cb, c]
        · rw [if_neg c] at cs
          simp [Fpl, cb, cs]
      have sr := sgE_rng gd hx hr hxr cf
      have q := sq_rng sr
      unfold lby toF
      rw [if_pos cf]
      generalize sgE S x r g s = a at *
      generalize a * a = aa at *
      by_cases c1 : Lv S (eMo S) 1 (n - 1) g s = -1
      · rw [if_pos c1, if_pos (Or.inl c1)]
        omega
      · rw [if_neg c1]
        by_cases c2 : eMo S < a
        · rw [if_pos (Or.inr ⟨by omega, c2⟩)]
          omega
        · rw [if_neg (by omega), if_neg (by omega)]
          omega
    · have cf : ¬ Fpl S x r g s = true := by
        unfold sgE at cs
        by_cases c : x = -1
        · rw [if_pos c] at cs; omega
        · rw [if_neg c] at cs
          simp [Fpl, c]
          omega
      unfold lby
      rw [if_neg cf]
      omega
  · have ee : EvC S (eMo S) 1 (n - 1) g s = -1 := by unfold EvC; rw [if_neg cb]
    have cf : ¬ Fpl S x r g s = true := by simp [Fpl, cb]
    unfold lby
    rw [ee, if_neg cf, show toF (-1) = 536870912 from rfl]
    have : 0 ≤ sgE S x r g s * sgE S x r g s := by
      rcases Int.le_total 0 (sgE S x r g s) with a | a
      · exact Int.mul_nonneg a a
      · exact Int.mul_nonneg_of_nonpos_of_nonpos a a
    omega
def fdE (S : Int → Int) (x r n g f : Int) : Int := if f = -1 then Lv S (eMo S) 1 n x r else Lv S (eMo S) 1 (n - 1) g f
theorem c_cE_1 {d w : Nat} {S : Int → Int} (gd : Gd S) {x r g n : Int} (hn : 1 ≤ n ∧ n ≤ fullN S) (hx : -1 ≤ x ∧ x < g ∧ g < S 1) (hr : -1 ≤ r ∧ r < S 2) (hxr : x = -1 ↔ r = -1) (hl : ¬ Lv S (eMo S) 1 n x r = -1) : ∀ s, r + 1 ≤ s → s ≤ 12 → ∀ h, EN h w S 1 → SE h S (eMo S) 1 → hI h 63 g.toNat = -1 → ∃ h', EX (d+2) m_Joinings_chooseEven 40 [(0, .inr (.inr (60))), (1, .inr (.inr (w))), (2, .inr (.inr (70))), (3, .inl (Lv S (eMo S) 1 n x r)), (4, .inl (n)), (5, .inl (x)), (6, .inl (r)), (7, .inl (g)), (8, .inl (s))] [] (h) = EX (d+2) m_Joinings_chooseEven 144 [(0, .inr (.inr (60))), (1, .inr (.inr (w))), (2, .inr (.inr (70))), (3, .inl (fdE S x r n g (ff (PmE S x r n g) s (S 2)))), (4, .inl (n)), (5, .inl (x)), (6, .inl (r)), (7, .inl (g))] [] (h') ∧ hI h' 63 g.toNat = ff (PmE S x r n g) s (S 2) ∧ Fr (fun a k => a = 63 ∧ k = g.toNat) h h' := by
  have ga := gd.a
  have gb := gd.b
  have fs := fullN_spec S
  have er := eMo_rng gd
  have ln := Lv_rng gd (eMo S) 1 (n := n) (by omega) (x := x) (r := r) (by omega) (by omega) hxr
  refine up_ind (hi := S 2) ?_ ?_
  · intro s hs h0 h1 h en se v
    have wv := en.1.2
    have hw := wv.1
    refine ⟨h, ?_, by rw [v, ff_stop hs], Fr.rf⟩
    rw [Joinings_chooseEven_40, ff_stop hs]
    simp (disch := omega) only [wr_id, ix_id, okx, if_pos, if_neg, Int.toNat_of_nonneg, bak_v, bak_n, wr_b01, wr_bt, b01_or, b01_0, b01_1, lc_lt0, lc_gt0, lc_eq0, wl_wr, wr_wr, wl_id, true_and, and_true, true_or, or_true, not_true_eq_false, not_false_eq_true, nc0, nc1, nc2, nc3, nc4, nc5, nc6, nc7, nc8, nc9, nc10, nc11, nc12, nc13, nc14, nc15, nc16, nc17, nc18, nc19, nc20, nc21, nc22, nc23, nc35, nc47, nc59, nc60, nc61, nc73, nc74, nc214, nc215, nc1115, nc2230, nc3345, if_true, if_false, Int.reduceToNat, hw.k, hw.r0, hw.r1, hw.r2, hw.r3, hw.r4, hw.k1, hw.k2, hw.k3, hw.k4, hw.k5, hw.n1, hw.n2, hw.n3, hw.n4, hw.n5, wv.f5, wv.f6, wv.f7, wv.f8, wv.f9, wv.f10, wv.f11, wv.f12, wv.f13, wv.f14, wv.pk, wv.qk, wv.hk, wv.rk]
    rfl
  · intro s hs ih h0 h1 h en se v
    have hc := en.1.1
    have wv := en.1.2
    have hw := wv.1
    have e5 := en.2.2 rfl
    have iff1 := PmE_iff gd (x := x) (r := r) (n := n) (g := g) (s := s) (by omega) hx (by omega) hxr hl
    have e7 := se g s (by omega) (by omega) (by omega) hs (n - 1) (by omega) (by omega)
    dsimp only at e7
    rw [show (g * 12 + s) * 12 + (n - 1) = (g * 12 + s) * 12 + n - 1 by omega] at e7
    have lr := Lv_rng gd (eMo S) 1 (n := n - 1) (by omega) (x := g) (r := s) (by omega) (by omega) (by omega)
    have tr := toF_rng (v := EvC S (eMo S) 1 (n - 1) g s) (by unfold EvC; split <;> omega)
    have e92 : EX (d+2) m_Joinings_chooseEven 60 [(0, .inr (.inr (60))), (1, .inr (.inr (w))), (2, .inr (.inr (70))), (3, .inl (Lv S (eMo S) 1 n x r)), (4, .inl (n)), (5, .inl (x)), (6, .inl (r)), (7, .inl (g)), (8, .inl (s))] [] (h) = EX (d+2) m_Joinings_chooseEven 82 [(0, .inr (.inr (60))), (1, .inr (.inr (w))), (2, .inr (.inr (70))), (3, .inl (Lv S (eMo S) 1 n x r)), (4, .inl (n)), (5, .inl (x)), (6, .inl (r)), (7, .inl (g)), (8, .inl (s))] [.inl (sgE S x r g s)] (h) := by
      unfold sgE
      by_cases c : x = -1
      · rw [if_pos c]
        simp (disch := omega) only [Joinings_chooseEven_60, Joinings_chooseEven_66, wr_id, ix_id, okx, if_pos, if_neg, Int.toNat_of_nonneg, bak_v, bak_n, wr_b01, wr_bt, b01_or, b01_0, b01_1, lc_lt0, lc_gt0, lc_eq0, wl_wr, wr_wr, wl_id, true_and, and_true, true_or, or_true, not_true_eq_false, not_false_eq_true, nc0, nc1, nc2, nc3, nc4, nc5, nc6, nc7, nc8, nc9, nc10, nc11, nc12, nc13, nc14, nc15, nc16, nc17, nc18, nc19, nc20, nc21, nc22, nc23, nc35, nc47, nc59, nc60, nc61, nc73, nc74, nc214, nc215, nc1115, nc2230, nc3345, if_true, if_false, Int.reduceToNat]
      · rw [if_neg c]
        have c' : ¬ r = -1 := fun q => c (hxr.mpr q)
        have es := c_sag (d := d + 1) wv ga.2 gb.2 (x := x) (r := r) (y := g) (s := s) (by omega) (by omega) (by omega) (by omega) (by omega) (by omega)
        simp (disch := omega) only [Joinings_chooseEven_60, Joinings_chooseEven_70, wr_id, ix_id, okx, if_pos, if_neg, Int.toNat_of_nonneg, bak_v, bak_n, wr_b01, wr_bt, b01_or, b01_0, b01_1, lc_lt0, lc_gt0, lc_eq0, wl_wr, wr_wr, wl_id, true_and, and_true, true_or, or_true, not_true_eq_false, not_false_eq_true, nc0, nc1, nc2, nc3, nc4, nc5, nc6, nc7, nc8, nc9, nc10, nc11, nc12, nc13, nc14, nc15, nc16, nc17, nc18, nc19, nc20, nc21, nc22, nc23, nc35, nc47, nc59, nc60, nc61, nc73, nc74, nc214, nc215, nc1115, nc2230, nc3345, if_true, if_false, Int.reduceToNat, hw.k, hw.r0, hw.r1, hw.r2, hw.r3, hw.r4, hw.k1, hw.k2, hw.k3, hw.k4, hw.k5, hw.n1, hw.n2, hw.n3, hw.n4, hw.n5, es]
    have sr : -2147483648 ≤ sgE S x r g s ∧ sgE S x r g s ≤ 1200 := by
      unfold sgE
      split
      · omega
      · rename_i c
        have c' : ¬ r = -1 := fun q => c (hxr.mpr q)
        have sg := gd.1.sag (x := x) (r := r) (y := g) (s := s) (by omega) (by omega) (by omega) (by omega)
        omega
    rw [Joinings_chooseEven_40, ff_step hs]
    by_cases c0 : PmE S x r n g s = true
    · have cc := iff1.mpr c0
      have cb : bt (S 10) s = 0 := by
        refine Decidable.not_not.mp fun q => ?_
        have : EvC S (eMo S) 1 (n - 1) g s = -1 := by unfold EvC; rw [if_neg q]
        rw [this, show toF (-1) = 536870912 from rfl] at cc
        have q := sq_rng (a := sgE S x r g s) (by omega)
        omega
      have ee : EvC S (eMo S) 1 (n - 1) g s = Lv S (eMo S) 1 (n - 1) g s := by unfold EvC; rw [if_pos cb]
      have pn := PmE_ne hl c0
      have tf : toF (EvC S (eMo S) 1 (n - 1) g s) = Lv S (eMo S) 1 (n - 1) g s := by rw [ee]; unfold toF; rw [if_neg pn]
      rw [tf] at e7 cc
      have f0 : Fr (fun a k => a = 63 ∧ k = g.toNat) h (pI h 63 g.toNat s) := Fr.pI Fr.rf ⟨rfl, rfl⟩
      have e6 : hI (pI h 63 g.toNat s) 63 g.toNat = s := by rw [hI_pI, if_pos ⟨rfl, rfl⟩]
      have en1 := en.fr f0 (fun a k q => Or.inl q.1)
      have hc1 := en1.1.1
      have wv1 := en1.1.2
      have hw1 := wv1.1
      have q := sq_rng (a := sgE S x r g s) (by omega)
      refine ⟨pI h 63 g.toNat s, ?_, by rw [if_pos c0, e6], f0⟩
      rw [if_pos c0]
      have ef : fdE S x r n g s = Lv S (eMo S) 1 (n - 1) g s := by unfold fdE; rw [if_neg (by omega)]
      rw [ef]
      simp (disch := omega) only [Joinings_chooseEven_49, wr_id, ix_id, okx, if_pos, if_neg, Int.toNat_of_nonneg, bak_v, bak_n, wr_b01, wr_bt, b01_or, b01_0, b01_1, lc_lt0, lc_gt0, lc_eq0, wl_wr, wr_wr, wl_id, true_and, and_true, true_or, or_true, not_true_eq_false, not_false_eq_true, nc0, nc1, nc2, nc3, nc4, nc5, nc6, nc7, nc8, nc9, nc10, nc11, nc12, nc13, nc14, nc15, nc16, nc17, nc18, nc19, nc20, nc21, nc22, nc23, nc35, nc47, nc59, nc60, nc61, nc73, nc74, nc214, nc215, nc1115, nc2230, nc3345, if_true, if_false, Int.reduceToNat, hw.k, hw.r0, hw.r1, hw.r2, hw.r3, hw.r4, hw.k1, hw.k2, hw.k3, hw.k4, hw.k5, hw.n1, hw.n2, hw.n3, hw.n4, hw.n5, wv.f5, wv.f6, wv.f7, wv.f8, wv.f9, wv.f10, wv.f11, wv.f12, wv.f13, wv.f14, wv.pk, wv.qk, wv.hk, wv.rk, hc.k6, hc.r5, hc.r6, hc.r0, hc.r2, hc.r7, hc.r8, hc.r9, hc.r10, hc.r11, hc.r12, hc.r13, hc.r14, hc.r15, hc.r16, hc.r17, hc.r18, hc.r8_0, hc.r8_1, hc.r11_0, hc.r11_1, hc.r60_0, hc.r60_1, hc.r60_4, hc.r64_0, hc.r64_3, hc.r64_4, hc.r68_0, hc.r41_0, hc.r41_1, hc.r42_0, hc.r42_1, hc.k7, hc.k8, hc.k9, hc.k11, hc.k12, hc.k13, hc.k32, hc.k41, hc.k42, hc.k43, hc.k60, hc.k61, hc.k62, hc.k63, hc.k64, hc.k65, hc.k66, hc.k67, hc.k68, hc.k69, hc.k70, hc.k71, hc.n6, hc.n7, hc.n8, hc.n9, hc.n11, hc.n12, hc.n13, hc.n32, hc.n41, hc.n42, hc.n43, hc.n60, hc.n61, hc.n62, hc.n63, hc.n64, hc.n65, hc.n66, hc.n67, hc.n68, hc.n69, hc.n70, hc.n71, v]
      refine e92.trans ?_
      simp (disch := omega) only [Joinings_chooseEven_82, Joinings_chooseEven_92, Joinings_chooseEven_105, Joinings_chooseEven_114, Joinings_chooseEven_126, Joinings_chooseEven_135, Joinings_chooseEven_138, wr_id, ix_id, okx, if_pos, if_neg, Int.toNat_of_nonneg, bak_v, bak_n, wr_b01, wr_bt, b01_or, b01_0, b01_1, lc_lt0, lc_gt0, lc_eq0, wl_wr, wr_wr, wl_id, true_and, and_true, true_or, or_true, not_true_eq_false, not_false_eq_true, nc0, nc1, nc2, nc3, nc4, nc5, nc6, nc7, nc8, nc9, nc10, nc11, nc12, nc13, nc14, nc15, nc16, nc17, nc18, nc19, nc20, nc21, nc22, nc23, nc35, nc47, nc59, nc60, nc61, nc73, nc74, nc214, nc215, nc1115, nc2230, nc3345, if_true, if_false, Int.reduceToNat, hw.k, hw.r0, hw.r1, hw.r2, hw.r3, hw.r4, hw.k1, hw.k2, hw.k3, hw.k4, hw.k5, hw.n1, hw.n2, hw.n3, hw.n4, hw.n5, wv.f5, wv.f6, wv.f7, wv.f8, wv.f9, wv.f10, wv.f11, wv.f12, wv.f13, wv.f14, wv.pk, wv.qk, wv.hk, wv.rk, hc.k6, hc.r5, hc.r6, hc.r0, hc.r2, hc.r7, hc.r8, hc.r9, hc.r10, hc.r11, hc.r12, hc.r13, hc.r14, hc.r15, hc.r16, hc.r17, hc.r18, hc.r8_0, hc.r8_1, hc.r11_0, hc.r11_1, hc.r60_0, hc.r60_1, hc.r60_4, hc.r64_0, hc.r64_3, hc.r64_4, hc.r68_0, hc.r41_0, hc.r41_1, hc.r42_0, hc.r42_1, hc.k7, hc.k8, hc.k9, hc.k11, hc.k12, hc.k13, hc.k32, hc.k41, hc.k42, hc.k43, hc.k60, hc.k61, hc.k62, hc.k63, hc.k64, hc.k65, hc.k66, hc.k67, hc.k68, hc.k69, hc.k70, hc.k71, hc.n6, hc.n7, hc.n8, hc.n9, hc.n11, hc.n12, hc.n13, hc.n32, hc.n41, hc.n42, hc.n43, hc.n60, hc.n61, hc.n62, hc.n63, hc.n64, hc.n65, hc.n66, hc.n67, hc.n68, hc.n69, hc.n70, hc.n71, c_rowOf, e7, e5]
      rw [Joinings_chooseEven_40]
      have hc := hc1
      by_cases c4 : s + 1 < S 2
      · simp (disch := omega) only [Joinings_chooseEven_49, wr_id, ix_id, okx, if_pos, if_neg, Int.toNat_of_nonneg, bak_v, bak_n, wr_b01, wr_bt, b01_or, b01_0, b01_1, lc_lt0, lc_gt0, lc_eq0, wl_wr, wr_wr, wl_id, true_and, and_true, true_or, or_true, not_true_eq_false, not_false_eq_true, nc0, nc1, nc2, nc3, nc4, nc5, nc6, nc7, nc8, nc9, nc10, nc11, nc12, nc13, nc14, nc15, nc16, nc17, nc18, nc19, nc20, nc21, nc22, nc23, nc35, nc47, nc59, nc60, nc61, nc73, nc74, nc214, nc215, nc1115, nc2230, nc3345, if_true, if_false, Int.reduceToNat, hw1.k, wv1.f6, hc.k6, hc.r5, hc.r6, hc.r0, hc.r2, hc.r7, hc.r8, hc.r9, hc.r10, hc.r11, hc.r12, hc.r13, hc.r14, hc.r15, hc.r16, hc.r17, hc.r18, hc.r8_0, hc.r8_1, hc.r11_0, hc.r11_1, hc.r60_0, hc.r60_1, hc.r60_4, hc.r64_0, hc.r64_3, hc.r64_4, hc.r68_0, hc.r41_0, hc.r41_1, hc.r42_0, hc.r42_1, hc.k7, hc.k8, hc.k9, hc.k11, hc.k12, hc.k13, hc.k32, hc.k41, hc.k42, hc.k43, hc.k60, hc.k61, hc.k62, hc.k63, hc.k64, hc.k65, hc.k66, hc.k67, hc.k68, hc.k69, hc.k70, hc.k71, hc.n6, hc.n7, hc.n8, hc.n9, hc.n11, hc.n12, hc.n13, hc.n32, hc.n41, hc.n42, hc.n43, hc.n60, hc.n61, hc.n62, hc.n63, hc.n64, hc.n65, hc.n66, hc.n67, hc.n68, hc.n69, hc.n70, hc.n71, e6]
      · simp (disch := omega) only [wr_id, ix_id, okx, if_pos, if_neg, Int.toNat_of_nonneg, bak_v, bak_n, wr_b01, wr_bt, b01_or, b01_0, b01_1, lc_lt0, lc_gt0, lc_eq0, wl_wr, wr_wr, wl_id, true_and, and_true, true_or, or_true, not_true_eq_false, not_false_eq_true, nc0, nc1, nc2, nc3, nc4, nc5, nc6, nc7, nc8, nc9, nc10, nc11, nc12, nc13, nc14, nc15, nc16, nc17, nc18, nc19, nc20, nc21, nc22, nc23, nc35, nc47, nc59, nc60, nc61, nc73, nc74, nc214, nc215, nc1115, nc2230, nc3345, if_true, if_false, Int.reduceToNat, hw1.k, wv1.f6]
    · obtain ⟨h2, e2, k2, f2⟩ := ih (by omega) (by omega) h en se v
      rw [if_neg c0]
      have cc : ¬ (0 ≤ sgE S x r g s ∧ sgE S x r g s ≤ eMo S ∧ sgE S x r g s * sgE S x r g s + toF (EvC S (eMo S) 1 (n - 1) g s) = Lv S (eMo S) 1 n x r) := fun q => c0 (iff1.mp q)
      refine ⟨h2, ?_, k2, f2⟩
      simp (disch := omega) only [Joinings_chooseEven_49, wr_id, ix_id, okx, if_pos, if_neg, Int.toNat_of_nonneg, bak_v, bak_n, wr_b01, wr_bt, b01_or, b01_0, b01_1, lc_lt0, lc_gt0, lc_eq0, wl_wr, wr_wr, wl_id, true_and, and_true, true_or, or_true, not_true_eq_false, not_false_eq_true, nc0, nc1, nc2, nc3, nc4, nc5, nc6, nc7, nc8, nc9, nc10, nc11, nc12, nc13, nc14, nc15, nc16, nc17, nc18, nc19, nc20, nc21, nc22, nc23, nc35, nc47, nc59, nc60, nc61, nc73, nc74, nc214, nc215, nc1115, nc2230, nc3345, if_true, if_false, Int.reduceToNat, hw.k, hw.r0, hw.r1, hw.r2, hw.r3, hw.r4, hw.k1, hw.k2, hw.k3, hw.k4, hw.k5, hw.n1, hw.n2, hw.n3, hw.n4, hw.n5, wv.f5, wv.f6, wv.f7, wv.f8, wv.f9, wv.f10, wv.f11, wv.f12, wv.f13, wv.f14, wv.pk, wv.qk, wv.hk, wv.rk, hc.k6, hc.r5, hc.r6, hc.r0, hc.r2, hc.r7, hc.r8, hc.r9, hc.r10, hc.r11, hc.r12, hc.r13, hc.r14, hc.r15, hc.r16, hc.r17, hc.r18, hc.r8_0, hc.r8_1, hc.r11_0, hc.r11_1, hc.r60_0, hc.r60_1, hc.r60_4, hc.r64_0, hc.r64_3, hc.r64_4, hc.r68_0, hc.r41_0, hc.r41_1, hc.r42_0, hc.r42_1, hc.k7, hc.k8, hc.k9, hc.k11, hc.k12, hc.k13, hc.k32, hc.k41, hc.k42, hc.k43, hc.k60, hc.k61, hc.k62, hc.k63, hc.k64, hc.k65, hc.k66, hc.k67, hc.k68, hc.k69, hc.k70, hc.k71, hc.n6, hc.n7, hc.n8, hc.n9, hc.n11, hc.n12, hc.n13, hc.n32, hc.n41, hc.n42, hc.n43, hc.n60, hc.n61, hc.n62, hc.n63, hc.n64, hc.n65, hc.n66, hc.n67, hc.n68, hc.n69, hc.n70, hc.n71, v]
      refine e92.trans ?_
      by_cases c1 : 0 ≤ sgE S x r g s
      · by_cases c2 : sgE S x r g s ≤ eMo S
        · have q := sq_rng (a := sgE S x r g s) (by omega)
          simp (disch := omega) only [Joinings_chooseEven_82, Joinings_chooseEven_92, Joinings_chooseEven_105, Joinings_chooseEven_114, Joinings_chooseEven_138, wr_id, ix_id, okx, if_pos, if_neg, Int.toNat_of_nonneg, bak_v, bak_n, wr_b01, wr_bt, b01_or, b01_0, b01_1, lc_lt0, lc_gt0, lc_eq0, wl_wr, wr_wr, wl_id, true_and, and_true, true_or, or_true, not_true_eq_false, not_false_eq_true, nc0, nc1, nc2, nc3, nc4, nc5, nc6, nc7, nc8, nc9, nc10, nc11, nc12, nc13, nc14, nc15, nc16, nc17, nc18, nc19, nc20, nc21, nc22, nc23, nc35, nc47, nc59, nc60, nc61, nc73, nc74, nc214, nc215, nc1115, nc2230, nc3345, if_true, if_false, Int.reduceToNat, hw.k, hw.r0, hw.r1, hw.r2, hw.r3, hw.r4, hw.k1, hw.k2, hw.k3, hw.k4, hw.k5, hw.n1, hw.n2, hw.n3, hw.n4, hw.n5, wv.f5, wv.f6, wv.f7, wv.f8, wv.f9, wv.f10, wv.f11, wv.f12, wv.f13, wv.f14, wv.pk, wv.qk, wv.hk, wv.rk, hc.k6, hc.r5, hc.r6, hc.r0, hc.r2, hc.r7, hc.r8, hc.r9, hc.r10, hc.r11, hc.r12, hc.r13, hc.r14, hc.r15, hc.r16, hc.r17, hc.r18, hc.r8_0, hc.r8_1, hc.r11_0, hc.r11_1, hc.r60_0, hc.r60_1, hc.r60_4, hc.r64_0, hc.r64_3, hc.r64_4, hc.r68_0, hc.r41_0, hc.r41_1, hc.r42_0, hc.r42_1, hc.k7, hc.k8, hc.k9, hc.k11, hc.k12, hc.k13, hc.k32, hc.k41, hc.k42, hc.k43, hc.k60, hc.k61, hc.k62, hc.k63, hc.k64, hc.k65, hc.k66, hc.k67, hc.k68, hc.k69, hc.k70, hc.k71, hc.n6, hc.n7, hc.n8, hc.n9, hc.n11, hc.n12, hc.n13, hc.n32, hc.n41, hc.n42, hc.n43, hc.n60, hc.n61, hc.n62, hc.n63, hc.n64, hc.n65, hc.n66, hc.n67, hc.n68, hc.n69, hc.n70, hc.n71, c_rowOf, e7, e5]
          exact e2
        · simp (disch := omega) only [Joinings_chooseEven_82, Joinings_chooseEven_92, Joinings_chooseEven_105, Joinings_chooseEven_138, wr_id, ix_id, okx, if_pos, if_neg, Int.toNat_of_nonneg, bak_v, bak_n, wr_b01, wr_bt, b01_or, b01_0, b01_1, lc_lt0, lc_gt0, lc_eq0, wl_wr, wr_wr, wl_id, true_and, and_true, true_or, or_true, not_true_eq_false, not_false_eq_true, nc0, nc1, nc2, nc3, nc4, nc5, nc6, nc7, nc8, nc9, nc10, nc11, nc12, nc13, nc14, nc15, nc16, nc17, nc18, nc19, nc20, nc21, nc22, nc23, nc35, nc47, nc59, nc60, nc61, nc73, nc74, nc214, nc215, nc1115, nc2230, nc3345, if_true, if_false, Int.reduceToNat, hw.k, hw.r0, hw.r1, hw.r2, hw.r3, hw.r4, hw.k1, hw.k2, hw.k3, hw.k4, hw.k5, hw.n1, hw.n2, hw.n3, hw.n4, hw.n5, wv.f5, wv.f6, wv.f7, wv.f8, wv.f9, wv.f10, wv.f11, wv.f12, wv.f13, wv.f14, wv.pk, wv.qk, wv.hk, wv.rk, hc.k6, hc.r5, hc.r6, hc.r0, hc.r2, hc.r7, hc.r8, hc.r9, hc.r10, hc.r11, hc.r12, hc.r13, hc.r14, hc.r15, hc.r16, hc.r17, hc.r18, hc.r8_0, hc.r8_1, hc.r11_0, hc.r11_1, hc.r60_0, hc.r60_1, hc.r60_4, hc.r64_0, hc.r64_3, hc.r64_4, hc.r68_0, hc.r41_0, hc.r41_1, hc.r42_0, hc.r42_1, hc.k7, hc.k8, hc.k9, hc.k11, hc.k12, hc.k13, hc.k32, hc.k41, hc.k42, hc.k43, hc.k60, hc.k61, hc.k62, hc.k63, hc.k64, hc.k65, hc.k66, hc.k67, hc.k68, hc.k69, hc.k70, hc.k71, hc.n6, hc.n7, hc.n8, hc.n9, hc.n11, hc.n12, hc.n13, hc.n32, hc.n41, hc.n42, hc.n43, hc.n60, hc.n61, hc.n62, hc.n63, hc.n64, hc.n65, hc.n66, hc.n67, hc.n68, hc.n69, hc.n70, hc.n71, c_rowOf, e7, e5]
          exact e2
      · simp (disch := omega) only [Joinings_chooseEven_82, Joinings_chooseEven_92, Joinings_chooseEven_138, wr_id, ix_id, okx, if_pos, if_neg, Int.toNat_of_nonneg, bak_v, bak_n, wr_b01, wr_bt, b01_or, b01_0, b01_1, lc_lt0, lc_gt0, lc_eq0, wl_wr, wr_wr, wl_id, true_and, and_true, true_or, or_true, not_true_eq_false, not_false_eq_true, nc0, nc1, nc2, nc3, nc4, nc5, nc6, nc7, nc8, nc9, nc10, nc11, nc12, nc13, nc14, nc15, nc16, nc17, nc18, nc19, nc20, nc21, nc22, nc23, nc35, nc47, nc59, nc60, nc61, nc73, nc74, nc214, nc215, nc1115, nc2230, nc3345, if_true, if_false, Int.reduceToNat, hw.k, hw.r0, hw.r1, hw.r2, hw.r3, hw.r4, hw.k1, hw.k2, hw.k3, hw.k4, hw.k5, hw.n1, hw.n2, hw.n3, hw.n4, hw.n5, wv.f5, wv.f6, wv.f7, wv.f8, wv.f9, wv.f10, wv.f11, wv.f12, wv.f13, wv.f14, wv.pk, wv.qk, wv.hk, wv.rk, hc.k6, hc.r5, hc.r6, hc.r0, hc.r2, hc.r7, hc.r8, hc.r9, hc.r10, hc.r11, hc.r12, hc.r13, hc.r14, hc.r15, hc.r16, hc.r17, hc.r18, hc.r8_0, hc.r8_1, hc.r11_0, hc.r11_1, hc.r60_0, hc.r60_1, hc.r60_4, hc.r64_0, hc.r64_3, hc.r64_4, hc.r68_0, hc.r41_0, hc.r41_1, hc.r42_0, hc.r42_1, hc.k7, hc.k8, hc.k9, hc.k11, hc.k12, hc.k13, hc.k32, hc.k41, hc.k42, hc.k43, hc.k60, hc.k61, hc.k62, hc.k63, hc.k64, hc.k65, hc.k66, hc.k67, hc.k68, hc.k69, hc.k70, hc.k71, hc.n6, hc.n7, hc.n8, hc.n9, hc.n11, hc.n12, hc.n13, hc.n32, hc.n41, hc.n42, hc.n43, hc.n60, hc.n61, hc.n62, hc.n63, hc.n64, hc.n65, hc.n66, hc.n67, hc.n68, hc.n69, hc.n70, hc.n71, c_rowOf, e7, e5]
        exact e2
