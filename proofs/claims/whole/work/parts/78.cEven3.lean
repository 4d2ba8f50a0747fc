/-! the class: chooseEven, evenFor -/
theorem PmE_iff {S : Int → Int} (gd : Gd S) {x r n g s : Int} (hn : 1 ≤ n ∧ n ≤ 12) (hx : -1 ≤ x ∧ x < g ∧ g < S 1) (hr : -1 ≤ r ∧ r < s ∧ s < S 2) (hxr : x = -1 ↔ r = -1) (hl : ¬ Lv S (eMo S) 1 n x r = -1) : (0 ≤ sgE S x r g s ∧ sgE S x r g s ≤ eMo S ∧ sgE S x r g s * sgE S x r g s + toF (EvC S (eMo S) 1 (n - 1) g s) = Lv S (eMo S) 1 n x r) ↔ PmE S x r n g s = true := by
  have ga := gd.a
  have gb := gd.b
  have eo := eMo_ok gd
  have lr := Lv_rng gd (eMo S) 1 (n := n - 1) (by omega) (x := g) (r := s) (by omega) (by omega) (by omega)
  have ln := Lv_rng gd (eMo S) 1 (n := n) (by omega) (x := x) (r := r) (by omega) (by omega) hxr
  unfold PmE
  simp only [decide_eq_true_eq]
  by_cases cb : bt (S 10) s = 0
  · have ee : EvC S (eMo S) 1 (n - 1) g s = Lv S (eMo S) 1 (n - 1) g s := by unfold EvC; rw [if_pos cb]
    rw [ee]
    by_cases cs : 0 ≤ sgE S x r g s
    · have cf : Fpl S x r g s = true := by
        unfold sgE at cs
        by_cases c : x = -1
        · simp [Fpl, cb, c]
        · rw [if_neg c] at cs
          simp [Fpl, cb, cs]
      have sr := sgE_rng gd hx hr hxr cf
      have q := sq_rng sr
      unfold lby toF
      rw [if_pos cf]
      generalize sgE S x r g s = a at *
      generalize a * a = aa at *
      by_cases c1 : Lv S (eMo S) 1 (n - 1) g s = -1
      · rw [if_pos c1, if_pos (Or.inl c1)]
        omega
      · rw [if_neg c1]
        by_cases c2 : eMo S < a
        · rw [if_pos (Or.inr ⟨by omega, c2⟩)]
          omega
        · rw [if_neg (by omega), if_neg (by omega)]
          omega
    · have cf : ¬ Fpl S x r g s = true := by
        unfold sgE at cs
        by_cases c : x = -1
        · rw [if_pos c] at cs; omega
        · rw [if_neg c] at cs
          simp [Fpl, c]
          omega
      unfold lby
      rw [if_neg cf]
      omega
  · have ee : EvC S (eMo S) 1 (n - 1) g s = -1 := by unfold EvC; rw [if_neg cb]
    have cf : ¬ Fpl S x r g s = true := by simp [Fpl, cb]
    unfold lby
    rw [ee, if_neg cf, show toF (-1) = 536870912 from rfl]
    have : 0 ≤ sgE S x r g s * sgE S x r g s := by
      rcases Int.le_total 0 (sgE S x r g s) with a | a
      · exact Int.mul_nonneg a a
      · exact Int.mul_nonneg_of_nonpos_of_nonpos a a
    omega
def fdE (S : Int → Int) (x r n g f : Int) : Int := if f = -1 then Lv S (eMo S) 1 n x r else Lv S (eMo S) 1 (n - 1) g f
theorem c_cE_1 {d w : Nat} {S : Int → Int} (gd : Gd S) {x r g n : Int} (hn : 1 ≤ n ∧ n ≤ fullN S) (hx : -1 ≤ x ∧ x < g ∧ g < S 1) (hr : -1 ≤ r ∧ r < S 2) (hxr : x = -1 ↔ r = -1) (hl : ¬ Lv S (eMo S) 1 n x r = -1) : ∀ s, r + 1 ≤ s → s ≤ 12 → ∀ h, EN h w S 1 → SE h S (eMo S) 1 → hI h 63 g.toNat = -1 → ∃ h', EX (d+2) m_Joinings_chooseEven 40 [(0, .inr (.inr (60))), (1, .inr (.inr (w))), (2, .inr (.inr (70))), (3, .inl (Lv S (eMo S) 1 n x r)), (4, .inl (n)), (5, .inl (x)), (6, .inl (r)), (7, .inl (g)), (8, .inl (s))] [] (h) = EX (d+2) m_Joinings_chooseEven 144 [(0, .inr (.inr (60))), (1, .inr (.inr (w))), (2, .inr (.inr (70))), (3, .inl (fdE S x r n g (ff (PmE S x r n g) s (S 2)))), (4, .inl (n)), (5, .inl (x)), (6, .inl (r)), (7, .inl (g))] [] (h') ∧ hI h' 63 g.toNat = ff (PmE S x r n g) s (S 2) ∧ Fr (fun a k => a = 63 ∧ k = g.toNat) h h' := by
  have ga := gd.a
  have gb := gd.b
  have fs := fullN_spec S
  have er := eMo_rng gd
  have ln := Lv_rng gd (eMo S) 1 (n := n) (by omega) (x := x) (r := r) (by omega) (by omega) hxr
  refine up_ind (hi := S 2) ?_ ?_
  · intro s hs h0 h1 h en se v
    have wv := en.1.2
    have hw := wv.1
    refine ⟨h, ?_, by rw [v, ff_stop hs], Fr.rf⟩
    rw [Joinings_chooseEven_40, ff_stop hs]
    simp (disch := omega) only [wr_id, ix_id, okx, if_pos, if_neg, Int.toNat_of_nonneg, bak_v, bak_n, wr_b01, wr_bt, b01_or, b01_0, b01_1, lc_lt0, lc_gt0, lc_eq0, wl_wr, wr_wr, wl_id, true_and, and_true, true_or, or_true, not_true_eq_false, not_false_eq_true, nc0, nc1, nc2, nc3, nc4, nc5, nc6, nc7, nc8, nc9, nc10, nc11, nc12, nc13, nc14, nc15, nc16, nc17, nc18, nc19, nc20, nc21, nc22, nc23, nc35, nc47, nc59, nc60, nc61, nc73, nc74, nc214, nc215, nc1115, nc2230, nc3345, if_true, if_false, Int.reduceToNat, hw.k, hw.r0, hw.r1, hw.r2, hw.r3, hw.r4, hw.k1, hw.k2, hw.k3, hw.k4, hw.k5, hw.n1, hw.n2, hw.n3, hw.n4, hw.n5, wv.f5, wv.f6, wv.f7, wv.f8, wv.f9, wv.f10, wv.f11, wv.f12, wv.f13, wv.f14, wv.pk, wv.qk, wv.hk, wv.rk]
    rfl
  · intro s hs ih h0 h1 h en se v
    have hc := en.1.1
    have wv := en.1.2
    have hw := wv.1
    have e5 := en.2.2 rfl
    have iff1 := PmE_iff gd (x := x) (r := r) (n := n) (g := g) (s := s) (by omega) hx (by omega) hxr hl
    have e7 := se g s (by omega) (by omega) (by omega) hs (n - 1) (by omega) (by omega)
    dsimp only at e7
    rw [show (g * 12 + s) * 12 + (n - 1) = (g * 12 + s) * 12 + n - 1 by omega] at e7
    have lr := Lv_rng gd (eMo S) 1 (n := n - 1) (by omega) (x := g) (r := s) (by omega) (by omega) (by omega)
    have tr := toF_rng (v := EvC S (eMo S) 1 (n - 1) g s) (by unfold EvC; split <;> omega)
    have e92 : EX (d+2) m_Joinings_chooseEven 60 [(0, .inr (.inr (60))), (1, .inr (.inr (w))), (2, .inr (.inr (70))), (3, .inl (Lv S (eMo S) 1 n x r)), (4, .inl (n)), (5, .inl (x)), (6, .inl (r)), (7, .inl (g)), (8, .inl (s))] [] (h) = EX (d+2) m_Joinings_chooseEven 82 [(0, .inr (.inr (60))), (1, .inr (.inr (w))), (2, .inr (.inr (70))), (3, .inl (Lv S (eMo S) 1 n x r)), (4, .inl (n)), (5, .inl (x)), (6, .inl (r)), (7, .inl (g)), (8, .inl (s))] [.inl (sgE S x r g s)] (h) := by
      unfold sgE
      by_cases c : x = -1
      · rw [if_pos c]
        simp (disch := omega) only [Joinings_chooseEven_60, Joinings_chooseEven_66, wr_id, ix_id, okx, if_pos, if_neg, Int.toNat_of_nonneg, bak_v, bak_n, wr_b01, wr_bt, b01_or, b01_0, b01_1, lc_lt0, lc_gt0, lc_eq0, wl_wr, wr_wr, wl_id, true_and, and_true, true_or, or_true, not_true_eq_false, not_false_eq_true, nc0, nc1, nc2, nc3, nc4, nc5, nc6, nc7, nc8, nc9, nc10, nc11, nc12, nc13, nc14, nc15, nc16, nc17, nc18, nc19, nc20, nc21, nc22, nc23, nc35, nc47, nc59, nc60, nc61, nc73, nc74, nc214, nc215, nc1115, nc2230, nc3345, if_true, if_false, Int.reduceToNat]
      · rw [if_neg c]
        have c' : ¬ r = -1 := fun q => c (hxr.mpr q)
        have es := c_sag (d := d + 1) wv ga.2 gb.2 (x := x) (r := r) (y := g) (s := s) (by omega) (by omega) (by omega) (by omega) (by omega) (by omega)
        simp (disch := omega) only [Joinings_chooseEven_60, Joinings_chooseEven_70, wr_id, ix_id, okx, if_pos, if_neg, Int.toNat_of_nonneg, bak_v, bak_n, wr_b01, wr_bt, b01_or, b01_0, b01_1, lc_lt0, lc_gt0, lc_eq0, wl_wr, wr_wr, wl_id, true_and, and_true, true_or, or_true, not_true_eq_false, not_false_eq_true, nc0, nc1, nc2, nc3, nc4, nc5, nc6, nc7, nc8, nc9, nc10, nc11, nc12, nc13, nc14, nc15, nc16, nc17, nc18, nc19, nc20, nc21, nc22, nc23, nc35, nc47, nc59, nc60, nc61, nc73, nc74, nc214, nc215, nc1115, nc2230, nc3345, if_true, if_false, Int.reduceToNat, hw.k, hw.r0, hw.r1, hw.r2, hw.r3, hw.r4, hw.k1, hw.k2, hw.k3, hw.k4, hw.k5, hw.n1, hw.n2, hw.n3, hw.n4, hw.n5, es]
    have sr : -2147483648 ≤ sgE S x r g s ∧ sgE S x r g s ≤ 1200 := by
      unfold sgE
      split
      · omega
      · rename_i c
        have c' : ¬ r = -1 := fun q => c (hxr.mpr q)
        have sg := gd.1.sag (x := x) (r := r) (y := g) (s := s) (by omega) (by omega) (by omega) (by omega)
        omega
    rw [Joinings_chooseEven_40, ff_step hs]
    by_cases c0 : PmE S x r n g s = true
    · have cc := iff1.mpr c0
      have cb : bt (S 10) s = 0 := by
        refine Decidable.not_not.mp fun q => ?_
        have : EvC S (eMo S) 1 (n - 1) g s = -1 := by unfold EvC; rw [if_neg q]
        rw [this, show toF (-1) = 536870912 from rfl] at cc
        have q := sq_rng (a := sgE S x r g s) (by omega)
        omega
      have ee : EvC S (eMo S) 1 (n - 1) g s = Lv S (eMo S) 1 (n - 1) g s := by unfold EvC; rw [if_pos cb]
      have pn := PmE_ne hl c0
      have tf : toF (EvC S (eMo S) 1 (n - 1) g s) = Lv S (eMo S) 1 (n - 1) g s := by rw [ee]; unfold toF; rw [if_neg pn]
      rw [tf] at e7 cc
      have f0 : Fr (fun a k => a = 63 ∧ k = g.toNat) h (pI h 63 g.toNat s) := Fr.pI Fr.rf ⟨rfl, rfl⟩
      have e6 : hI (pI h 63 g.toNat s) 63 g.toNat = s := by rw [hI_pI, if_pos ⟨rfl, rfl⟩]
      have en1 := en.fr f0 (fun a k q => Or.inl q.1)
      have hc1 := en1.1.1
      have wv1 := en1.1.2
      have hw1 := wv1.1
      have q := sq_rng (a := sgE S x r g s) (by omega)
      refine ⟨pI h 63 g.toNat s, ?_, by rw [if_pos c0, e6], f0⟩
      rw [if_pos c0]
      have ef : fdE S x r n g s = Lv S (eMo S) 1 (n - 1) g s := by unfold fdE; rw [if_neg (by omega)]
      rw [ef]
      simp (disch := omega) only [Joinings_chooseEven_49, wr_id, ix_id, okx, if_pos, if_neg, Int.toNat_of_nonneg, bak_v, bak_n, wr_b01, wr_bt, b01_or, b01_0, b01_1, lc_lt0, lc_gt0, lc_eq0, wl_wr, wr_wr, wl_id, true_and, and_true, true_or, or_true, not_true_eq_false, not_false_eq_true, nc0, nc1, nc2, nc3, nc4, nc5, nc6, nc7, nc8, nc9, nc10, nc11, nc12, nc13, nc14, nc15, nc16, nc17, nc18, nc19, nc20, nc21, nc22, nc23, nc35, nc47, nc59, nc60, nc61, nc73, nc74, nc214, nc215, nc1115, nc2230, nc3345, if_true, if_false, Int.reduceToNat, hw.k, hw.r0, hw.r1, hw.r2, hw.r3, hw.r4, hw.k1, hw.k2, hw.k3, hw.k4, hw.k5, hw.n1, hw.n2, hw.n3, hw.n4, hw.n5, wv.f5, wv.f6, wv.f7, wv.f8, wv.f9, wv.f10, wv.f11, wv.f12, wv.f13, wv.f14, wv.pk, wv.qk, wv.hk, wv.rk, hc.k6, hc.r5, hc.r6, hc.r0, hc.r2, hc.r7, hc.r8, hc.r9, hc.r10, hc.r11, hc.r12, hc.r13, hc.r14, hc.r15, hc.r16, hc.r17, hc.r18, hc.r8_0, hc.r8_1, hc.r11_0, hc.r11_1, hc.r60_0, hc.r60_1, hc.r60_4, hc.r64_0, hc.r64_3, hc.r64_4, hc.r68_0, hc.r41_0, hc.r41_1, hc.r42_0, hc.r42_1, hc.k7, hc.k8, hc.k9, hc.k11, hc.k12, hc.k13, hc.k32, hc.k41, hc.k42, hc.k43, hc.k60, hc.k61, hc.k62, hc.k63, hc.k64, hc.k65, hc.k66, hc.k67, hc.k68, hc.k69, hc.k70, hc.k71, hc.n6, hc.n7, hc.n8, hc.n9, hc.n11, hc.n12, hc.n13, hc.n32, hc.n41, hc.n42, hc.n43, hc.n60, hc.n61, hc.n62, hc.n63, hc.n64, hc.n65, hc.n66, hc.n67, hc.n68, hc.n69, hc.n70, hc.n71, v]
      refine e92.trans ?_
      simp (disch := omega) only [Joinings_chooseEven_82, Joinings_chooseEven_92, Joinings_chooseEven_105, Joinings_chooseEven_114, Joinings_chooseEven_126, Joinings_chooseEven_135, Joinings_chooseEven_138, wr_id, ix_id, okx, if_pos, if_neg, Int.toNat_of_nonneg, bak_v, bak_n, wr_b01, wr_bt, b01_or, b01_0, b01_1, lc_lt0, lc_gt0, lc_eq0, wl_wr, wr_wr, wl_id, true_and, and_true, true_or, or_true, not_true_eq_false, not_false_eq_true, nc0, nc1, nc2, nc3, nc4, nc5, nc6, nc7, nc8, nc9, nc10, nc11, nc12, nc13, nc14, nc15, nc16, nc17, nc18, nc19, nc20, nc21, nc22, nc23, nc35, nc47, nc59, nc60, nc61, nc73, nc74, nc214, nc215, nc1115, nc2230, nc3345, if_true, if_false, Int.reduceToNat, hw.k, hw.r0, hw.r1, hw.r2, hw.r3, hw.r4, hw.k1, hw.k2, hw.k3, hw.k4, hw.k5, hw.n1, hw.n2, hw.n3, hw.n4, hw.n5, wv.f5, wv.f6, wv.f7, wv.f8, wv.f9, wv.f10, wv.f11, wv.f12, wv.f13, wv.f14, wv.pk, wv.qk, wv.hk, wv.rk, hc.k6, hc.r5, hc.r6, hc.r0, hc.r2, hc.r7, hc.r8, hc.r9, hc.r10, hc.r11, hc.r12, hc.r13, hc.r14, hc.r15, hc.r16, hc.r17, hc.r18, hc.r8_0, hc.r8_1, hc.r11_0, hc.r11_1, hc.r60_0, hc.r60_1, hc.r60_4, hc.r64_0, hc.r64_3, hc.r64_4, hc.r68_0, hc.r41_0, hc.r41_1, hc.r42_0, hc.r42_1, hc.k7, hc.k8, hc.k9, hc.k11, hc.k12, hc.k13, hc.k32, hc.k41, hc.k42, hc.k43, hc.k60, hc.k61, hc.k62, hc.k63, hc.k64, hc.k65, hc.k66, hc.k67, hc.k68, hc.k69, hc.k70, hc.k71, hc.n6, hc.n7, hc.n8, hc.n9, hc.n11, hc.n12, hc.n13, hc.n32, hc.n41, hc.n42, hc.n43, hc.n60, hc.n61, hc.n62, hc.n63, hc.n64, hc.n65, hc.n66, hc.n67, hc.n68, hc.n69, hc.n70, hc.n71, c_rowOf, e7, e5]
      rw [Joinings_chooseEven_40]
      have hc := hc1
      by_cases c4 : s + 1 < S 2
      · simp (disch := omega) only [Joinings_chooseEven_49, wr_id, ix_id, okx, if_pos, if_neg, Int.toNat_of_nonneg, bak_v, bak_n, wr_b01, wr_bt, b01_or, b01_0, b01_1, lc_lt0, lc_gt0, lc_eq0, wl_wr, wr_wr, wl_id, true_and, and_true, true_or, or_true, not_true_eq_false, not_false_eq_true, nc0, nc1, nc2, nc3, nc4, nc5, nc6, nc7, nc8, nc9, nc10, nc11, nc12, nc13, nc14, nc15, nc16, nc17, nc18, nc19, nc20, nc21, nc22, nc23, nc35, nc47, nc59, nc60, nc61, nc73, nc74, nc214, nc215, nc1115, nc2230, nc3345, if_true, if_false, Int.reduceToNat, hw1.k, wv1.f6, hc.k6, hc.r5, hc.r6, hc.r0, hc.r2, hc.r7, hc.r8, hc.r9, hc.r10, hc.r11, hc.r12, hc.r13, hc.r14, hc.r15, hc.r16, hc.r17, hc.r18, hc.r8_0, hc.r8_1, hc.r11_0, hc.r11_1, hc.r60_0, hc.r60_1, hc.r60_4, hc.r64_0, hc.r64_3, hc.r64_4, hc.r68_0, hc.r41_0, hc.r41_1, hc.r42_0, hc.r42_1, hc.k7, hc.k8, hc.k9, hc.k11, hc.k12, hc.k13, hc.k32, hc.k41, hc.k42, hc.k43, hc.k60, hc.k61, hc.k62, hc.k63, hc.k64, hc.k65, hc.k66, hc.k67, hc.k68, hc.k69, hc.k70, hc.k71, hc.n6, hc.n7, hc.n8, hc.n9, hc.n11, hc.n12, hc.n13, hc.n32, hc.n41, hc.n42, hc.n43, hc.n60, hc.n61, hc.n62, hc.n63, hc.n64, hc.n65, hc.n66, hc.n67, hc.n68, hc.n69, hc.n70, hc.n71, e6]
      · simp (disch := omega) only [wr_id, ix_id, okx, if_pos, if_neg, Int.toNat_of_nonneg, bak_v, bak_n, wr_b01, wr_bt, b01_or, b01_0, b01_1, lc_lt0, lc_gt0, lc_eq0, wl_wr, wr_wr, wl_id, true_and, and_true, true_or, or_true, not_true_eq_false, not_false_eq_true, nc0, nc1, nc2, nc3, nc4, nc5, nc6, nc7, nc8, nc9, nc10, nc11, nc12, nc13, nc14, nc15, nc16, nc17, nc18, nc19, nc20, nc21, nc22, nc23, nc35, nc47, nc59, nc60, nc61, nc73, nc74, nc214, nc215, nc1115, nc2230, nc3345, if_true, if_false, Int.reduceToNat, hw1.k, wv1.f6]
    · obtain ⟨h2, e2, k2, f2⟩ := ih (by omega) (by omega) h en se v
      rw [if_neg c0]
      have cc : ¬ (0 ≤ sgE S x r g s ∧ sgE S x r g s ≤ eMo S ∧ sgE S x r g s * sgE S x r g s + toF (EvC S (eMo S) 1 (n - 1) g s) = Lv S (eMo S) 1 n x r) := fun q => c0 (iff1.mp q)
      refine ⟨h2, ?_, k2, f2⟩
      simp (disch := omega) only [Joinings_chooseEven_49, wr_id, ix_id, okx, if_pos, if_neg, Int.toNat_of_nonneg, bak_v, bak_n, wr_b01, wr_bt, b01_or, b01_0, b01_1, lc_lt0, lc_gt0, lc_eq0, wl_wr, wr_wr, wl_id, true_and, and_true, true_or, or_true, not_true_eq_false, not_false_eq_true, nc0, nc1, nc2, nc3, nc4, nc5, nc6, nc7, nc8, nc9, nc10, nc11, nc12, nc13, nc14, nc15, nc16, nc17, nc18, nc19, nc20, nc21, nc22, nc23, nc35, nc47, nc59, nc60, nc61, nc73, nc74, nc214, nc215, nc1115, nc2230, nc3345, if_true, if_false, Int.reduceToNat, hw.k, hw.r0, hw.r1, hw.r2, hw.r3, hw.r4, hw.k1, hw.k2, hw.k3, hw.k4, hw.k5, hw.n1, hw.n2, hw.n3, hw.n4, hw.n5, wv.f5, wv.f6, wv.f7, wv.f8, wv.f9, wv.f10, wv.f11, wv.f12, wv.f13, wv.f14, wv.pk, wv.qk, wv.hk, wv.rk, hc.k6, hc.r5, hc.r6, hc.r0, hc.r2, hc.r7, hc.r8, hc.r9, hc.r10, hc.r11, hc.r12, hc.r13, hc.r14, hc.r15, hc.r16, hc.r17, hc.r18, hc.r8_0, hc.r8_1, hc.r11_0, hc.r11_1, hc.r60_0, hc.r60_1, hc.r60_4, hc.r64_0, hc.r64_3, hc.r64_4, hc.r68_0, hc.r41_0, hc.r41_1, hc.r42_0, hc.r42_1, hc.k7, hc.k8, hc.k9, hc.k11, hc.k12, hc.k13, hc.k32, hc.k41, hc.k42, hc.k43, hc.k60, hc.k61, hc.k62, hc.k63, hc.k64, hc.k65, hc.k66, hc.k67, hc.k68, hc.k69, hc.k70, hc.k71, hc.n6, hc.n7, hc.n8, hc.n9, hc.n11, hc.n12, hc.n13, hc.n32, hc.n41, hc.n42, hc.n43, hc.n60, hc.n61, hc.n62, hc.n63, hc.n64, hc.n65, hc.n66, hc.n67, hc.n68, hc.n69, hc.n70, hc.n71, v]
      refine e92.trans ?_
      by_cases c1 : 0 ≤ sgE S x r g s
      · by_cases c2 : sgE S x r g s ≤ eMo S
        · have q := sq_rng (a := sgE S x r g s) (by omega)
          simp (disch := omega) only [Joinings_chooseEven_82, Joinings_chooseEven_92, Joinings_chooseEven_105, Joinings_chooseEven_114, Joinings_chooseEven_138, wr_id, ix_id, okx, if_pos, if_neg, Int.toNat_of_nonneg, bak_v, bak_n, wr_b01, wr_bt, b01_or, b01_0, b01_1, lc_lt0, lc_gt0, lc_eq0, wl_wr, wr_wr, wl_id, true_and, and_true, true_or, or_true, not_true_eq_false, not_false_eq_true, nc0, nc1, nc2, nc3, nc4, nc5, nc6, nc7, nc8, nc9, nc10, nc11, nc12, nc13, nc14, nc15, nc16, nc17, nc18, nc19, nc20, nc21, nc22, nc23, nc35, nc47, nc59, nc60, nc61, nc73, nc74, nc214, nc215, nc1115, nc2230, nc3345, if_true, if_false, Int.reduceToNat, hw.k, hw.r0, hw.r1, hw.r2, hw.r3, hw.r4, hw.k1, hw.k2, hw.k3, hw.k4, hw.k5, hw.n1, hw.n2, hw.n3, hw.n4, hw.n5, wv.f5, wv.f6, wv.f7, wv.f8, wv.f9, wv.f10, wv.f11, wv.f12, wv.f13, wv.f14, wv.pk, wv.qk, wv.hk, wv.rk, hc.k6, hc.r5, hc.r6, hc.r0, hc.r2, hc.r7, hc.r8, hc.r9, hc.r10, hc.r11, hc.r12, hc.r13, hc.r14, hc.r15, hc.r16, hc.r17, hc.r18, hc.r8_0, hc.r8_1, hc.r11_0, hc.r11_1, hc.r60_0, hc.r60_1, hc.r60_4, hc.r64_0, hc.r64_3, hc.r64_4, hc.r68_0, hc.r41_0, hc.r41_1, hc.r42_0, hc.r42_1, hc.k7, hc.k8, hc.k9, hc.k11, hc.k12, hc.k13, hc.k32, hc.k41, hc.k42, hc.k43, hc.k60, hc.k61, hc.k62, hc.k63, hc.k64, hc.k65, hc.k66, hc.k67, hc.k68, hc.k69, hc.k70, hc.k71, hc.n6, hc.n7, hc.n8, hc.n9, hc.n11, hc.n12, hc.n13, hc.n32, hc.n41, hc.n42, hc.n43, hc.n60, hc.n61, hc.n62, hc.n63, hc.n64, hc.n65, hc.n66, hc.n67, hc.n68, hc.n69, hc.n70, hc.n71, c_rowOf, e7, e5]
          exact e2
        · simp (disch := omega) only [Joinings_chooseEven_82, Joinings_chooseEven_92, Joinings_chooseEven_105, Joinings_chooseEven_138, wr_id, ix_id, okx, if_pos, if_neg, Int.toNat_of_nonneg, bak_v, bak_n, wr_b01, wr_bt, b01_or, b01_0, b01_1, lc_lt0, lc_gt0, lc_eq0, wl_wr, wr_wr, wl_id, true_and, and_true, true_or, or_true, not_true_eq_false, not_false_eq_true, nc0, nc1, nc2, nc3, nc4, nc5, nc6, nc7, nc8, nc9, nc10, nc11, nc12, nc13, nc14, nc15, nc16, nc17, nc18, nc19, nc20, nc21, nc22, nc23, nc35, nc47, nc59, nc60, nc61, nc73, nc74, nc214, nc215, nc1115, nc2230, nc3345, if_true, if_false, Int.reduceToNat, hw.k, hw.r0, hw.r1, hw.r2, hw.r3, hw.r4, hw.k1, hw.k2, hw.k3, hw.k4, hw.k5, hw.n1, hw.n2, hw.n3, hw.n4, hw.n5, wv.f5, wv.f6, wv.f7, wv.f8, wv.f9, wv.f10, wv.f11, wv.f12, wv.f13, wv.f14, wv.pk, wv.qk, wv.hk, wv.rk, hc.k6, hc.r5, hc.r6, hc.r0, hc.r2, hc.r7, hc.r8, hc.r9, hc.r10, hc.r11, hc.r12, hc.r13, hc.r14, hc.r15, hc.r16, hc.r17, hc.r18, hc.r8_0, hc.r8_1, hc.r11_0, hc.r11_1, hc.r60_0, hc.r60_1, hc.r60_4, hc.r64_0, hc.r64_3, hc.r64_4, hc.r68_0, hc.r41_0, hc.r41_1, hc.r42_0, hc.r42_1, hc.k7, hc.k8, hc.k9, hc.k11, hc.k12, hc.k13, hc.k32, hc.k41, hc.k42, hc.k43, hc.k60, hc.k61, hc.k62, hc.k63, hc.k64, hc.k65, hc.k66, hc.k67, hc.k68, hc.k69, hc.k70, hc.k71, hc.n6, hc.n7, hc.n8, hc.n9, hc.n11, hc.n12, hc.n13, hc.n32, hc.n41, hc.n42, hc.n43, hc.n60, hc.n61, hc.n62, hc.n63, hc.n64, hc.n65, hc.n66, hc.n67, hc.n68, hc.n69, hc.n70, hc.n71, c_rowOf, e7, e5]
          exact e2
      · simp (disch := omega) only [Joinings_chooseEven_82, Joinings_chooseEven_92, Joinings_chooseEven_138, wr_id, ix_id, okx, if_pos, if_neg, Int.toNat_of_nonneg, bak_v, bak_n, wr_b01, wr_bt, b01_or, b01_0, b01_1, lc_lt0, lc_gt0, lc_eq0, wl_wr, wr_wr, wl_id, true_and, and_true, true_or, or_true, not_true_eq_false, not_false_eq_true, nc0, nc1, nc2, nc3, nc4, nc5, nc6, nc7, nc8, nc9, nc10, nc11, nc12, nc13, nc14, nc15, nc16, nc17, nc18, nc19, nc20, nc21, nc22, nc23, nc35, nc47, nc59, nc60, nc61, nc73, nc74, nc214, nc215, nc1115, nc2230, nc3345, if_true, if_false, Int.reduceToNat, hw.k, hw.r0, hw.r1, hw.r2, hw.r3, hw.r4, hw.k1, hw.k2, hw.k3, hw.k4, hw.k5, hw.n1, hw.n2, hw.n3, hw.n4, hw.n5, wv.f5, wv.f6, wv.f7, wv.f8, wv.f9, wv.f10, wv.f11, wv.f12, wv.f13, wv.f14, wv.pk, wv.qk, wv.hk, wv.rk, hc.k6, hc.r5, hc.r6, hc.r0, hc.r2, hc.r7, hc.r8, hc.r9, hc.r10, hc.r11, hc.r12, hc.r13, hc.r14, hc.r15, hc.r16, hc.r17, hc.r18, hc.r8_0, hc.r8_1, hc.r11_0, hc.r11_1, hc.r60_0, hc.r60_1, hc.r60_4, hc.r64_0, hc.r64_3, hc.r64_4, hc.r68_0, hc.r41_0, hc.r41_1, hc.r42_0, hc.r42_1, hc.k7, hc.k8, hc.k9, hc.k11, hc.k12, hc.k13, hc.k32, hc.k41, hc.k42, hc.k43, hc.k60, hc.k61, hc.k62, hc.k63, hc.k64, hc.k65, hc.k66, hc.k67, hc.k68, hc.k69, hc.k70, hc.k71, hc.n6, hc.n7, hc.n8, hc.n9, hc.n11, hc.n12, hc.n13, hc.n32, hc.n41, hc.n42, hc.n43, hc.n60, hc.n61, hc.n62, hc.n63, hc.n64, hc.n65, hc.n66, hc.n67, hc.n68, hc.n69, hc.n70, hc.n71, c_rowOf, e7, e5]
        exact e2
theorem hwE_0 {S : Int → Int} {z x r : Int} (hr : -1 ≤ r) (m : Nat) (g : Int) : hwG (PmE S) (S 2) z m g x r 0 = -1 := hwG_none (PmE S) (S 2) z hr m g (fun g' s _ _ _ _ => by simp [PmE])
theorem SE.fr {h h' : Hp} {S : Int → Int} {mo sq : Int} (v : SE h S mo sq) {p : Nat → Nat → Prop} (f : Fr p h h') (hp : ∀ a k, p a k → ¬ a = 70) : SE h' S mo sq := fun y s a b c d m m0 m1 => by rw [f.I (fun q => hp _ _ q rfl)]; exact v y s a b c d m m0 m1
theorem c_cE_2 {d w : Nat} {S : Int → Int} (gd : Gd S) : ∀ (m : Nat) (g x r n : Int) (h : Hp), g + m = S 1 → (0 ≤ n ∧ n ≤ fullN S) → (-1 ≤ x ∧ x < g) → (-1 ≤ r ∧ r < S 2) → (x = -1 ↔ r = -1) → ¬ Lv S (eMo S) 1 n x r = -1 → EN h w S 1 → SE h S (eMo S) 1 → (∀ j, g ≤ j → j < 12 → hI h 63 j.toNat = -1) → ∃ h', EX (d+2) m_Joinings_chooseEven 20 [(0, .inr (.inr (60))), (1, .inr (.inr (w))), (2, .inr (.inr (70))), (3, .inl (Lv S (eMo S) 1 n x r)), (4, .inl (n)), (5, .inl (x)), (6, .inl (r)), (7, .inl (g))] [] (h) = some (.inl 0, h') ∧ (∀ z : Nat, (z : Int) < S 1 → hI h' 63 z = if (z : Int) < g then hI h 63 z else hwG (PmE S) (S 2) z m g x r n) ∧ Fr (fun a _ => a = 63) h h' := by
  have ga := gd.a
  have gb := gd.b
  have fs := fullN_spec S
  intro m
  induction m with
  | zero =>
    intro g x r n h hg hn hx hr hxr hl en se v
    have wv := en.1.2
    have hw := wv.1
    refine ⟨h, ?_, fun z hz => by rw [if_pos (by omega)], Fr.rf⟩
    rw [Joinings_chooseEven_20]
    simp (disch := omega) only [Joinings_chooseEven_177, wr_id, ix_id, okx, if_pos, if_neg, Int.toNat_of_nonneg, bak_v, bak_n, wr_b01, wr_bt, b01_or, b01_0, b01_1, lc_lt0, lc_gt0, lc_eq0, wl_wr, wr_wr, wl_id, true_and, and_true, true_or, or_true, not_true_eq_false, not_false_eq_true, nc0, nc1, nc2, nc3, nc4, nc5, nc6, nc7, nc8, nc9, nc10, nc11, nc12, nc13, nc14, nc15, nc16, nc17, nc18, nc19, nc20, nc21, nc22, nc23, nc35, nc47, nc59, nc60, nc61, nc73, nc74, nc214, nc215, nc1115, nc2230, nc3345, if_true, if_false, Int.reduceToNat, hw.k, hw.r0, hw.r1, hw.r2, hw.r3, hw.r4, hw.k1, hw.k2, hw.k3, hw.k4, hw.k5, hw.n1, hw.n2, hw.n3, hw.n4, hw.n5, wv.f5, wv.f6, wv.f7, wv.f8, wv.f9, wv.f10, wv.f11, wv.f12, wv.f13, wv.f14, wv.pk, wv.qk, wv.hk, wv.rk]
  | succ m ih =>
    intro g x r n h hg hn hx hr hxr hl en se v
    have hc := en.1.1
    have wv := en.1.2
    have hw := wv.1
    by_cases cn : n = 0
    · subst cn
      refine ⟨h, ?_, fun z hz => ?_, Fr.rf⟩
      · rw [Joinings_chooseEven_20]
        simp (disch := omega) only [Joinings_chooseEven_29, Joinings_chooseEven_177, wr_id, ix_id, okx, if_pos, if_neg, Int.toNat_of_nonneg, bak_v, bak_n, wr_b01, wr_bt, b01_or, b01_0, b01_1, lc_lt0, lc_gt0, lc_eq0, wl_wr, wr_wr, wl_id, true_and, and_true, true_or, or_true, not_true_eq_false, not_false_eq_true, nc0, nc1, nc2, nc3, nc4, nc5, nc6, nc7, nc8, nc9, nc10, nc11, nc12, nc13, nc14, nc15, nc16, nc17, nc18, nc19, nc20, nc21, nc22, nc23, nc35, nc47, nc59, nc60, nc61, nc73, nc74, nc214, nc215, nc1115, nc2230, nc3345, if_true, if_false, Int.reduceToNat, hw.k, hw.r0, hw.r1, hw.r2, hw.r3, hw.r4, hw.k1, hw.k2, hw.k3, hw.k4, hw.k5, hw.n1, hw.n2, hw.n3, hw.n4, hw.n5, wv.f5, wv.f6, wv.f7, wv.f8, wv.f9, wv.f10, wv.f11, wv.f12, wv.f13, wv.f14, wv.pk, wv.qk, wv.hk, wv.rk]
      · by_cases c1 : (z : Int) < g
        · rw [if_pos c1]
        · rw [if_neg c1, hwE_0 hr.1]
          have := v z (by omega) (by omega)
          rw [show (z : Int).toNat = z by omega] at this
          exact this
    obtain ⟨h1, e1, k1, f1⟩ := c_cE_1 (d := d) (w := w) gd (x := x) (r := r) (g := g) (n := n) (by omega) (by omega) hr hxr hl (r + 1) (by omega) (by omega) h en se (v g (by omega) (by omega))
    have en1 := en.fr f1 (fun a k q => Or.inl q.1)
    have se1 := se.fr f1 (fun a k q => by omega)
    have v1 : ∀ j, g + 1 ≤ j → j < 12 → hI h1 63 j.toNat = -1 := fun j a b => by rw [f1.I (by omega)]; exact v j (by omega) b
    have fm : Fr (fun a _ => a = 63) h h1 := f1.mo (fun a k q => q.1)
    have sp := ff_spec (p := PmE S x r n g) (N := S 2) (r + 1)
    have st : EX (d+2) m_Joinings_chooseEven 20 [(0, .inr (.inr (60))), (1, .inr (.inr (w))), (2, .inr (.inr (70))), (3, .inl (Lv S (eMo S) 1 n x r)), (4, .inl (n)), (5, .inl (x)), (6, .inl (r)), (7, .inl (g))] [] (h) = EX (d+2) m_Joinings_chooseEven 144 [(0, .inr (.inr (60))), (1, .inr (.inr (w))), (2, .inr (.inr (70))), (3, .inl (fdE S x r n g (ff (PmE S x r n g) (r + 1) (S 2)))), (4, .inl (n)), (5, .inl (x)), (6, .inl (r)), (7, .inl (g))] [] (h1) := by
      rw [Joinings_chooseEven_20]
      simp (disch := omega) only [Joinings_chooseEven_29, Joinings_chooseEven_34, wr_id, ix_id, okx, if_pos, if_neg, Int.toNat_of_nonneg, bak_v, bak_n, wr_b01, wr_bt, b01_or, b01_0, b01_1, lc_lt0, lc_gt0, lc_eq0, wl_wr, wr_wr, wl_id, true_and, and_true, true_or, or_true, not_true_eq_false, not_false_eq_true, nc0, nc1, nc2, nc3, nc4, nc5, nc6, nc7, nc8, nc9, nc10, nc11, nc12, nc13, nc14, nc15, nc16, nc17, nc18, nc19, nc20, nc21, nc22, nc23, nc35, nc47, nc59, nc60, nc61, nc73, nc74, nc214, nc215, nc1115, nc2230, nc3345, if_true, if_false, Int.reduceToNat, hw.k, hw.r0, hw.r1, hw.r2, hw.r3, hw.r4, hw.k1, hw.k2, hw.k3, hw.k4, hw.k5, hw.n1, hw.n2, hw.n3, hw.n4, hw.n5, wv.f5, wv.f6, wv.f7, wv.f8, wv.f9, wv.f10, wv.f11, wv.f12, wv.f13, wv.f14, wv.pk, wv.qk, wv.hk, wv.rk]
      exact e1
    have low : ∀ z : Nat, (z : Int) < g → hI h1 63 z = hI h 63 z := fun z hz => f1.I (by omega)
    have hc1 := en1.1.1
    by_cases cq : ff (PmE S x r n g) (r + 1) (S 2) = -1
    · rw [cq] at k1
      obtain ⟨h2, e2, v2, f2⟩ := ih (g + 1) x r n h1 (by omega) hn (by omega) hr hxr hl en1 se1 v1
      refine ⟨h2, ?_, fun z hz => ?_, fm.tr f2⟩
      · refine st.trans ?_
        have hc := hc1
        rw [cq]
        have ef : fdE S x r n g (-1) = Lv S (eMo S) 1 n x r := by unfold fdE; rw [if_pos rfl]
        rw [ef]
        simp (disch := omega) only [Joinings_chooseEven_144, Joinings_chooseEven_171, wr_id, ix_id, okx, if_pos, if_neg, Int.toNat_of_nonneg, bak_v, bak_n, wr_b01, wr_bt, b01_or, b01_0, b01_1, lc_lt0, lc_gt0, lc_eq0, wl_wr, wr_wr, wl_id, true_and, and_true, true_or, or_true, not_true_eq_false, not_false_eq_true, nc0, nc1, nc2, nc3, nc4, nc5, nc6, nc7, nc8, nc9, nc10, nc11, nc12, nc13, nc14, nc15, nc16, nc17, nc18, nc19, nc20, nc21, nc22, nc23, nc35, nc47, nc59, nc60, nc61, nc73, nc74, nc214, nc215, nc1115, nc2230, nc3345, if_true, if_false, Int.reduceToNat, hc.k6, hc.r5, hc.r6, hc.r0, hc.r2, hc.r7, hc.r8, hc.r9, hc.r10, hc.r11, hc.r12, hc.r13, hc.r14, hc.r15, hc.r16, hc.r17, hc.r18, hc.r8_0, hc.r8_1, hc.r11_0, hc.r11_1, hc.r60_0, hc.r60_1, hc.r60_4, hc.r64_0, hc.r64_3, hc.r64_4, hc.r68_0, hc.r41_0, hc.r41_1, hc.r42_0, hc.r42_1, hc.k7, hc.k8, hc.k9, hc.k11, hc.k12, hc.k13, hc.k32, hc.k41, hc.k42, hc.k43, hc.k60, hc.k61, hc.k62, hc.k63, hc.k64, hc.k65, hc.k66, hc.k67, hc.k68, hc.k69, hc.k70, hc.k71, hc.n6, hc.n7, hc.n8, hc.n9, hc.n11, hc.n12, hc.n13, hc.n32, hc.n41, hc.n42, hc.n43, hc.n60, hc.n61, hc.n62, hc.n63, hc.n64, hc.n65, hc.n66, hc.n67, hc.n68, hc.n69, hc.n70, hc.n71, k1]
        exact e2
      · rw [v2 z hz]
        simp only [hwG]
        by_cases c1 : (z : Int) < g
        · rw [if_pos (by omega), if_pos c1, low z c1]
        · rw [if_neg c1]
          by_cases c2 : g = (z : Int)
          · rw [if_pos (show (z : Int) < g + 1 by omega), if_pos c2, cq]
            rw [show z = g.toNat by omega]; exact k1
          · rw [if_neg (show ¬ (z : Int) < g + 1 by omega), if_neg c2, if_pos cq]
    · have sq : r + 1 ≤ ff (PmE S x r n g) (r + 1) (S 2) ∧ ff (PmE S x r n g) (r + 1) (S 2) < S 2 ∧ PmE S x r n g (ff (PmE S x r n g) (r + 1) (S 2)) = true := by
        rcases sp with q | q
        · exact absurd q.1 cq
        · exact ⟨q.1, q.2.1, q.2.2.1⟩
      generalize hs : ff (PmE S x r n g) (r + 1) (S 2) = s at *
      have pn := PmE_ne hl sq.2.2
      obtain ⟨h2, e2, v2, f2⟩ := ih (g + 1) g s (n - 1) h1 (by omega) (by omega) (by omega) (by omega) (by omega) pn en1 se1 v1
      refine ⟨h2, ?_, fun z hz => ?_, fm.tr f2⟩
      · refine st.trans ?_
        have hc := hc1
        have ef : fdE S x r n g s = Lv S (eMo S) 1 (n - 1) g s := by unfold fdE; rw [if_neg cq]
        rw [ef]
        simp (disch := omega) only [Joinings_chooseEven_144, Joinings_chooseEven_155, Joinings_chooseEven_171, wr_id, ix_id, okx, if_pos, if_neg, Int.toNat_of_nonneg, bak_v, bak_n, wr_b01, wr_bt, b01_or, b01_0, b01_1, lc_lt0, lc_gt0, lc_eq0, wl_wr, wr_wr, wl_id, true_and, and_true, true_or, or_true, not_true_eq_false, not_false_eq_true, nc0, nc1, nc2, nc3, nc4, nc5, nc6, nc7, nc8, nc9, nc10, nc11, nc12, nc13, nc14, nc15, nc16, nc17, nc18, nc19, nc20, nc21, nc22, nc23, nc35, nc47, nc59, nc60, nc61, nc73, nc74, nc214, nc215, nc1115, nc2230, nc3345, if_true, if_false, Int.reduceToNat, hc.k6, hc.r5, hc.r6, hc.r0, hc.r2, hc.r7, hc.r8, hc.r9, hc.r10, hc.r11, hc.r12, hc.r13, hc.r14, hc.r15, hc.r16, hc.r17, hc.r18, hc.r8_0, hc.r8_1, hc.r11_0, hc.r11_1, hc.r60_0, hc.r60_1, hc.r60_4, hc.r64_0, hc.r64_3, hc.r64_4, hc.r68_0, hc.r41_0, hc.r41_1, hc.r42_0, hc.r42_1, hc.k7, hc.k8, hc.k9, hc.k11, hc.k12, hc.k13, hc.k32, hc.k41, hc.k42, hc.k43, hc.k60, hc.k61, hc.k62, hc.k63, hc.k64, hc.k65, hc.k66, hc.k67, hc.k68, hc.k69, hc.k70, hc.k71, hc.n6, hc.n7, hc.n8, hc.n9, hc.n11, hc.n12, hc.n13, hc.n32, hc.n41, hc.n42, hc.n43, hc.n60, hc.n61, hc.n62, hc.n63, hc.n64, hc.n65, hc.n66, hc.n67, hc.n68, hc.n69, hc.n70, hc.n71, k1, show n + -1 = n - 1 by omega]
        exact e2
      · rw [v2 z hz]
        simp only [hwG]
        rw [hs]
        by_cases c1 : (z : Int) < g
        · rw [if_pos (by omega), if_pos c1, low z c1]
        · rw [if_neg c1]
          by_cases c2 : g = (z : Int)
          · rw [if_pos (show (z : Int) < g + 1 by omega), if_pos c2]
            rw [show z = g.toNat by omega]; exact k1
          · rw [if_neg (show ¬ (z : Int) < g + 1 by omega), if_neg c2, if_neg cq]
theorem c_chooseEven {d w : Nat} {h : Hp} {S : Int → Int} (gd : Gd S) (en : EN h w S 1) (se : SE h S (eMo S) 1) (e6 : hI h 60 6 = eSq S) (v : ∀ j : Int, 0 ≤ j → j < 12 → hI h 63 j.toNat = -1) : ∃ h', cal (d+3) m_Joinings_chooseEven [.inr (.inr (60)), .inr (.inr (w)), .inr (.inr (70))] (h) = some (.inl 0, h') ∧ (∀ z : Nat, (z : Int) < S 1 → hI h' 63 z = evR S z) ∧ Fr (fun a _ => a = 63) h h' := by
  have ga := gd.a
  have gb := gd.b
  have fs := fullN_spec S
  have eo := eSq_ok gd
  have hc := en.1.1
  obtain ⟨h', e, k, f⟩ := c_cE_2 (d := d) (w := w) gd (S 1).toNat 0 (-1) (-1) (fullN S) h (by omega) (by omega) (by omega) (by omega) (by omega) (show ¬ eSq S = -1 by omega) en se v
  refine ⟨h', ?_, fun z hz => ?_, f⟩
  · show EX (d+2) m_Joinings_chooseEven 0 [(0, .inr (.inr (60))), (1, .inr (.inr (w))), (2, .inr (.inr (70)))] [] (h) = _
    simp (disch := omega) only [Joinings_chooseEven_0, wr_id, ix_id, okx, if_pos, if_neg, Int.toNat_of_nonneg, bak_v, bak_n, wr_b01, wr_bt, b01_or, b01_0, b01_1, lc_lt0, lc_gt0, lc_eq0, wl_wr, wr_wr, wl_id, true_and, and_true, true_or, or_true, not_true_eq_false, not_false_eq_true, nc0, nc1, nc2, nc3, nc4, nc5, nc6, nc7, nc8, nc9, nc10, nc11, nc12, nc13, nc14, nc15, nc16, nc17, nc18, nc19, nc20, nc21, nc22, nc23, nc35, nc47, nc59, nc60, nc61, nc73, nc74, nc214, nc215, nc1115, nc2230, nc3345, if_true, if_false, Int.reduceToNat, hc.k6, hc.r5, hc.r6, hc.r0, hc.r2, hc.r7, hc.r8, hc.r9, hc.r10, hc.r11, hc.r12, hc.r13, hc.r14, hc.r15, hc.r16, hc.r17, hc.r18, hc.r8_0, hc.r8_1, hc.r11_0, hc.r11_1, hc.r60_0, hc.r60_1, hc.r60_4, hc.r64_0, hc.r64_3, hc.r64_4, hc.r68_0, hc.r41_0, hc.r41_1, hc.r42_0, hc.r42_1, hc.k7, hc.k8, hc.k9, hc.k11, hc.k12, hc.k13, hc.k32, hc.k41, hc.k42, hc.k43, hc.k60, hc.k61, hc.k62, hc.k63, hc.k64, hc.k65, hc.k66, hc.k67, hc.k68, hc.k69, hc.k70, hc.k71, hc.n6, hc.n7, hc.n8, hc.n9, hc.n11, hc.n12, hc.n13, hc.n32, hc.n41, hc.n42, hc.n43, hc.n60, hc.n61, hc.n62, hc.n63, hc.n64, hc.n65, hc.n66, hc.n67, hc.n68, hc.n69, hc.n70, hc.n71, e6, en.2.1.2.2]
    exact e
  · rw [k z hz, if_neg (by omega)]
    rfl
/-- the evenest is kept -/
def EK (h : Hp) (S : Int → Int) : Prop := (∀ z : Nat, (z : Int) < S 1 → hI h 63 z = evR S z) ∧ hI h 60 5 = eMo S ∧ hI h 60 6 = eSq S
def pEc (a k : Nat) : Prop := pJ a k ∨ a = 63 ∨ a = 70 ∨ (a = 60 ∧ (k = 5 ∨ k = 6 ∨ k = 7))
theorem c_evenFor {d w : Nat} {h : Hp} {S : Int → Int} (gd : Gd S) (jw : JW h w S) (hj : hI h 60 3 = 0 ∨ (hI h 60 3 = 1 ∧ JN h S)) (he : hI h 60 7 = 0 ∨ (hI h 60 7 = 1 ∧ EK h S)) : ∃ h', cal (d+4) m_Joinings_evenFor [.inr (.inr (60)), .inr (.inr (w)), .inr (.inr (70))] (h) = some (.inl 0, h') ∧ hI h' 60 3 = 1 ∧ JN h' S ∧ hI h' 60 7 = 1 ∧ EK h' S ∧ Fr pEc h h' := by
  have ga := gd.a
  have gb := gd.b
  have fs := fullN_spec S
  have hc0 := jw.1
  obtain ⟨h1, e1, j1, n1, f1⟩ := c_countFor (d := d) gd jw hj
  have jw1 := jw.fr f1 (fun a k q => by unfold pJ at q; omega)
  have hc := jw1.1
  have fm1 : Fr pEc h h1 := f1.mo (fun a k q => Or.inl q)
  have e7 : hI h1 60 7 = hI h 60 7 := f1.I (by unfold pJ; omega)
  have st : cal (d+4) m_Joinings_evenFor [.inr (.inr (60)), .inr (.inr (w)), .inr (.inr (70))] (h) = EX (d+3) m_Joinings_evenFor 5 [(0, .inr (.inr (60))), (1, .inr (.inr (w))), (2, .inr (.inr (70)))] [] (h1) := by
    show EX (d+3) m_Joinings_evenFor 0 [(0, .inr (.inr (60))), (1, .inr (.inr (w))), (2, .inr (.inr (70)))] [] (h) = _
    simp (disch := omega) only [Joinings_evenFor_0, wr_id, ix_id, okx, if_pos, if_neg, Int.toNat_of_nonneg, bak_v, bak_n, wr_b01, wr_bt, b01_or, b01_0, b01_1, lc_lt0, lc_gt0, lc_eq0, wl_wr, wr_wr, wl_id, true_and, and_true, true_or, or_true, not_true_eq_false, not_false_eq_true, nc0, nc1, nc2, nc3, nc4, nc5, nc6, nc7, nc8, nc9, nc10, nc11, nc12, nc13, nc14, nc15, nc16, nc17, nc18, nc19, nc20, nc21, nc22, nc23, nc35, nc47, nc59, nc60, nc61, nc73, nc74, nc214, nc215, nc1115, nc2230, nc3345, if_true, if_false, Int.reduceToNat, e1, hc0.k60]
  rcases he with c | ⟨c, ek⟩
  · have eA := fill_s (d + 2) 63 (-1) (pI h1 60 7 1) hc.k63 (by rw [show sN (pI h1 60 7 1) 63 = 12 from hc.n63]; omega)
    rw [show sN (pI h1 60 7 1) 63 = 12 from hc.n63] at eA
    let h2 := pI (pI (flI (pI h1 60 7 1) 63 (-1) 12) 60 5 0) 60 6 0
    have f2 : Fr (fun a k => a = 63 ∨ (a = 60 ∧ (k = 5 ∨ k = 6 ∨ k = 7))) h1 h2 := Fr.pI (Fr.pI (Fr.flI (Fr.pI Fr.rf (by omega)) (fun k _ => by omega)) (by omega)) (by omega)
    have fm2 : Fr pEc h h2 := fm1.tr (f2.mo (fun a k q => by unfold pEc; omega))
    have jw2 := jw1.fr f2 (fun a k q => by omega)
    have n2 := n1.fr f2 (fun a k q => by omega)
    have v2 : ∀ j : Int, 0 ≤ j → j < 12 → hI h2 63 j.toNat = -1 := fun j a b => by
      show hI (pI (pI (flI (pI h1 60 7 1) 63 (-1) 12) 60 5 0) 60 6 0) 63 j.toNat = -1
      rw [hI_pI, if_neg (by omega), hI_pI, if_neg (by omega), hI_flI, if_pos (by omega)]
    have c7 : hI h2 60 7 = 1 := by
      show hI (pI (pI (flI (pI h1 60 7 1) 63 (-1) 12) 60 5 0) 60 6 0) 60 7 = 1
      rw [hI_pI, if_neg (by omega), hI_pI, if_neg (by omega), hI_flI, if_neg (by omega), hI_pI, if_pos (by omega)]
    have c3 : hI h2 60 3 = 1 := by rw [f2.I (by omega)]; exact j1
    have st2 : EX (d+3) m_Joinings_evenFor 5 [(0, .inr (.inr (60))), (1, .inr (.inr (w))), (2, .inr (.inr (70)))] [] (h1) = EX (d+3) m_Joinings_evenFor 36 [(0, .inr (.inr (60))), (1, .inr (.inr (w))), (2, .inr (.inr (70)))] [] (h2) := by
      rw [c] at e7
      simp (disch := omega) only [Joinings_evenFor_5, Joinings_evenFor_13, Joinings_evenFor_18, Joinings_evenFor_26, Joinings_evenFor_31, wr_id, ix_id, okx, if_pos, if_neg, Int.toNat_of_nonneg, bak_v, bak_n, wr_b01, wr_bt, b01_or, b01_0, b01_1, lc_lt0, lc_gt0, lc_eq0, wl_wr, wr_wr, wl_id, true_and, and_true, true_or, or_true, not_true_eq_false, not_false_eq_true, nc0, nc1, nc2, nc3, nc4, nc5, nc6, nc7, nc8, nc9, nc10, nc11, nc12, nc13, nc14, nc15, nc16, nc17, nc18, nc19, nc20, nc21, nc22, nc23, nc35, nc47, nc59, nc60, nc61, nc73, nc74, nc214, nc215, nc1115, nc2230, nc3345, if_true, if_false, Int.reduceToNat, hc.k6, hc.r5, hc.r6, hc.r0, hc.r2, hc.r7, hc.r8, hc.r9, hc.r10, hc.r11, hc.r12, hc.r13, hc.r14, hc.r15, hc.r16, hc.r17, hc.r18, hc.r8_0, hc.r8_1, hc.r11_0, hc.r11_1, hc.r60_0, hc.r60_1, hc.r60_4, hc.r64_0, hc.r64_3, hc.r64_4, hc.r68_0, hc.r41_0, hc.r41_1, hc.r42_0, hc.r42_1, hc.k7, hc.k8, hc.k9, hc.k11, hc.k12, hc.k13, hc.k32, hc.k41, hc.k42, hc.k43, hc.k60, hc.k61, hc.k62, hc.k63, hc.k64, hc.k65, hc.k66, hc.k67, hc.k68, hc.k69, hc.k70, hc.k71, hc.n6, hc.n7, hc.n8, hc.n9, hc.n11, hc.n12, hc.n13, hc.n32, hc.n41, hc.n42, hc.n43, hc.n60, hc.n61, hc.n62, hc.n63, hc.n64, hc.n65, hc.n66, hc.n67, hc.n68, hc.n69, hc.n70, hc.n71, e7, sK_pI, sK_flI, hR_pI, eA]
      rfl
    by_cases cN : fullN S = 0
    · have hc2 := jw2.1
      have eM : eMo S = 0 := by unfold eMo; rw [cN]; rfl
      have eS : eSq S = 0 := by unfold eSq; rw [cN]; rfl
      refine ⟨h2, ?_, c3, n2, c7, ⟨fun z hz => ?_, ?_, ?_⟩, fm2⟩
      · refine st.trans (st2.trans ?_)
        have hc := hc2
        have j2 := n2.2.2
        rw [cN] at j2
        simp (disch := omega) only [Joinings_evenFor_36, Joinings_evenFor_43, wr_id, ix_id, okx, if_pos, if_neg, Int.toNat_of_nonneg, bak_v, bak_n, wr_b01, wr_bt, b01_or, b01_0, b01_1, lc_lt0, lc_gt0, lc_eq0, wl_wr, wr_wr, wl_id, true_and, and_true, true_or, or_true, not_true_eq_false, not_false_eq_true, nc0, nc1, nc2, nc3, nc4, nc5, nc6, nc7, nc8, nc9, nc10, nc11, nc12, nc13, nc14, nc15, nc16, nc17, nc18, nc19, nc20, nc21, nc22, nc23, nc35, nc47, nc59, nc60, nc61, nc73, nc74, nc214, nc215, nc1115, nc2230, nc3345, if_true, if_false, Int.reduceToNat, hc.k6, hc.r5, hc.r6, hc.r0, hc.r2, hc.r7, hc.r8, hc.r9, hc.r10, hc.r11, hc.r12, hc.r13, hc.r14, hc.r15, hc.r16, hc.r17, hc.r18, hc.r8_0, hc.r8_1, hc.r11_0, hc.r11_1, hc.r60_0, hc.r60_1, hc.r60_4, hc.r64_0, hc.r64_3, hc.r64_4, hc.r68_0, hc.r41_0, hc.r41_1, hc.r42_0, hc.r42_1, hc.k7, hc.k8, hc.k9, hc.k11, hc.k12, hc.k13, hc.k32, hc.k41, hc.k42, hc.k43, hc.k60, hc.k61, hc.k62, hc.k63, hc.k64, hc.k65, hc.k66, hc.k67, hc.k68, hc.k69, hc.k70, hc.k71, hc.n6, hc.n7, hc.n8, hc.n9, hc.n11, hc.n12, hc.n13, hc.n32, hc.n41, hc.n42, hc.n43, hc.n60, hc.n61, hc.n62, hc.n63, hc.n64, hc.n65, hc.n66, hc.n67, hc.n68, hc.n69, hc.n70, hc.n71, j2]
      · unfold evR
        rw [cN, hwE_0 (by omega)]
        have := v2 z (by omega) (by omega)
        rw [show (z : Int).toNat = z by omega] at this
        exact this
      · rw [eM]
        show hI (pI (pI (flI (pI h1 60 7 1) 63 (-1) 12) 60 5 0) 60 6 0) 60 5 = 0
        rw [hI_pI, if_neg (by omega), hI_pI, if_pos (by omega)]
      · rw [eS]
        show hI (pI (pI (flI (pI h1 60 7 1) 63 (-1) 12) 60 5 0) 60 6 0) 60 6 = 0
        rw [hI_pI, if_pos (by omega)]
    · have eo := eMo_ok gd
      have so := eSq_ok gd
      obtain ⟨h3, e3, s3, f3⟩ := c_leastOfFull (d := d) (w := w) gd (mo := -1) (sq := 0) (Or.inl ⟨rfl, rfl⟩) (by omega) (h := h2) ⟨jw2, n2, fun q => by omega⟩
      have em : toF (Lv S (-1) 0 (fullN S) (-1) (-1)) = eMo S := by
        show toF (eMo S) = eMo S
        unfold toF; rw [if_neg (by omega)]
      rw [em] at e3
      have jw3 := jw2.fr f3 (fun a k q => by omega)
      have n3 := n2.fr f3 (fun a k q => by omega)
      have f4 : Fr (fun a k => a = 60 ∧ k = 5) h3 (pI h3 60 5 (eMo S)) := Fr.pI Fr.rf ⟨rfl, rfl⟩
      have jw4 := jw3.fr f4 (fun a k q => by omega)
      have n4 := n3.fr f4 (fun a k q => by omega)
      obtain ⟨h5, e5, s5, f5⟩ := c_leastOfFull (d := d) (w := w) gd (mo := eMo S) (sq := 1) (Or.inr ⟨rfl, rfl⟩) (by omega) (h := pI h3 60 5 (eMo S)) ⟨jw4, n4, fun _ => by rw [hI_pI, if_pos ⟨rfl, rfl⟩]⟩
      have em2 : toF (Lv S (eMo S) 1 (fullN S) (-1) (-1)) = eSq S := by
        show toF (eSq S) = eSq S
        unfold toF; rw [if_neg (by omega)]
      rw [em2] at e5
      have jw5 := jw4.fr f5 (fun a k q => by omega)
      have n5 := n4.fr f5 (fun a k q => by omega)
      have f6 : Fr (fun a k => a = 60 ∧ k = 6) h5 (pI h5 60 6 (eSq S)) := Fr.pI Fr.rf ⟨rfl, rfl⟩
      have jw6 := jw5.fr f6 (fun a k q => by omega)
      have n6 := n5.fr f6 (fun a k q => by omega)
      have q5 : hI (pI h5 60 6 (eSq S)) 60 5 = eMo S := by rw [f6.I (by omega), f5.I (by omega), hI_pI, if_pos ⟨rfl, rfl⟩]
      have q6 : hI (pI h5 60 6 (eSq S)) 60 6 = eSq S := by rw [hI_pI, if_pos ⟨rfl, rfl⟩]
      obtain ⟨h7, e7', v7, f7⟩ := c_chooseEven (d := d) (w := w) gd (h := pI h5 60 6 (eSq S)) ⟨jw6, n6, fun _ => q5⟩ (s5.fr f6 (fun a k q => by omega)) q6 (fun j a b => by rw [f6.I (by omega), f5.I (by omega), f4.I (by omega), f3.I (by omega)]; exact v2 j a b)
      refine ⟨h7, ?_, ?_, n6.fr f7 (fun a k q => by omega), ?_, ⟨v7, ?_, ?_⟩, ?_⟩
      · refine st.trans (st2.trans ?_)
        have k2 := jw2.1.k60
        have k3 := jw3.1.k60
        have k5 := jw5.1.k60
        have m2 := n2.2.2
        simp (disch := omega) only [Joinings_evenFor_36, Joinings_evenFor_44, Joinings_evenFor_52, Joinings_evenFor_55, Joinings_evenFor_63, Joinings_evenFor_66, Joinings_evenFor_72, wr_id, ix_id, okx, if_pos, if_neg, Int.toNat_of_nonneg, bak_v, bak_n, wr_b01, wr_bt, b01_or, b01_0, b01_1, lc_lt0, lc_gt0, lc_eq0, wl_wr, wr_wr, wl_id, true_and, and_true, true_or, or_true, not_true_eq_false, not_false_eq_true, nc0, nc1, nc2, nc3, nc4, nc5, nc6, nc7, nc8, nc9, nc10, nc11, nc12, nc13, nc14, nc15, nc16, nc17, nc18, nc19, nc20, nc21, nc22, nc23, nc35, nc47, nc59, nc60, nc61, nc73, nc74, nc214, nc215, nc1115, nc2230, nc3345, if_true, if_false, Int.reduceToNat, k2, k3, k5, m2, e3, e5, e7', sK_pI]
      · rw [f7.I (by omega), f6.I (by omega), f5.I (by omega), f4.I (by omega), f3.I (by omega)]; exact c3
      · rw [f7.I (by omega), f6.I (by omega), f5.I (by omega), f4.I (by omega), f3.I (by omega)]; exact c7
      · rw [f7.I (by omega)]; exact q5
      · rw [f7.I (by omega)]; exact q6
      · have g3 : Fr pEc h2 h3 := f3.mo (fun a k q => by unfold pEc; omega)
        have g4 : Fr pEc h3 (pI h3 60 5 (eMo S)) := f4.mo (fun a k q => by unfold pEc; omega)
        have g5 : Fr pEc (pI h3 60 5 (eMo S)) h5 := f5.mo (fun a k q => by unfold pEc; omega)
        have g6 : Fr pEc h5 (pI h5 60 6 (eSq S)) := f6.mo (fun a k q => by unfold pEc; omega)
        have g7 : Fr pEc (pI h5 60 6 (eSq S)) h7 := f7.mo (fun a k q => by unfold pEc; omega)
        exact ((((fm2.tr g3).tr g4).tr g5).tr g6).tr g7
  · refine ⟨h1, ?_, j1, n1, by rw [e7]; exact c, ⟨fun z hz => ?_, ?_, ?_⟩, fm1⟩
    · refine st.trans ?_
      rw [c] at e7
      simp (disch := omega) only [Joinings_evenFor_5, Joinings_evenFor_12, wr_id, ix_id, okx, if_pos, if_neg, Int.toNat_of_nonneg, bak_v, bak_n, wr_b01, wr_bt, b01_or, b01_0, b01_1, lc_lt0, lc_gt0, lc_eq0, wl_wr, wr_wr, wl_id, true_and, and_true, true_or, or_true, not_true_eq_false, not_false_eq_true, nc0, nc1, nc2, nc3, nc4, nc5, nc6, nc7, nc8, nc9, nc10, nc11, nc12, nc13, nc14, nc15, nc16, nc17, nc18, nc19, nc20, nc21, nc22, nc23, nc35, nc47, nc59, nc60, nc61, nc73, nc74, nc214, nc215, nc1115, nc2230, nc3345, if_true, if_false, Int.reduceToNat, hc.k6, hc.r5, hc.r6, hc.r0, hc.r2, hc.r7, hc.r8, hc.r9, hc.r10, hc.r11, hc.r12, hc.r13, hc.r14, hc.r15, hc.r16, hc.r17, hc.r18, hc.r8_0, hc.r8_1, hc.r11_0, hc.r11_1, hc.r60_0, hc.r60_1, hc.r60_4, hc.r64_0, hc.r64_3, hc.r64_4, hc.r68_0, hc.r41_0, hc.r41_1, hc.r42_0, hc.r42_1, hc.k7, hc.k8, hc.k9, hc.k11, hc.k12, hc.k13, hc.k32, hc.k41, hc.k42, hc.k43, hc.k60, hc.k61, hc.k62, hc.k63, hc.k64, hc.k65, hc.k66, hc.k67, hc.k68, hc.k69, hc.k70, hc.k71, hc.n6, hc.n7, hc.n8, hc.n9, hc.n11, hc.n12, hc.n13, hc.n32, hc.n41, hc.n42, hc.n43, hc.n60, hc.n61, hc.n62, hc.n63, hc.n64, hc.n65, hc.n66, hc.n67, hc.n68, hc.n69, hc.n70, hc.n71, e7]
    · rw [f1.I (by unfold pJ; omega)]; exact ek.1 z hz
    · rw [f1.I (by unfold pJ; omega)]; exact ek.2.1
    · rw [f1.I (by unfold pJ; omega)]; exact ek.2.2
