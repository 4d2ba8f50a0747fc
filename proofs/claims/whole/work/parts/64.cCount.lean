/-! the class: countFor whole -/
/-- rows of hooks behind x, and of x behind ring r, are right; the others are 0 -/
def TC (h : Hp) (S : Int → Int) (x r : Int) : Prop := ∀ y s, 0 ≤ y → y < S 1 → 0 ≤ s → s < S 2 → rowC h y s (fun m => if x < y ∨ (y = x ∧ r < s) then Mc S m y s else 0)
def TT (h : Hp) (S : Int → Int) (x r : Int) : Prop := ∀ m, 0 ≤ m → m ≤ 12 → hI h 62 m.toNat = if 1 ≤ m then sm (fun y => sm (fun s => Mc S (m - 1) y s) 0 (S 2)) (x + 1) (S 1) + sm (fun s => Mc S (m - 1) x s) (r + 1) (S 2) else 1
theorem c_count_1 {d w : Nat} {S : Int → Int} (g : Gd S) {x : Int} (hx : 0 ≤ x ∧ x < S 1) : ∀ r, -1 ≤ r → r < S 2 → ∀ h, JW h w S → TC h S x r → TT h S x r → ∃ h', EX (d+2) m_Joinings_countFor 54 [(0, .inr (.inr (60))), (1, .inr (.inr (w))), (2, .inl (x)), (3, .inl (r))] [] (h) = EX (d+2) m_Joinings_countFor 79 [(0, .inr (.inr (60))), (1, .inr (.inr (w))), (2, .inl (x))] [] (h') ∧ TC h' S x (-1) ∧ TT h' S x (-1) ∧ Fr (fun a _ => a = 61 ∨ a = 62) h h' := by
  have ga := g.a
  have gb := g.b
  refine dn_ind (lo := 0) ?_ ?_
  · intro r hr h0 h1 h jw tc tt
    have er : r = -1 := by omega
    subst er
    refine ⟨h, ?_, tc, tt, Fr.rf⟩
    rw [Joinings_countFor_54]
    simp (disch := omega) only [wr_id, ix_id, okx, if_pos, if_neg, Int.toNat_of_nonneg, bak_v, bak_n, wr_b01, wr_bt, b01_or, b01_0, b01_1, lc_lt0, lc_gt0, lc_eq0, wl_wr, wr_wr, wl_id, true_and, and_true, true_or, or_true, not_true_eq_false, not_false_eq_true, nc0, nc1, nc2, nc3, nc4, nc5, nc6, nc7, nc8, nc9, nc10, nc11, nc12, nc13, nc14, nc15, nc16, nc17, nc18, nc19, nc20, nc21, nc22, nc23, nc35, nc47, nc59, nc60, nc61, nc73, nc74, nc214, nc215, nc1115, nc2230, nc3345, if_true, if_false, Int.reduceToNat]
  · intro r hr ih h0 h1 h jw tc tt
    have hc := jw.1
    have wv := jw.2
    have hw := jw.2.1
    have eb := c_isBroken (d := d + 1) wv (r := r) (by omega)
    have er : r + -1 = r - 1 := by omega
    rcases bt_01 (S 10) r with c | c
    · obtain ⟨h1', e1, k1, k2, f1⟩ := c_countBehind (d := d) (w := w) g hx (r := r) ⟨hr, h1⟩ c (tot := fun m => if 1 ≤ m then sm (fun y => sm (fun s => Mc S (m - 1) y s) 0 (S 2)) (x + 1) (S 1) + sm (fun s => Mc S (m - 1) x s) (r + 1) (S 2) else 1) jw (fun y s z1 z2 z3 z4 => (tc y s (by omega) z2 z3 z4).cg (fun m _ _ => by rw [if_pos (by omega)])) ((tc x r (by omega) (by omega) hr h1).cg (fun m _ _ => by rw [if_neg (by omega)])) tt
      have fm : Fr (fun a _ => a = 61 ∨ a = 62) h h1' := f1.mo (fun a k q => by unfold p62 pC at q; omega)
      obtain ⟨h2, e2, t2, u2, f2⟩ := ih (by omega) (by omega) h1' (jw.fr fm (fun a k q => by omega)) (fun y s y0 y1 s0 s1 => by
        by_cases c2 : y = x ∧ s = r
        · obtain ⟨ey, es⟩ := c2
          rw [ey, es]
          exact k1.cg (fun m _ _ => by rw [if_pos (by omega)])
        · intro m m0 m1
          rw [f1.I (by unfold p62 pC; omega), tc y s y0 y1 s0 s1 m m0 m1]
          dsimp only
          by_cases c3 : x < y ∨ (y = x ∧ r < s)
          · rw [if_pos c3, if_pos (by omega)]
          · rw [if_neg c3, if_neg (by omega)]) (fun m m0 m1 => by
        rw [k2 m m0 m1]
        by_cases c1 : 1 ≤ m
        · simp only [c1, if_true]
          rw [show r - 1 + 1 = r by omega, sm_step (i := r) h1]
          omega
        · simp only [c1, if_false])
      refine ⟨h2, ?_, t2, u2, fm.tr f2⟩
      rw [Joinings_countFor_54]
      simp (disch := omega) only [Joinings_countFor_58, Joinings_countFor_63, Joinings_countFor_66, Joinings_countFor_73, wr_id, ix_id, okx, if_pos, if_neg, Int.toNat_of_nonneg, bak_v, bak_n, wr_b01, wr_bt, b01_or, b01_0, b01_1, lc_lt0, lc_gt0, lc_eq0, wl_wr, wr_wr, wl_id, true_and, and_true, true_or, or_true, not_true_eq_false, not_false_eq_true, nc0, nc1, nc2, nc3, nc4, nc5, nc6, nc7, nc8, nc9, nc10, nc11, nc12, nc13, nc14, nc15, nc16, nc17, nc18, nc19, nc20, nc21, nc22, nc23, nc35, nc47, nc59, nc60, nc61, nc73, nc74, nc214, nc215, nc1115, nc2230, nc3345, if_true, if_false, Int.reduceToNat, hw.k, hw.r0, hw.r1, hw.r2, hw.r3, hw.r4, hw.k1, hw.k2, hw.k3, hw.k4, hw.k5, hw.n1, hw.n2, hw.n3, hw.n4, hw.n5, hc.k6, hc.r5, hc.r6, hc.r0, hc.r2, hc.r7, hc.r8, hc.r9, hc.r10, hc.r11, hc.r12, hc.r13, hc.r14, hc.r15, hc.r16, hc.r17, hc.r18, hc.r8_0, hc.r8_1, hc.r11_0, hc.r11_1, hc.r60_0, hc.r60_1, hc.r60_4, hc.r64_0, hc.r64_3, hc.r64_4, hc.r68_0, hc.r41_0, hc.r41_1, hc.r42_0, hc.r42_1, hc.k7, hc.k8, hc.k9, hc.k11, hc.k12, hc.k13, hc.k32, hc.k41, hc.k42, hc.k43, hc.k60, hc.k61, hc.k62, hc.k63, hc.k64, hc.k65, hc.k66, hc.k67, hc.k68, hc.k69, hc.k70, hc.k71, hc.n6, hc.n7, hc.n8, hc.n9, hc.n11, hc.n12, hc.n13, hc.n32, hc.n41, hc.n42, hc.n43, hc.n60, hc.n61, hc.n62, hc.n63, hc.n64, hc.n65, hc.n66, hc.n67, hc.n68, hc.n69, hc.n70, hc.n71, eb, c, e1, er, e2]
    · obtain ⟨h2, e2, t2, u2, f2⟩ := ih (by omega) (by omega) h jw (fun y s y0 y1 s0 s1 => (tc y s y0 y1 s0 s1).cg (fun m _ _ => by
        by_cases c2 : y = x ∧ s = r
        · obtain ⟨ey, es⟩ := c2
          have : Mc S m y s = 0 := by unfold Mc; rw [es, if_neg (by omega)]
          rw [this]; simp
        · by_cases c3 : x < y ∨ (y = x ∧ r < s)
          · rw [if_pos c3, if_pos (by omega)]
          · rw [if_neg c3, if_neg (by omega)])) (fun m m0 m1 => by
        rw [tt m m0 m1]
        by_cases c1 : 1 ≤ m
        · simp only [c1, if_true]
          rw [show r - 1 + 1 = r by omega, sm_step (i := r) h1]
          have : Mc S (m - 1) x r = 0 := by unfold Mc; rw [if_neg (by omega)]
          rw [this, Int.zero_add]
        · simp only [c1, if_false])
      refine ⟨h2, ?_, t2, u2, f2⟩
      rw [Joinings_countFor_54]
      simp (disch := omega) only [Joinings_countFor_58, Joinings_countFor_63, Joinings_countFor_73, wr_id, ix_id, okx, if_pos, if_neg, Int.toNat_of_nonneg, bak_v, bak_n, wr_b01, wr_bt, b01_or, b01_0, b01_1, lc_lt0, lc_gt0, lc_eq0, wl_wr, wr_wr, wl_id, true_and, and_true, true_or, or_true, not_true_eq_false, not_false_eq_true, nc0, nc1, nc2, nc3, nc4, nc5, nc6, nc7, nc8, nc9, nc10, nc11, nc12, nc13, nc14, nc15, nc16, nc17, nc18, nc19, nc20, nc21, nc22, nc23, nc35, nc47, nc59, nc60, nc61, nc73, nc74, nc214, nc215, nc1115, nc2230, nc3345, if_true, if_false, Int.reduceToNat, hw.k, hw.r0, hw.r1, hw.r2, hw.r3, hw.r4, hw.k1, hw.k2, hw.k3, hw.k4, hw.k5, hw.n1, hw.n2, hw.n3, hw.n4, hw.n5, hc.k6, hc.r5, hc.r6, hc.r0, hc.r2, hc.r7, hc.r8, hc.r9, hc.r10, hc.r11, hc.r12, hc.r13, hc.r14, hc.r15, hc.r16, hc.r17, hc.r18, hc.r8_0, hc.r8_1, hc.r11_0, hc.r11_1, hc.r60_0, hc.r60_1, hc.r60_4, hc.r64_0, hc.r64_3, hc.r64_4, hc.r68_0, hc.r41_0, hc.r41_1, hc.r42_0, hc.r42_1, hc.k7, hc.k8, hc.k9, hc.k11, hc.k12, hc.k13, hc.k32, hc.k41, hc.k42, hc.k43, hc.k60, hc.k61, hc.k62, hc.k63, hc.k64, hc.k65, hc.k66, hc.k67, hc.k68, hc.k69, hc.k70, hc.k71, hc.n6, hc.n7, hc.n8, hc.n9, hc.n11, hc.n12, hc.n13, hc.n32, hc.n41, hc.n42, hc.n43, hc.n60, hc.n61, hc.n62, hc.n63, hc.n64, hc.n65, hc.n66, hc.n67, hc.n68, hc.n69, hc.n70, hc.n71, eb, c, er, e2]
theorem c_count_2 {d w : Nat} {S : Int → Int} (g : Gd S) : ∀ x, -1 ≤ x → x < S 1 → ∀ h, JW h w S → TC h S x (S 2 - 1) → TT h S x (S 2 - 1) → ∃ h', EX (d+2) m_Joinings_countFor 43 [(0, .inr (.inr (60))), (1, .inr (.inr (w))), (2, .inl (x))] [] (h) = EX (d+2) m_Joinings_countFor 85 [(0, .inr (.inr (60)))] [] (h') ∧ TC h' S (-1) (S 2 - 1) ∧ TT h' S (-1) (S 2 - 1) ∧ Fr (fun a _ => a = 61 ∨ a = 62) h h' := by
  have ga := g.a
  have gb := g.b
  refine dn_ind (lo := 0) ?_ ?_
  · intro x hx h0 h1 h jw tc tt
    have ex : x = -1 := by omega
    subst ex
    refine ⟨h, ?_, tc, tt, Fr.rf⟩
    rw [Joinings_countFor_43]
    simp (disch := omega) only [wr_id, ix_id, okx, if_pos, if_neg, Int.toNat_of_nonneg, bak_v, bak_n, wr_b01, wr_bt, b01_or, b01_0, b01_1, lc_lt0, lc_gt0, lc_eq0, wl_wr, wr_wr, wl_id, true_and, and_true, true_or, or_true, not_true_eq_false, not_false_eq_true, nc0, nc1, nc2, nc3, nc4, nc5, nc6, nc7, nc8, nc9, nc10, nc11, nc12, nc13, nc14, nc15, nc16, nc17, nc18, nc19, nc20, nc21, nc22, nc23, nc35, nc47, nc59, nc60, nc61, nc73, nc74, nc214, nc215, nc1115, nc2230, nc3345, if_true, if_false, Int.reduceToNat]
  · intro x hx ih h0 h1 h jw tc tt
    have hw := jw.2.1
    have wv := jw.2
    obtain ⟨h1', e1, t1, u1, f1⟩ := c_count_1 (d := d) (w := w) g (x := x) ⟨hx, h1⟩ (S 2 - 1) (by omega) (by omega) h jw tc tt
    obtain ⟨h2, e2, t2, u2, f2⟩ := ih (by omega) (by omega) h1' (jw.fr f1 (fun a k q => by omega)) (fun y s y0 y1 s0 s1 => (t1 y s y0 y1 s0 s1).cg (fun m _ _ => by
        by_cases c3 : x ≤ y
        · rw [if_pos (by omega), if_pos (by omega)]
        · rw [if_neg (by omega), if_neg (by omega)])) (fun m m0 m1 => by
        rw [u1 m m0 m1]
        by_cases c1 : 1 ≤ m
        · simp only [c1, if_true]
          rw [show x - 1 + 1 = x by omega, sm_step (i := x) h1, sm_stop (i := S 2 - 1 + 1) (by omega), show (-1 : Int) + 1 = 0 by omega]
          omega
        · simp only [c1, if_false])
    refine ⟨h2, ?_, t2, u2, f1.tr f2⟩
    rw [Joinings_countFor_43]
    simp (disch := omega) only [Joinings_countFor_47, wr_id, ix_id, okx, if_pos, if_neg, Int.toNat_of_nonneg, bak_v, bak_n, wr_b01, wr_bt, b01_or, b01_0, b01_1, lc_lt0, lc_gt0, lc_eq0, wl_wr, wr_wr, wl_id, true_and, and_true, true_or, or_true, not_true_eq_false, not_false_eq_true, nc0, nc1, nc2, nc3, nc4, nc5, nc6, nc7, nc8, nc9, nc10, nc11, nc12, nc13, nc14, nc15, nc16, nc17, nc18, nc19, nc20, nc21, nc22, nc23, nc35, nc47, nc59, nc60, nc61, nc73, nc74, nc214, nc215, nc1115, nc2230, nc3345, if_true, if_false, Int.reduceToNat, hw.k, hw.r0, hw.r1, hw.r2, hw.r3, hw.r4, hw.k1, hw.k2, hw.k3, hw.k4, hw.k5, hw.n1, hw.n2, hw.n3, hw.n4, hw.n5, wv.f5, wv.f6, wv.f7, wv.f8, wv.f9, wv.f10, wv.f11, wv.f12, wv.f13, wv.f14, wv.pk, wv.qk, wv.hk, wv.rk, e1]
    rw [Joinings_countFor_79, show x + -1 = x - 1 by omega]
    exact e2
theorem tot_eq {S : Int → Int} (g : Gd S) {m : Int} (hm : 1 ≤ m) : sm (fun y => sm (fun s => Mc S (m - 1) y s) 0 (S 2)) 0 (S 1) = Cpl S m (-1) (-1) := by
  unfold Cpl
  rw [show m.toNat = (m - 1).toNat + 1 by omega]
  refine sm_congr _ (fun y y1 y2 => sm_congr _ (fun s s1 s2 => ?_))
  have e : Fpl S (-1) (-1) y s = decide (bt (S 10) s = 0) := by simp [Fpl]
  rw [e]
  unfold Mc
  by_cases c : bt (S 10) s = 0 <;> simp [c, Cpl]
theorem c_count_3 {d w : Nat} {S : Int → Int} (g : Gd S) : ∀ n, 1 ≤ n → n ≤ 13 → ∀ h, CR h w → (∀ m, 0 ≤ m → m ≤ 12 → hI h 62 m.toNat = Cpl S m (-1) (-1)) → hI h 60 2 = fl (fun n => decide (¬ Cpl S n (-1) (-1) = 0)) n → ∃ h', EX (d) m_Joinings_countFor 92 [(0, .inr (.inr (60))), (2, .inl (n))] [] (h) = some (.inl 0, h') ∧ hI h' 60 2 = fullN S ∧ Fr (fun a k => a = 60 ∧ k = 2) h h' := by
  have ga := g.a
  have gb := g.b
  refine up_ind (hi := 13) ?_ ?_
  · intro n hn h0 h1 h hc vt vm
    refine ⟨h, ?_, by rw [vm, show n = 13 by omega]; rfl, Fr.rf⟩
    rw [Joinings_countFor_92]
    simp (disch := omega) only [Joinings_countFor_118, wr_id, ix_id, okx, if_pos, if_neg, Int.toNat_of_nonneg, bak_v, bak_n, wr_b01, wr_bt, b01_or, b01_0, b01_1, lc_lt0, lc_gt0, lc_eq0, wl_wr, wr_wr, wl_id, true_and, and_true, true_or, or_true, not_true_eq_false, not_false_eq_true, nc0, nc1, nc2, nc3, nc4, nc5, nc6, nc7, nc8, nc9, nc10, nc11, nc12, nc13, nc14, nc15, nc16, nc17, nc18, nc19, nc20, nc21, nc22, nc23, nc35, nc47, nc59, nc60, nc61, nc73, nc74, nc214, nc215, nc1115, nc2230, nc3345, if_true, if_false, Int.reduceToNat]
  · intro n hn ih h0 h1 h hc vt vm
    have e1 := vt n (by omega) (by omega)
    have rg := Cpl_rng g n (x := -1) (r := -1) (by omega) (by omega)
    by_cases c : 0 < Cpl S n (-1) (-1)
    · have f0 : Fr (fun a k => a = 60 ∧ k = 2) h (pI h 60 2 n) := Fr.pI Fr.rf ⟨rfl, rfl⟩
      obtain ⟨h2, e2, k2, f2⟩ := ih (by omega) (by omega) (pI h 60 2 n) (hc.fr f0) (fun m m0 m1 => by rw [f0.I (by omega)]; exact vt m m0 m1) (by
        rw [hI_pI, if_pos ⟨rfl, rfl⟩, fl_step (by omega), show n + 1 - 1 = n by omega]
        have : ¬ Cpl S n (-1) (-1) = 0 := by omega
        simp [this])
      refine ⟨h2, ?_, k2, f0.tr f2⟩
      rw [Joinings_countFor_92]
      simp (disch := omega) only [Joinings_countFor_98, Joinings_countFor_107, Joinings_countFor_112, wr_id, ix_id, okx, if_pos, if_neg, Int.toNat_of_nonneg, bak_v, bak_n, wr_b01, wr_bt, b01_or, b01_0, b01_1, lc_lt0, lc_gt0, lc_eq0, wl_wr, wr_wr, wl_id, true_and, and_true, true_or, or_true, not_true_eq_false, not_false_eq_true, nc0, nc1, nc2, nc3, nc4, nc5, nc6, nc7, nc8, nc9, nc10, nc11, nc12, nc13, nc14, nc15, nc16, nc17, nc18, nc19, nc20, nc21, nc22, nc23, nc35, nc47, nc59, nc60, nc61, nc73, nc74, nc214, nc215, nc1115, nc2230, nc3345, if_true, if_false, Int.reduceToNat, hc.k6, hc.r5, hc.r6, hc.r0, hc.r2, hc.r7, hc.r8, hc.r9, hc.r10, hc.r11, hc.r12, hc.r13, hc.r14, hc.r15, hc.r16, hc.r17, hc.r18, hc.r8_0, hc.r8_1, hc.r11_0, hc.r11_1, hc.r60_0, hc.r60_1, hc.r60_4, hc.r64_0, hc.r64_3, hc.r64_4, hc.r68_0, hc.r41_0, hc.r41_1, hc.r42_0, hc.r42_1, hc.k7, hc.k8, hc.k9, hc.k11, hc.k12, hc.k13, hc.k32, hc.k41, hc.k42, hc.k43, hc.k60, hc.k61, hc.k62, hc.k63, hc.k64, hc.k65, hc.k66, hc.k67, hc.k68, hc.k69, hc.k70, hc.k71, hc.n6, hc.n7, hc.n8, hc.n9, hc.n11, hc.n12, hc.n13, hc.n32, hc.n41, hc.n42, hc.n43, hc.n60, hc.n61, hc.n62, hc.n63, hc.n64, hc.n65, hc.n66, hc.n67, hc.n68, hc.n69, hc.n70, hc.n71, e1, e2]
    · obtain ⟨h2, e2, k2, f2⟩ := ih (by omega) (by omega) h hc vt (by
        rw [vm, fl_step (i := n + 1) (by omega), show n + 1 - 1 = n by omega]
        have : Cpl S n (-1) (-1) = 0 := by omega
        simp [this])
      refine ⟨h2, ?_, k2, f2⟩
      rw [Joinings_countFor_92]
      simp (disch := omega) only [Joinings_countFor_98, Joinings_countFor_112, wr_id, ix_id, okx, if_pos, if_neg, Int.toNat_of_nonneg, bak_v, bak_n, wr_b01, wr_bt, b01_or, b01_0, b01_1, lc_lt0, lc_gt0, lc_eq0, wl_wr, wr_wr, wl_id, true_and, and_true, true_or, or_true, not_true_eq_false, not_false_eq_true, nc0, nc1, nc2, nc3, nc4, nc5, nc6, nc7, nc8, nc9, nc10, nc11, nc12, nc13, nc14, nc15, nc16, nc17, nc18, nc19, nc20, nc21, nc22, nc23, nc35, nc47, nc59, nc60, nc61, nc73, nc74, nc214, nc215, nc1115, nc2230, nc3345, if_true, if_false, Int.reduceToNat, hc.k6, hc.r5, hc.r6, hc.r0, hc.r2, hc.r7, hc.r8, hc.r9, hc.r10, hc.r11, hc.r12, hc.r13, hc.r14, hc.r15, hc.r16, hc.r17, hc.r18, hc.r8_0, hc.r8_1, hc.r11_0, hc.r11_1, hc.r60_0, hc.r60_1, hc.r60_4, hc.r64_0, hc.r64_3, hc.r64_4, hc.r68_0, hc.r41_0, hc.r41_1, hc.r42_0, hc.r42_1, hc.k7, hc.k8, hc.k9, hc.k11, hc.k12, hc.k13, hc.k32, hc.k41, hc.k42, hc.k43, hc.k60, hc.k61, hc.k62, hc.k63, hc.k64, hc.k65, hc.k66, hc.k67, hc.k68, hc.k69, hc.k70, hc.k71, hc.n6, hc.n7, hc.n8, hc.n9, hc.n11, hc.n12, hc.n13, hc.n32, hc.n41, hc.n42, hc.n43, hc.n60, hc.n61, hc.n62, hc.n63, hc.n64, hc.n65, hc.n66, hc.n67, hc.n68, hc.n69, hc.n70, hc.n71, e1, e2]
/-- the counts are right -/
def JN (h : Hp) (S : Int → Int) : Prop := (∀ y s, 0 ≤ y → y < S 1 → 0 ≤ s → s < S 2 → rowC h y s (fun m => Mc S m y s)) ∧ (∀ m, 0 ≤ m → m ≤ 12 → hI h 62 m.toNat = Cpl S m (-1) (-1)) ∧ hI h 60 2 = fullN S
def pJ (a k : Nat) : Prop := a = 61 ∨ a = 62 ∨ (a = 60 ∧ (k = 2 ∨ k = 3))
theorem Fr.flI {p : Nat → Nat → Prop} {h h' : Hp} (f : Fr p h h') {a n : Nat} {v : Int} (ha : ∀ k, k < n → p a k) : Fr p h (flI h' a v n) := f.tr ⟨rfl, fun b j hb => by rw [hI_flI, if_neg (fun c : b = a ∧ j < n => hb (by rw [c.1]; exact ha j c.2))], fun _ _ _ => rfl, fun _ _ => rfl⟩
theorem c_countFor {d w : Nat} {h : Hp} {S : Int → Int} (g : Gd S) (jw : JW h w S) (hj : hI h 60 3 = 0 ∨ (hI h 60 3 = 1 ∧ JN h S)) : ∃ h', cal (d+3) m_Joinings_countFor [.inr (.inr (60)), .inr (.inr (w))] (h) = some (.inl 0, h') ∧ hI h' 60 3 = 1 ∧ JN h' S ∧ Fr pJ h h' := by
  have ga := g.a
  have gb := g.b
  have hc := jw.1
  have hw := jw.2.1
  have wv := jw.2
  rcases hj with c | ⟨c, jn⟩
  · have f1 : Fr pJ h (pI (flI (flI (pI h 60 3 1) 61 0 1728) 62 0 13) 62 0 1) := Fr.pI (Fr.flI (Fr.flI (Fr.pI Fr.rf (by unfold pJ; omega)) (fun k _ => by unfold pJ; omega)) (fun k _ => by unfold pJ; omega)) (by unfold pJ; omega)
    have jw1 := jw.fr f1 (fun a k q => by unfold pJ at q; omega)
    have hw1 := jw1.2.1
    have wv1 := jw1.2
    obtain ⟨h2, e2, t2, u2, f2⟩ := c_count_2 (d := d) (w := w) g (S 1 - 1) (by omega) (by omega) _ jw1 (fun y s y0 y1 s0 s1 m m0 m1 => by
      dsimp only
      rw [if_neg (by omega), hI_pI, if_neg (by omega), hI_flI, if_neg (by omega), hI_flI, if_pos (by omega)]) (fun m m0 m1 => by
      by_cases c1 : 1 ≤ m
      · rw [if_pos c1, sm_stop (i := S 1 - 1 + 1) (by omega), sm_stop (i := S 2 - 1 + 1) (by omega), hI_pI, if_neg (by omega), hI_flI, if_pos (by omega)]
        rfl
      · rw [if_neg c1, hI_pI, if_pos ⟨rfl, by omega⟩])
    have f3 : Fr pJ h (pI h2 60 2 0) := (f1.tr (f2.mo (fun a k q => by unfold pJ; omega))).pI (by unfold pJ; omega)
    have vt : ∀ m, 0 ≤ m → m ≤ 12 → hI (pI h2 60 2 0) 62 m.toNat = Cpl S m (-1) (-1) := fun m m0 m1 => by
      rw [hI_pI, if_neg (by omega), u2 m m0 m1]
      by_cases c1 : 1 ≤ m
      · rw [if_pos c1, sm_stop (i := S 2 - 1 + 1) (by omega), show (-1 : Int) + 1 = 0 by omega, tot_eq g c1, Int.add_zero]
      · rw [if_neg c1, show m = 0 by omega]
        rfl
    obtain ⟨h4, e4, k4, f4⟩ := c_count_3 (d := d + 2) (w := w) g 1 (by omega) (by omega) (pI h2 60 2 0) (hc.fr f3) vt (by
      rw [hI_pI, if_pos ⟨rfl, rfl⟩, fl_step (by omega)]
      simp [Cpl, cnt, Bpl])
    refine ⟨h4, ?_, ?_, ⟨fun y s y0 y1 s0 s1 m m0 m1 => ?_, fun m m0 m1 => ?_, k4⟩, f3.tr (f4.mo (fun a k q => by unfold pJ; omega))⟩
    · show EX (d+2) m_Joinings_countFor 0 [(0, .inr (.inr (60))), (1, .inr (.inr (w)))] [] (h) = _
      have hk2 : sK h2 60 = 2 := (hc.fr (f1.tr (f2.mo (fun a k q => by unfold pJ; omega)))).k60
      have eA := fill_s (d + 1) 61 0 (pI h 60 3 1) hc.k61 (by rw [show sN (pI h 60 3 1) 61 = 1728 from hc.n61]; omega)
      have eB := fill_s (d + 1) 62 0 (flI (pI h 60 3 1) 61 0 1728) hc.k62 (by rw [show sN (flI (pI h 60 3 1) 61 0 1728) 62 = 13 from hc.n62]; omega)
      rw [show sN (pI h 60 3 1) 61 = 1728 from hc.n61] at eA
      rw [show sN (flI (pI h 60 3 1) 61 0 1728) 62 = 13 from hc.n62] at eB
      have w5 : hI (pI (flI (flI (pI h 60 3 1) 61 0 1728) 62 0 13) 62 0 1) w 5 = S 1 := wv1.f5
      simp (disch := omega) only [Joinings_countFor_0, Joinings_countFor_8, Joinings_countFor_13, Joinings_countFor_21, Joinings_countFor_29, wr_id, ix_id, okx, if_pos, if_neg, Int.toNat_of_nonneg, bak_v, bak_n, wr_b01, wr_bt, b01_or, b01_0, b01_1, lc_lt0, lc_gt0, lc_eq0, wl_wr, wr_wr, wl_id, true_and, and_true, true_or, or_true, not_true_eq_false, not_false_eq_true, nc0, nc1, nc2, nc3, nc4, nc5, nc6, nc7, nc8, nc9, nc10, nc11, nc12, nc13, nc14, nc15, nc16, nc17, nc18, nc19, nc20, nc21, nc22, nc23, nc35, nc47, nc59, nc60, nc61, nc73, nc74, nc214, nc215, nc1115, nc2230, nc3345, if_true, if_false, Int.reduceToNat, hc.k6, hc.r5, hc.r6, hc.r0, hc.r2, hc.r7, hc.r8, hc.r9, hc.r10, hc.r11, hc.r12, hc.r13, hc.r14, hc.r15, hc.r16, hc.r17, hc.r18, hc.r8_0, hc.r8_1, hc.r11_0, hc.r11_1, hc.r60_0, hc.r60_1, hc.r60_4, hc.r64_0, hc.r64_3, hc.r64_4, hc.r68_0, hc.r41_0, hc.r41_1, hc.r42_0, hc.r42_1, hc.k7, hc.k8, hc.k9, hc.k11, hc.k12, hc.k13, hc.k32, hc.k41, hc.k42, hc.k43, hc.k60, hc.k61, hc.k62, hc.k63, hc.k64, hc.k65, hc.k66, hc.k67, hc.k68, hc.k69, hc.k70, hc.k71, hc.n6, hc.n7, hc.n8, hc.n9, hc.n11, hc.n12, hc.n13, hc.n32, hc.n41, hc.n42, hc.n43, hc.n60, hc.n61, hc.n62, hc.n63, hc.n64, hc.n65, hc.n66, hc.n67, hc.n68, hc.n69, hc.n70, hc.n71, c, sK_pI, hR_pI, sK_flI, sN_flI, hR_flI, sN_pI, eA, eB]
      rw [Joinings_countFor_36, if_pos hw1.k, w5]
      refine e2.trans ?_
      rw [Joinings_countFor_85, if_pos hk2, Joinings_countFor_90]
      exact e4
    · rw [f4.I (by omega), hI_pI, if_neg (by omega), f2.I (by omega)]
      simp [hI_pI, hI_flI]
    · rw [f4.I (by omega), hI_pI, if_neg (by omega), t2 y s y0 y1 s0 s1 m m0 m1]
      dsimp only
      rw [if_pos (by omega)]
    · rw [f4.I (by omega)]; exact vt m m0 m1
  · refine ⟨h, ?_, c, jn, Fr.rf⟩
    show EX (d+2) m_Joinings_countFor 0 [(0, .inr (.inr (60))), (1, .inr (.inr (w)))] [] (h) = _
    simp (disch := omega) only [Joinings_countFor_0, Joinings_countFor_7, wr_id, ix_id, okx, if_pos, if_neg, Int.toNat_of_nonneg, bak_v, bak_n, wr_b01, wr_bt, b01_or, b01_0, b01_1, lc_lt0, lc_gt0, lc_eq0, wl_wr, wr_wr, wl_id, true_and, and_true, true_or, or_true, not_true_eq_false, not_false_eq_true, nc0, nc1, nc2, nc3, nc4, nc5, nc6, nc7, nc8, nc9, nc10, nc11, nc12, nc13, nc14, nc15, nc16, nc17, nc18, nc19, nc20, nc21, nc22, nc23, nc35, nc47, nc59, nc60, nc61, nc73, nc74, nc214, nc215, nc1115, nc2230, nc3345, if_true, if_false, Int.reduceToNat, hc.k6, hc.r5, hc.r6, hc.r0, hc.r2, hc.r7, hc.r8, hc.r9, hc.r10, hc.r11, hc.r12, hc.r13, hc.r14, hc.r15, hc.r16, hc.r17, hc.r18, hc.r8_0, hc.r8_1, hc.r11_0, hc.r11_1, hc.r60_0, hc.r60_1, hc.r60_4, hc.r64_0, hc.r64_3, hc.r64_4, hc.r68_0, hc.r41_0, hc.r41_1, hc.r42_0, hc.r42_1, hc.k7, hc.k8, hc.k9, hc.k11, hc.k12, hc.k13, hc.k32, hc.k41, hc.k42, hc.k43, hc.k60, hc.k61, hc.k62, hc.k63, hc.k64, hc.k65, hc.k66, hc.k67, hc.k68, hc.k69, hc.k70, hc.k71, hc.n6, hc.n7, hc.n8, hc.n9, hc.n11, hc.n12, hc.n13, hc.n32, hc.n41, hc.n42, hc.n43, hc.n60, hc.n61, hc.n62, hc.n63, hc.n64, hc.n65, hc.n66, hc.n67, hc.n68, hc.n69, hc.n70, hc.n71, c]
