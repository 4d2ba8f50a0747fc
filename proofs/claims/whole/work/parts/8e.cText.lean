/-! the class: a line, a text -/
theorem c_readLine {d w u : Nat} {h : Hp} {T : Int → Int} {n a : Int} {S : Int → Int} {l : List Int} (hu : u = 14 ∨ u = 20) (m : CP h w T n a l) (lw : lwL S l) (p : PG S) (wn : WN h u S) : ∃ h', cal (d+94) m_Reader_readLine [.inr (.inr (8)), .inr (.inr (u)), .inr (.inr (28))] (h) = some (.inl 0, h') ∧ crW h' w u T n (lnP T n a S) ∧ Fr (pRd u) h h' := by
  have g := p.1
  have lo := p.2.1
  have hl := lw.len lo
  have hc := m.1.1
  have rg := m.rng
  have ga := g.a
  have gb := g.b
  obtain ⟨k3, kr⟩ := m.k
  have ko := tkK_ok T n a
  obtain ⟨my, mn⟩ := c_may (d := d + 92) wn.1 g ko
  have lt : ∀ a k, pLw a k → a < 14 := fun a k z => z.lt
  have toR : ∀ {h h' : Hp}, Fr pLw h h' → Fr (pRd u) h h' := fun f => f.mo (fun a k z => z.rd)
  show ∃ h', EX (d+93) m_Reader_readLine 0 [(0, .inr (.inr (8))), (1, .inr (.inr (u))), (2, .inr (.inr (28)))] [] (h) = some (.inl 0, h') ∧ _
  by_cases cm : mayB S (tkK T n a)
  · have my := my cm
    obtain ⟨h1, e1, m1, f1'⟩ := c_stepP (d := d + 90) m
    have f1 : Fr pLw h h1 := f1'.mo (fun a k z => z.lw)
    have hc1 := m1.1.1
    have wn1 := wn.fr f1 hu lt
    have hw1 := wn1.1.1
    have nr := nx_rng (T := T) (n := n) (a := a) rg.2.1
    have st : EX (d+93) m_Reader_readLine 0 [(0, .inr (.inr (8))), (1, .inr (.inr (u))), (2, .inr (.inr (28)))] [] (h) = EX (d+93) m_Reader_readLine 31 [(0, .inr (.inr (8))), (1, .inr (.inr (u))), (2, .inr (.inr (28))), (3, .inl (kc (tkK T n a)))] [] (h1) := by
      simp (disch := omega) only [Reader_readLine_0, Reader_readLine_13, Reader_readLine_24, wr_id, ix_id, okx, if_pos, if_neg, Int.toNat_of_nonneg, bak_v, bak_n, wr_b01, wr_bt, b01_or, b01_0, b01_1, lc_lt0, lc_gt0, lc_eq0, wl_wr, wr_wr, wl_id, true_and, and_true, true_or, or_true, not_true_eq_false, not_false_eq_true, nc0, nc1, nc2, nc3, nc4, nc5, nc6, nc7, nc8, nc9, nc10, nc11, nc12, nc13, nc14, nc15, nc16, nc17, nc18, nc19, nc20, nc21, nc22, nc23, nc35, nc47, nc59, nc60, nc61, nc73, nc74, nc214, nc215, nc1115, nc2230, nc3345, if_true, if_false, Int.reduceToNat, hc.k8, hc.r8_0, hc.k9, k3, my, e1]
    rw [st]
    unfold lnP
    by_cases c0 : tkK T n a = 0
    · have cz : S 2 = 0 := by unfold mayB at cm; omega
      rw [if_pos ⟨c0, cz⟩, c0, show kc 0 = 128 by decide]
      obtain ⟨h2, v, e2, r2, f2⟩ := c_row (d := d + 88) (o := 23) (S := S) (A := u + 2) (by omega) m1 hl ⟨hw1.k2, hw1.n2⟩ wn1.2.2.2
      have hw2 := hw1.fr f2
      have ee : EX (d+93) m_Reader_readLine 31 [(0, .inr (.inr (8))), (1, .inr (.inr (u))), (2, .inr (.inr (28))), (3, .inl (128))] [] (h1) = some (.inl 0, pI h2 u 6 v) := by
        simp (disch := omega) only [Reader_readLine_31, Reader_readLine_88, wr_id, ix_id, okx, if_pos, if_neg, Int.toNat_of_nonneg, bak_v, bak_n, wr_b01, wr_bt, b01_or, b01_0, b01_1, lc_lt0, lc_gt0, lc_eq0, wl_wr, wr_wr, wl_id, true_and, and_true, true_or, or_true, not_true_eq_false, not_false_eq_true, nc0, nc1, nc2, nc3, nc4, nc5, nc6, nc7, nc8, nc9, nc10, nc11, nc12, nc13, nc14, nc15, nc16, nc17, nc18, nc19, nc20, nc21, nc22, nc23, nc35, nc47, nc59, nc60, nc61, nc73, nc74, nc214, nc215, nc1115, nc2230, nc3345, if_true, if_false, Int.reduceToNat, hc1.k8, hw1.k, hw1.r1, e2]
        simp (disch := omega) only [Reader_readLine_97, Reader_readLine_100, Reader_readLine_214, wr_id, ix_id, okx, if_pos, if_neg, Int.toNat_of_nonneg, bak_v, bak_n, wr_b01, wr_bt, b01_or, b01_0, b01_1, lc_lt0, lc_gt0, lc_eq0, wl_wr, wr_wr, wl_id, true_and, and_true, true_or, or_true, not_true_eq_false, not_false_eq_true, nc0, nc1, nc2, nc3, nc4, nc5, nc6, nc7, nc8, nc9, nc10, nc11, nc12, nc13, nc14, nc15, nc16, nc17, nc18, nc19, nc20, nc21, nc22, nc23, nc35, nc47, nc59, nc60, nc61, nc73, nc74, nc214, nc215, nc1115, nc2230, nc3345, if_true, if_false, Int.reduceToNat, hw2.k]
      have fR : Fr (pRd u) h (pI h2 u 6 v) := Fr.pI ((toR f1).tr (f2.mo (fun a k z => by unfold pRd; rcases z with z | z; exact Or.inl z; omega))) (by unfold pRd; omega)
      refine ⟨_, ee, ?_, fR⟩
      unfold rlP
      cases hq : rwP T n 23 13 0 (nx T n a) S with
      | inl e =>
        rw [hq] at r2
        exact (show CF h2 w T n e from r2).fu (Fr.pI (p := fun a _ => a = u) Fr.rf rfl) (fun a k z => by omega)
      | inr q =>
        rw [hq] at r2
        obtain ⟨rv, rm, ra⟩ := r2
        obtain ⟨i1, i2, i3, i4, i5, i6⟩ := rw_ok 13 0 (nx T n a) S nr.2.1 (by omega) (by omega) q hq
        subst rv
        refine ⟨l, rm.fu (Fr.pI (p := fun a _ => a = u) Fr.rf rfl) (fun a k z => by omega), lw.cg (fun k hk => ?_), wn1.rail g hu f2 (fun z hz => i5 z (by omega)) (by omega) ra⟩
        show up q.2.2 2 (1 + q.2.1) k = S k
        rw [up_ne (by omega)]; exact i5 k (by omega)
    rw [if_neg (fun z => c0 z.1)]
    by_cases c1 : tkK T n a = 1
    · have cz : S 1 = 0 := by unfold mayB at cm; omega
      rw [if_pos ⟨c1, cz⟩, c1, show kc 1 = 129 by decide]
      obtain ⟨h2, v, e2, r2, f2⟩ := c_row (d := d + 88) (o := 11) (S := S) (A := u + 1) (by omega) m1 hl ⟨hw1.k1, hw1.n1⟩ wn1.2.2.1
      have hw2 := hw1.fr f2
      have ee : EX (d+93) m_Reader_readLine 31 [(0, .inr (.inr (8))), (1, .inr (.inr (u))), (2, .inr (.inr (28))), (3, .inl (129))] [] (h1) = some (.inl 0, pI h2 u 5 v) := by
        simp (disch := omega) only [Reader_readLine_31, Reader_readLine_103, wr_id, ix_id, okx, if_pos, if_neg, Int.toNat_of_nonneg, bak_v, bak_n, wr_b01, wr_bt, b01_or, b01_0, b01_1, lc_lt0, lc_gt0, lc_eq0, wl_wr, wr_wr, wl_id, true_and, and_true, true_or, or_true, not_true_eq_false, not_false_eq_true, nc0, nc1, nc2, nc3, nc4, nc5, nc6, nc7, nc8, nc9, nc10, nc11, nc12, nc13, nc14, nc15, nc16, nc17, nc18, nc19, nc20, nc21, nc22, nc23, nc35, nc47, nc59, nc60, nc61, nc73, nc74, nc214, nc215, nc1115, nc2230, nc3345, if_true, if_false, Int.reduceToNat, hc1.k8, hw1.k, hw1.r0, e2]
        simp (disch := omega) only [Reader_readLine_112, Reader_readLine_115, Reader_readLine_214, wr_id, ix_id, okx, if_pos, if_neg, Int.toNat_of_nonneg, bak_v, bak_n, wr_b01, wr_bt, b01_or, b01_0, b01_1, lc_lt0, lc_gt0, lc_eq0, wl_wr, wr_wr, wl_id, true_and, and_true, true_or, or_true, not_true_eq_false, not_false_eq_true, nc0, nc1, nc2, nc3, nc4, nc5, nc6, nc7, nc8, nc9, nc10, nc11, nc12, nc13, nc14, nc15, nc16, nc17, nc18, nc19, nc20, nc21, nc22, nc23, nc35, nc47, nc59, nc60, nc61, nc73, nc74, nc214, nc215, nc1115, nc2230, nc3345, if_true, if_false, Int.reduceToNat, hw2.k]
      have fR : Fr (pRd u) h (pI h2 u 5 v) := Fr.pI ((toR f1).tr (f2.mo (fun a k z => by unfold pRd; rcases z with z | z; exact Or.inl z; omega))) (by unfold pRd; omega)
      refine ⟨_, ee, ?_, fR⟩
      unfold rlP
      cases hq : rwP T n 11 13 0 (nx T n a) S with
      | inl e =>
        rw [hq] at r2
        exact (show CF h2 w T n e from r2).fu (Fr.pI (p := fun a _ => a = u) Fr.rf rfl) (fun a k z => by omega)
      | inr q =>
        rw [hq] at r2
        obtain ⟨rv, rm, ra⟩ := r2
        obtain ⟨i1, i2, i3, i4, i5, i6⟩ := rw_ok 13 0 (nx T n a) S nr.2.1 (by omega) (by omega) q hq
        subst rv
        refine ⟨l, rm.fu (Fr.pI (p := fun a _ => a = u) Fr.rf rfl) (fun a k z => by omega), lw.cg (fun k hk => ?_), wn1.cloth g hu f2 (fun z hz => i5 z (by omega)) (by omega) ra⟩
        show up q.2.2 1 (1 + q.2.1) k = S k
        rw [up_ne (by omega)]; exact i5 k (by omega)
    rw [if_neg (fun z => c1 z.1)]
    by_cases c6 : tkK T n a = 6
    · rw [if_pos c6, c6, show kc 6 = 133 by decide]
      unfold lwP
      by_cases c26 : tkK T n (nx T n a) = 26
      · rw [if_pos c26]
        obtain ⟨h2, e2, m2, f2⟩ := c_pass (d := d + 89) m1 (k := 26) (c := 58) (by unfold kdO; omega) rfl c26
        have hc2 := m2.1.1
        obtain ⟨h3, e3, r3, f3⟩ := c_truth (d := d) m2
        refine ⟨h3, ?_, ?_, toR ((f1.tr f2).tr f3)⟩
        · simp (disch := omega) only [Reader_readLine_31, Reader_readLine_185, wr_id, ix_id, okx, if_pos, if_neg, Int.toNat_of_nonneg, bak_v, bak_n, wr_b01, wr_bt, b01_or, b01_0, b01_1, lc_lt0, lc_gt0, lc_eq0, wl_wr, wr_wr, wl_id, true_and, and_true, true_or, or_true, not_true_eq_false, not_false_eq_true, nc0, nc1, nc2, nc3, nc4, nc5, nc6, nc7, nc8, nc9, nc10, nc11, nc12, nc13, nc14, nc15, nc16, nc17, nc18, nc19, nc20, nc21, nc22, nc23, nc35, nc47, nc59, nc60, nc61, nc73, nc74, nc214, nc215, nc1115, nc2230, nc3345, if_true, if_false, Int.reduceToNat, hc1.k8, hc1.r8_0, hc1.k9, e2]
          simp (disch := omega) only [Reader_readLine_194, Reader_readLine_205, Reader_readLine_214, wr_id, ix_id, okx, if_pos, if_neg, Int.toNat_of_nonneg, bak_v, bak_n, wr_b01, wr_bt, b01_or, b01_0, b01_1, lc_lt0, lc_gt0, lc_eq0, wl_wr, wr_wr, wl_id, true_and, and_true, true_or, or_true, not_true_eq_false, not_false_eq_true, nc0, nc1, nc2, nc3, nc4, nc5, nc6, nc7, nc8, nc9, nc10, nc11, nc12, nc13, nc14, nc15, nc16, nc17, nc18, nc19, nc20, nc21, nc22, nc23, nc35, nc47, nc59, nc60, nc61, nc73, nc74, nc214, nc215, nc1115, nc2230, nc3345, if_true, if_false, Int.reduceToNat, hc2.k8, hc2.r8_0, hc2.r8_1, hc2.k11, hc2.k9, e3]
        · cases hq : prt T n 43 0 0 (nx T n (nx T n a)) with
          | inl e => rw [hq] at r3; exact r3
          | inr q =>
            rw [hq] at r3
            have r3' : CP h3 w T n q.1 ([] ++ q.2) := r3
            rw [List.nil_append] at r3'
            have u0 : up S 214 0 214 = 0 := up_same _ _ _
            have wn3 := ((wn1.fr f2 hu lt).fr f3 hu lt)
            refine ⟨q.2, r3', ⟨fun z => ?_, fun _ => ⟨?_, fun i hi => ?_⟩⟩, wn3.cg g hu (fun k k0 k1 k9 => ?_)⟩
            · have z' : up (appC (up S 214 0) q.2) 9 1 9 = 0 := z
              rw [up_same] at z'
              cases z'
            · show _ = up (appC (up S 214 0) q.2) 9 1 214
              rw [up_ne (by omega), appC_214, u0]; omega
            · show _ = up (appC (up S 214 0) q.2) 9 1 (215 + i)
              rw [up_ne (by omega)]
              have := appC_at q.2 (up S 214 0) (by rw [u0]; omega) i hi
              rw [u0, show (215 + (0 : Int) + (i : Int)) = 215 + i by omega] at this
              exact this.symm
            · show up (appC (up S 214 0) q.2) 9 1 k = S k
              rw [up_ne k9, appC_o q.2 _ (by rw [u0]; omega) k (by omega) (by rw [u0]; omega), up_ne (by omega)]
      · rw [if_neg c26]
        obtain ⟨h2, e2, m2, f2⟩ := c_passN (d := d + 89) m1 hl (k := 26) (c := 58) (by unfold kdO; omega) rfl c26
        have hc2 := m2.1.1
        obtain ⟨h3, e3, m3, f3⟩ := c_truthF (d := d) m2
        refine ⟨h3, ?_, m3, toR ((f1.tr f2).tr f3)⟩
        simp (disch := omega) only [Reader_readLine_31, Reader_readLine_185, wr_id, ix_id, okx, if_pos, if_neg, Int.toNat_of_nonneg, bak_v, bak_n, wr_b01, wr_bt, b01_or, b01_0, b01_1, lc_lt0, lc_gt0, lc_eq0, wl_wr, wr_wr, wl_id, true_and, and_true, true_or, or_true, not_true_eq_false, not_false_eq_true, nc0, nc1, nc2, nc3, nc4, nc5, nc6, nc7, nc8, nc9, nc10, nc11, nc12, nc13, nc14, nc15, nc16, nc17, nc18, nc19, nc20, nc21, nc22, nc23, nc35, nc47, nc59, nc60, nc61, nc73, nc74, nc214, nc215, nc1115, nc2230, nc3345, if_true, if_false, Int.reduceToNat, hc1.k8, hc1.r8_0, hc1.k9, e2]
        simp (disch := omega) only [Reader_readLine_194, Reader_readLine_205, Reader_readLine_214, wr_id, ix_id, okx, if_pos, if_neg, Int.toNat_of_nonneg, bak_v, bak_n, wr_b01, wr_bt, b01_or, b01_0, b01_1, lc_lt0, lc_gt0, lc_eq0, wl_wr, wr_wr, wl_id, true_and, and_true, true_or, or_true, not_true_eq_false, not_false_eq_true, nc0, nc1, nc2, nc3, nc4, nc5, nc6, nc7, nc8, nc9, nc10, nc11, nc12, nc13, nc14, nc15, nc16, nc17, nc18, nc19, nc20, nc21, nc22, nc23, nc35, nc47, nc59, nc60, nc61, nc73, nc74, nc214, nc215, nc1115, nc2230, nc3345, if_true, if_false, Int.reduceToNat, hc2.k8, hc2.r8_0, hc2.r8_1, hc2.k11, hc2.k9, e3]
    rw [if_neg c6]
    have sett : ∀ k, tkK T n a = k → (k = 7 ∨ k = 8 ∨ k = 9) → ∃ h', EX (d+93) m_Reader_readLine 31 [(0, .inr (.inr (8))), (1, .inr (.inr (u))), (2, .inr (.inr (28))), (3, .inl (kc k))] [] (h1) = some (.inl 0, h') ∧ crW h' w u T n (if k = 7 then chP T n (nx T n a) S else if k = 8 then plP T n (nx T n a) S else slP T n (nx T n a) S) ∧ Fr (pRd u) h h' := fun k ck hk => by
      obtain ⟨h2, e2, r2, f2⟩ := c_setting (d := d + 88) hu m1 lw lo g wn1 hk
      refine ⟨h2, ?_, r2, (toR f1).tr f2⟩
      rcases hk with e | e | e <;> subst e
      · rw [show kc 7 = 134 by decide] at e2 ⊢; simp (disch := omega) only [Reader_readLine_31, Reader_readLine_208, Reader_readLine_214, wr_id, ix_id, okx, if_pos, if_neg, Int.toNat_of_nonneg, bak_v, bak_n, wr_b01, wr_bt, b01_or, b01_0, b01_1, lc_lt0, lc_gt0, lc_eq0, wl_wr, wr_wr, wl_id, true_and, and_true, true_or, or_true, not_true_eq_false, not_false_eq_true, nc0, nc1, nc2, nc3, nc4, nc5, nc6, nc7, nc8, nc9, nc10, nc11, nc12, nc13, nc14, nc15, nc16, nc17, nc18, nc19, nc20, nc21, nc22, nc23, nc35, nc47, nc59, nc60, nc61, nc73, nc74, nc214, nc215, nc1115, nc2230, nc3345, if_true, if_false, Int.reduceToNat, hc1.k8, e2]
      · rw [show kc 8 = 135 by decide] at e2 ⊢; simp (disch := omega) only [Reader_readLine_31, Reader_readLine_208, Reader_readLine_214, wr_id, ix_id, okx, if_pos, if_neg, Int.toNat_of_nonneg, bak_v, bak_n, wr_b01, wr_bt, b01_or, b01_0, b01_1, lc_lt0, lc_gt0, lc_eq0, wl_wr, wr_wr, wl_id, true_and, and_true, true_or, or_true, not_true_eq_false, not_false_eq_true, nc0, nc1, nc2, nc3, nc4, nc5, nc6, nc7, nc8, nc9, nc10, nc11, nc12, nc13, nc14, nc15, nc16, nc17, nc18, nc19, nc20, nc21, nc22, nc23, nc35, nc47, nc59, nc60, nc61, nc73, nc74, nc214, nc215, nc1115, nc2230, nc3345, if_true, if_false, Int.reduceToNat, hc1.k8, e2]
      · rw [show kc 9 = 136 by decide] at e2 ⊢; simp (disch := omega) only [Reader_readLine_31, Reader_readLine_208, Reader_readLine_214, wr_id, ix_id, okx, if_pos, if_neg, Int.toNat_of_nonneg, bak_v, bak_n, wr_b01, wr_bt, b01_or, b01_0, b01_1, lc_lt0, lc_gt0, lc_eq0, wl_wr, wr_wr, wl_id, true_and, and_true, true_or, or_true, not_true_eq_false, not_false_eq_true, nc0, nc1, nc2, nc3, nc4, nc5, nc6, nc7, nc8, nc9, nc10, nc11, nc12, nc13, nc14, nc15, nc16, nc17, nc18, nc19, nc20, nc21, nc22, nc23, nc35, nc47, nc59, nc60, nc61, nc73, nc74, nc214, nc215, nc1115, nc2230, nc3345, if_true, if_false, Int.reduceToNat, hc1.k8, e2]
    by_cases c7 : tkK T n a = 7
    · have q := sett 7 c7 (by omega)
      rw [if_pos c7, c7]
      rw [if_pos rfl] at q
      exact q
    rw [if_neg c7]
    by_cases c8 : tkK T n a = 8
    · have q := sett 8 c8 (by omega)
      rw [if_pos c8, c8]
      rw [if_neg (by omega), if_pos rfl] at q
      exact q
    rw [if_neg c8]
    by_cases c9 : tkK T n a = 9
    · have q := sett 9 c9 (by omega)
      rw [if_pos c9, c9]
      rw [if_neg (by omega), if_neg (by omega)] at q
      exact q
    rw [if_neg c9]
    have chung : 0 < S 1 ∧ 0 < S 2 := by unfold mayB at cm; omega
    rw [if_neg (fun z => z chung)]
    have w5 := wn1.1.f5
    have w6 := wn1.1.f6
    have w7 := wn1.1.f7
    by_cases c2 : tkK T n a = 2
    · rw [if_pos c2, c2, show kc 2 = 130 by decide]
      obtain ⟨h2, e2, r2, f2⟩ := c_mark (d := d + 88) (A := u + 3) (o := 35) (many := S 1) hu (Or.inl ⟨rfl, rfl⟩) (by omega) m1 lw lo g wn1
      refine ⟨h2, ?_, r2, (toR f1).tr f2⟩
      simp (disch := omega) only [Reader_readLine_31, Reader_readLine_118, Reader_readLine_130, Reader_readLine_214, wr_id, ix_id, okx, if_pos, if_neg, Int.toNat_of_nonneg, bak_v, bak_n, wr_b01, wr_bt, b01_or, b01_0, b01_1, lc_lt0, lc_gt0, lc_eq0, wl_wr, wr_wr, wl_id, true_and, and_true, true_or, or_true, not_true_eq_false, not_false_eq_true, nc0, nc1, nc2, nc3, nc4, nc5, nc6, nc7, nc8, nc9, nc10, nc11, nc12, nc13, nc14, nc15, nc16, nc17, nc18, nc19, nc20, nc21, nc22, nc23, nc35, nc47, nc59, nc60, nc61, nc73, nc74, nc214, nc215, nc1115, nc2230, nc3345, if_true, if_false, Int.reduceToNat, hc1.k8, hw1.k, hw1.r2, w5, e2]
    rw [if_neg c2]
    by_cases c4 : tkK T n a = 4
    · rw [if_pos c4, c4, show kc 4 = 131 by decide]
      obtain ⟨h2, e2, r2, f2⟩ := c_mark (d := d + 88) (A := u + 4) (o := 47) (many := S 2) hu (Or.inr ⟨rfl, rfl⟩) (by omega) m1 lw lo g wn1
      refine ⟨h2, ?_, r2, (toR f1).tr f2⟩
      simp (disch := omega) only [Reader_readLine_31, Reader_readLine_133, Reader_readLine_145, Reader_readLine_214, wr_id, ix_id, okx, if_pos, if_neg, Int.toNat_of_nonneg, bak_v, bak_n, wr_b01, wr_bt, b01_or, b01_0, b01_1, lc_lt0, lc_gt0, lc_eq0, wl_wr, wr_wr, wl_id, true_and, and_true, true_or, or_true, not_true_eq_false, not_false_eq_true, nc0, nc1, nc2, nc3, nc4, nc5, nc6, nc7, nc8, nc9, nc10, nc11, nc12, nc13, nc14, nc15, nc16, nc17, nc18, nc19, nc20, nc21, nc22, nc23, nc35, nc47, nc59, nc60, nc61, nc73, nc74, nc214, nc215, nc1115, nc2230, nc3345, if_true, if_false, Int.reduceToNat, hc1.k8, hw1.k, hw1.r3, w6, e2]
    rw [if_neg c4]
    by_cases c5 : tkK T n a = 5
    · rw [if_pos c5, c5, show kc 5 = 132 by decide]
      unfold brP
      cases hq : tak T n 0 (S 2 - 1) (nx T n a) with
      | inl e =>
        obtain ⟨h2, e2, m2, f2⟩ := c_takeN (d := d + 89) m1 hl (lo := 0) (hi := S 2 - 1) (by omega) (by omega) hq
        have hw2 := hw1.fr f2
        refine ⟨pI h2 u 7 (bOr (S 10) (bShl 1 0)), ?_, m2.fu (Fr.pI (p := fun a _ => a = u) Fr.rf rfl) (fun a k z => by omega), Fr.pI (toR (f1.tr f2)) (by unfold pRd; omega)⟩
        simp (disch := omega) only [Reader_readLine_31, Reader_readLine_148, wr_id, ix_id, okx, if_pos, if_neg, Int.toNat_of_nonneg, bak_v, bak_n, wr_b01, wr_bt, b01_or, b01_0, b01_1, lc_lt0, lc_gt0, lc_eq0, wl_wr, wr_wr, wl_id, true_and, and_true, true_or, or_true, not_true_eq_false, not_false_eq_true, nc0, nc1, nc2, nc3, nc4, nc5, nc6, nc7, nc8, nc9, nc10, nc11, nc12, nc13, nc14, nc15, nc16, nc17, nc18, nc19, nc20, nc21, nc22, nc23, nc35, nc47, nc59, nc60, nc61, nc73, nc74, nc214, nc215, nc1115, nc2230, nc3345, if_true, if_false, Int.reduceToNat, hc1.k8, hc1.r8_0, hc1.k9, hw1.k, w6, w7, e2]
        simp (disch := omega) only [Reader_readLine_168, Reader_readLine_173, Reader_readLine_214, wr_id, ix_id, okx, if_pos, if_neg, Int.toNat_of_nonneg, bak_v, bak_n, wr_b01, wr_bt, b01_or, b01_0, b01_1, lc_lt0, lc_gt0, lc_eq0, wl_wr, wr_wr, wl_id, true_and, and_true, true_or, or_true, not_true_eq_false, not_false_eq_true, nc0, nc1, nc2, nc3, nc4, nc5, nc6, nc7, nc8, nc9, nc10, nc11, nc12, nc13, nc14, nc15, nc16, nc17, nc18, nc19, nc20, nc21, nc22, nc23, nc35, nc47, nc59, nc60, nc61, nc73, nc74, nc214, nc215, nc1115, nc2230, nc3345, if_true, if_false, Int.reduceToNat, hw2.k]
      | inr q =>
        obtain ⟨t1, t2, t3, t4, t5, t6, t7⟩ := tak_ok nr.2.1 hq
        obtain ⟨h2, e2, m2, f2⟩ := c_take (d := d + 89) m1 (lo := 0) (hi := S 2 - 1) (by omega) (by omega) hq
        have hw2 := hw1.fr f2
        refine ⟨pI h2 u 7 (bOr (S 10) (bShl 1 q.2)), ?_, ⟨l, m2.fu (Fr.pI (p := fun a _ => a = u) Fr.rf rfl) (fun a k z => by omega), lw.cg (fun k hk => up_ne (by omega)), (wn1.fr f2 hu lt).pf g hu (by unfold fz; omega)⟩, Fr.pI (toR (f1.tr f2)) (by unfold pRd; omega)⟩
        simp (disch := omega) only [Reader_readLine_31, Reader_readLine_148, wr_id, ix_id, okx, if_pos, if_neg, Int.toNat_of_nonneg, bak_v, bak_n, wr_b01, wr_bt, b01_or, b01_0, b01_1, lc_lt0, lc_gt0, lc_eq0, wl_wr, wr_wr, wl_id, true_and, and_true, true_or, or_true, not_true_eq_false, not_false_eq_true, nc0, nc1, nc2, nc3, nc4, nc5, nc6, nc7, nc8, nc9, nc10, nc11, nc12, nc13, nc14, nc15, nc16, nc17, nc18, nc19, nc20, nc21, nc22, nc23, nc35, nc47, nc59, nc60, nc61, nc73, nc74, nc214, nc215, nc1115, nc2230, nc3345, if_true, if_false, Int.reduceToNat, hc1.k8, hc1.r8_0, hc1.k9, hw1.k, w6, w7, e2]
        simp (disch := omega) only [Reader_readLine_168, Reader_readLine_173, Reader_readLine_214, wr_id, ix_id, okx, if_pos, if_neg, Int.toNat_of_nonneg, bak_v, bak_n, wr_b01, wr_bt, b01_or, b01_0, b01_1, lc_lt0, lc_gt0, lc_eq0, wl_wr, wr_wr, wl_id, true_and, and_true, true_or, or_true, not_true_eq_false, not_false_eq_true, nc0, nc1, nc2, nc3, nc4, nc5, nc6, nc7, nc8, nc9, nc10, nc11, nc12, nc13, nc14, nc15, nc16, nc17, nc18, nc19, nc20, nc21, nc22, nc23, nc35, nc47, nc59, nc60, nc61, nc73, nc74, nc214, nc215, nc1115, nc2230, nc3345, if_true, if_false, Int.reduceToNat, hw2.k]
    rw [if_neg c5]
    have c10 : tkK T n a = 10 := by unfold mayB at cm; omega
    rw [if_pos c10, c10, show kc 10 = 137 by decide]
    obtain ⟨h2, e2, r2, f2⟩ := c_joinR (d := d + 88) hu m1 lw lo g wn1
    refine ⟨h2, ?_, r2, (toR f1).tr f2⟩
    simp (disch := omega) only [Reader_readLine_31, Reader_readLine_176, Reader_readLine_182, Reader_readLine_214, wr_id, ix_id, okx, if_pos, if_neg, Int.toNat_of_nonneg, bak_v, bak_n, wr_b01, wr_bt, b01_or, b01_0, b01_1, lc_lt0, lc_gt0, lc_eq0, wl_wr, wr_wr, wl_id, true_and, and_true, true_or, or_true, not_true_eq_false, not_false_eq_true, nc0, nc1, nc2, nc3, nc4, nc5, nc6, nc7, nc8, nc9, nc10, nc11, nc12, nc13, nc14, nc15, nc16, nc17, nc18, nc19, nc20, nc21, nc22, nc23, nc35, nc47, nc59, nc60, nc61, nc73, nc74, nc214, nc215, nc1115, nc2230, nc3345, if_true, if_false, Int.reduceToNat, hc1.k8, e2]
  · have mn := mn cm
    have el : lnP T n a S = .inl (bd2 T n a) := by
      unfold mayB at cm
      unfold lnP
      rw [if_neg (by omega), if_neg (by omega), if_neg (by omega), if_neg (by omega), if_neg (by omega), if_neg (by omega)]
      by_cases c : 0 < S 1 ∧ 0 < S 2
      · rw [if_neg (fun z => z c), if_neg (by omega), if_neg (by omega), if_neg (by omega), if_neg (by omega)]
      · rw [if_pos c]
    rw [el]
    obtain ⟨h2, e2, m2, f2⟩ := c_refuse (d := d + 91) m hl
    refine ⟨h2, ?_, m2, toR f2⟩
    simp (disch := omega) only [Reader_readLine_0, Reader_readLine_13, Reader_readLine_16, Reader_readLine_23, wr_id, ix_id, okx, if_pos, if_neg, Int.toNat_of_nonneg, bak_v, bak_n, wr_b01, wr_bt, b01_or, b01_0, b01_1, lc_lt0, lc_gt0, lc_eq0, wl_wr, wr_wr, wl_id, true_and, and_true, true_or, or_true, not_true_eq_false, not_false_eq_true, nc0, nc1, nc2, nc3, nc4, nc5, nc6, nc7, nc8, nc9, nc10, nc11, nc12, nc13, nc14, nc15, nc16, nc17, nc18, nc19, nc20, nc21, nc22, nc23, nc35, nc47, nc59, nc60, nc61, nc73, nc74, nc214, nc215, nc1115, nc2230, nc3345, if_true, if_false, Int.reduceToNat, hc.k8, hc.r8_0, hc.k9, k3, mn, e2]
theorem c_wd_l {d w u : Nat} {T : Int → Int} {n : Int} (hu : u = 14 ∨ u = 20) : ∀ (c : Nat) (a i : Int) (S : Int → Int) (h : Hp) (l : List Int), n - a < c → CP h w T n a l → lwL S l → PG S → WN h u S → 0 ≤ i → i ≤ a → ∃ h', EX (d+94) m_Reader_readText 28 [(0, .inr (.inr (8))), (3, .inr (.inr (u))), (4, .inr (.inr (28))), (5, .inl (i))] [] (h) = EX (d+94) m_Reader_readText 88 [(0, .inr (.inr (8))), (3, .inr (.inr (u)))] [] (h') ∧ crW h' w u T n (wdP T n c a S) ∧ Fr (pRd u) h h' := by
  intro c
  induction c with
  | zero => intro a i S h l hc m; have := m.rng; omega
  | succ c ih =>
    intro a i S h l hcc m lw p wn i0 i1
    have hc := m.1.1
    have rg := m.rng
    obtain ⟨k3, kr⟩ := m.k
    have hl := lw.len p.2.1
    have ki := kc_iff (c := 0) (tkK_ok T n a) (b := 22) (by unfold kdO; omega) rfl
    have es := c_sound (d := d + 93) m
    simp only [wdP]
    by_cases c22 : tkK T n a = 22
    · rw [if_pos c22]
      refine ⟨h, ?_, ⟨l, m, lw, wn⟩, Fr.rf⟩
      rw [ki.mpr c22] at k3
      rw [Reader_readText_28]
      by_cases c9 : i < 900
      · simp (disch := omega) only [Reader_readText_36, Reader_readText_43, Reader_readText_46, wr_id, ix_id, okx, if_pos, if_neg, Int.toNat_of_nonneg, bak_v, bak_n, wr_b01, wr_bt, b01_or, b01_0, b01_1, lc_lt0, lc_gt0, lc_eq0, wl_wr, wr_wr, wl_id, true_and, and_true, true_or, or_true, not_true_eq_false, not_false_eq_true, nc0, nc1, nc2, nc3, nc4, nc5, nc6, nc7, nc8, nc9, nc10, nc11, nc12, nc13, nc14, nc15, nc16, nc17, nc18, nc19, nc20, nc21, nc22, nc23, nc35, nc47, nc59, nc60, nc61, nc73, nc74, nc214, nc215, nc1115, nc2230, nc3345, if_true, if_false, Int.reduceToNat, hc.k8, hc.r8_0, hc.k9, k3, es]
      · simp (disch := omega) only [wr_id, ix_id, okx, if_pos, if_neg, Int.toNat_of_nonneg, bak_v, bak_n, wr_b01, wr_bt, b01_or, b01_0, b01_1, lc_lt0, lc_gt0, lc_eq0, wl_wr, wr_wr, wl_id, true_and, and_true, true_or, or_true, not_true_eq_false, not_false_eq_true, nc0, nc1, nc2, nc3, nc4, nc5, nc6, nc7, nc8, nc9, nc10, nc11, nc12, nc13, nc14, nc15, nc16, nc17, nc18, nc19, nc20, nc21, nc22, nc23, nc35, nc47, nc59, nc60, nc61, nc73, nc74, nc214, nc215, nc1115, nc2230, nc3345, if_true, if_false, Int.reduceToNat]
    · rw [if_neg c22]
      have kk : ¬ kc (tkK T n a) = 0 := fun z => c22 (ki.mp z)
      have la : a < n := tkK_22 (T := T) c22
      obtain ⟨h1, e1, r1, f1⟩ := c_readLine (d := d) hu m lw p wn
      have hc1 := r1.cr
      have st : EX (d+94) m_Reader_readText 28 [(0, .inr (.inr (8))), (3, .inr (.inr (u))), (4, .inr (.inr (28))), (5, .inl (i))] [] (h) = EX (d+94) m_Reader_readText 63 [(0, .inr (.inr (8))), (3, .inr (.inr (u))), (4, .inr (.inr (28))), (5, .inl (i))] [] (h1) := by
        rw [Reader_readText_28]
        simp (disch := omega) only [Reader_readText_36, Reader_readText_43, Reader_readText_46, Reader_readText_56, wr_id, ix_id, okx, if_pos, if_neg, Int.toNat_of_nonneg, bak_v, bak_n, wr_b01, wr_bt, b01_or, b01_0, b01_1, lc_lt0, lc_gt0, lc_eq0, wl_wr, wr_wr, wl_id, true_and, and_true, true_or, or_true, not_true_eq_false, not_false_eq_true, nc0, nc1, nc2, nc3, nc4, nc5, nc6, nc7, nc8, nc9, nc10, nc11, nc12, nc13, nc14, nc15, nc16, nc17, nc18, nc19, nc20, nc21, nc22, nc23, nc35, nc47, nc59, nc60, nc61, nc73, nc74, nc214, nc215, nc1115, nc2230, nc3345, if_true, if_false, Int.reduceToNat, hc.k8, hc.r8_0, hc.k9, k3, es, e1]
      have hwu : ∀ {h' : Hp}, CR h' w → sK h' u = 9 := fun c => by
        have := c.2.2.2.2.2.2.1
        rcases hu with e | e <;> subst e
        · exact this.1.1
        · exact this.2.1.1
      have fin : ∀ (h2 : Hp) (e : Int × Int), cal (d + 94) m_Tokens_pass [.inr (.inr 9), .inl 59] h1 = some (.inl 0, h2) → CF h2 w T n e → Fr pLw h1 h2 → ∃ h', EX (d+94) m_Reader_readText 28 [(0, .inr (.inr (8))), (3, .inr (.inr (u))), (4, .inr (.inr (28))), (5, .inl (i))] [] (h) = EX (d+94) m_Reader_readText 88 [(0, .inr (.inr (8))), (3, .inr (.inr (u)))] [] (h') ∧ crW h' w u T n (.inl e) ∧ Fr (pRd u) h h' := fun h2 e e2 m2 f2 => by
        have k2 := hwu m2.1.1
        have m3 := m2.fu (Fr.pI (p := fun a _ => a = u) (k := 14) (v := hI h2 u 14 + 1) Fr.rf rfl) (fun a k z => by omega)
        have hc3 := m3.1.1
        have es3 := c_soundF (d := d + 93) m3
        refine ⟨_, ?_, m3, Fr.pI (f1.tr (f2.mo (fun a k z => z.rd))) (by unfold pRd; omega)⟩
        rw [st]
        simp (disch := omega) only [Reader_readText_63, wr_id, ix_id, okx, if_pos, if_neg, Int.toNat_of_nonneg, bak_v, bak_n, wr_b01, wr_bt, b01_or, b01_0, b01_1, lc_lt0, lc_gt0, lc_eq0, wl_wr, wr_wr, wl_id, true_and, and_true, true_or, or_true, not_true_eq_false, not_false_eq_true, nc0, nc1, nc2, nc3, nc4, nc5, nc6, nc7, nc8, nc9, nc10, nc11, nc12, nc13, nc14, nc15, nc16, nc17, nc18, nc19, nc20, nc21, nc22, nc23, nc35, nc47, nc59, nc60, nc61, nc73, nc74, nc214, nc215, nc1115, nc2230, nc3345, if_true, if_false, Int.reduceToNat, hc1.k8, hc1.r8_0, hc1.k9, e2]
        simp (disch := omega) only [Reader_readText_72, Reader_readText_82, wr_id, ix_id, okx, if_pos, if_neg, Int.toNat_of_nonneg, bak_v, bak_n, wr_b01, wr_bt, b01_or, b01_0, b01_1, lc_lt0, lc_gt0, lc_eq0, wl_wr, wr_wr, wl_id, true_and, and_true, true_or, or_true, not_true_eq_false, not_false_eq_true, nc0, nc1, nc2, nc3, nc4, nc5, nc6, nc7, nc8, nc9, nc10, nc11, nc12, nc13, nc14, nc15, nc16, nc17, nc18, nc19, nc20, nc21, nc22, nc23, nc35, nc47, nc59, nc60, nc61, nc73, nc74, nc214, nc215, nc1115, nc2230, nc3345, if_true, if_false, Int.reduceToNat, k2]
        rw [Reader_readText_28]
        by_cases c9 : i + 1 < 900
        · simp (disch := omega) only [Reader_readText_36, Reader_readText_43, wr_id, ix_id, okx, if_pos, if_neg, Int.toNat_of_nonneg, bak_v, bak_n, wr_b01, wr_bt, b01_or, b01_0, b01_1, lc_lt0, lc_gt0, lc_eq0, wl_wr, wr_wr, wl_id, true_and, and_true, true_or, or_true, not_true_eq_false, not_false_eq_true, nc0, nc1, nc2, nc3, nc4, nc5, nc6, nc7, nc8, nc9, nc10, nc11, nc12, nc13, nc14, nc15, nc16, nc17, nc18, nc19, nc20, nc21, nc22, nc23, nc35, nc47, nc59, nc60, nc61, nc73, nc74, nc214, nc215, nc1115, nc2230, nc3345, if_true, if_false, Int.reduceToNat, hc3.k8, hc3.r8_0, hc3.k9, es3]
        · simp (disch := omega) only [wr_id, ix_id, okx, if_pos, if_neg, Int.toNat_of_nonneg, bak_v, bak_n, wr_b01, wr_bt, b01_or, b01_0, b01_1, lc_lt0, lc_gt0, lc_eq0, wl_wr, wr_wr, wl_id, true_and, and_true, true_or, or_true, not_true_eq_false, not_false_eq_true, nc0, nc1, nc2, nc3, nc4, nc5, nc6, nc7, nc8, nc9, nc10, nc11, nc12, nc13, nc14, nc15, nc16, nc17, nc18, nc19, nc20, nc21, nc22, nc23, nc35, nc47, nc59, nc60, nc61, nc73, nc74, nc214, nc215, nc1115, nc2230, nc3345, if_true, if_false, Int.reduceToNat]
      cases hq : lnP T n a S with
      | inl e =>
        rw [hq] at r1
        have r1' : CF h1 w T n e := r1
        obtain ⟨h2, e2, m2, f2⟩ := c_passF (d := d + 90) r1' 59
        exact fin h2 e e2 m2 f2
      | inr q =>
        rw [hq] at r1
        obtain ⟨l1, m1, lw1, wn1⟩ := r1
        obtain ⟨pk1, pk2, pk3, pk4⟩ := ln_keep rg.2.2 rg.1 rg.2.1 p hq
        have hl1 := lw1.len pk1.2.1
        dsimp only
        by_cases c25 : tkK T n q.1 = 25
        · rw [if_pos c25]
          obtain ⟨h2, e2, m2, f2⟩ := c_pass (d := d + 90) m1 (k := 25) (c := 59) (by unfold kdO; omega) rfl c25
          have k2 := hwu m2.1.1
          have wn2 := wn1.fr f2 hu (fun a k z => z.lt)
          have w14 := wn2.1.f14
          have nr := nx_rng (T := T) (n := n) pk3
          have m3 := m2.fu (Fr.pI (p := fun a _ => a = u) (k := 14) (v := q.2 0 + 1) Fr.rf rfl) (fun a k z => by omega)
          have wn3 := wn2.pf (f := 14) (z := 0) (v := q.2 0 + 1) pk1.1 hu (by unfold fz; omega)
          have pg3 : PG (up q.2 0 (q.2 0 + 1)) := pk1.cg (Gd_up pk1.1 (Or.inl rfl)) (fun k hk => up_ne (by omega)) (by rw [up_same]; have := pk1.2.2.2.2; omega)
          obtain ⟨h', e', r', f'⟩ := ih (nx T n q.1) (i + 1) (up q.2 0 (q.2 0 + 1)) _ l1 (by omega) m3 (lw1.cg (fun k hk => up_ne (by omega))) pg3 wn3 (by omega) (by omega)
          refine ⟨h', ?_, r', Fr.tr (Fr.pI (f1.tr (f2.mo (fun a k z => z.rd))) (by unfold pRd; omega)) f'⟩
          rw [st]
          simp (disch := omega) only [Reader_readText_63, wr_id, ix_id, okx, if_pos, if_neg, Int.toNat_of_nonneg, bak_v, bak_n, wr_b01, wr_bt, b01_or, b01_0, b01_1, lc_lt0, lc_gt0, lc_eq0, wl_wr, wr_wr, wl_id, true_and, and_true, true_or, or_true, not_true_eq_false, not_false_eq_true, nc0, nc1, nc2, nc3, nc4, nc5, nc6, nc7, nc8, nc9, nc10, nc11, nc12, nc13, nc14, nc15, nc16, nc17, nc18, nc19, nc20, nc21, nc22, nc23, nc35, nc47, nc59, nc60, nc61, nc73, nc74, nc214, nc215, nc1115, nc2230, nc3345, if_true, if_false, Int.reduceToNat, hc1.k8, hc1.r8_0, hc1.k9, e2]
          simp (disch := omega) only [Reader_readText_72, Reader_readText_82, wr_id, ix_id, okx, if_pos, if_neg, Int.toNat_of_nonneg, bak_v, bak_n, wr_b01, wr_bt, b01_or, b01_0, b01_1, lc_lt0, lc_gt0, lc_eq0, wl_wr, wr_wr, wl_id, true_and, and_true, true_or, or_true, not_true_eq_false, not_false_eq_true, nc0, nc1, nc2, nc3, nc4, nc5, nc6, nc7, nc8, nc9, nc10, nc11, nc12, nc13, nc14, nc15, nc16, nc17, nc18, nc19, nc20, nc21, nc22, nc23, nc35, nc47, nc59, nc60, nc61, nc73, nc74, nc214, nc215, nc1115, nc2230, nc3345, if_true, if_false, Int.reduceToNat, k2, w14]
          exact e'
        · rw [if_neg c25]
          obtain ⟨h2, e2, m2, f2⟩ := c_passN (d := d + 90) m1 hl1 (k := 25) (c := 59) (by unfold kdO; omega) rfl c25
          exact fin h2 _ e2 m2 f2
/-- the same cells but for where the tokens look for their text -/
theorem Fr.pR {p : Nat → Nat → Prop} {h h' : Hp} (f : Fr p h h') (a k v : Nat) : Fr p (pR h a k v) (pR h' a k v) := ⟨f.1, f.2.1, f.2.2.1, fun b j => by rw [hR_pR, hR_pR, f.2.2.2]⟩
theorem WinAt.pR9 {h : Hp} {w v : Nat} (q : WinAt h w) (hw : ¬ w = 9) : WinAt (pR h 9 0 v) w := by
  obtain ⟨q1, ⟨r0, r1, r2, r3, r4⟩, q3⟩ := q
  refine ⟨q1, ⟨?_, ?_, ?_, ?_, ?_⟩, q3⟩ <;> (rw [hR_pR, if_neg (by omega)]; assumption)
theorem HangAt.pR9 {h : Hp} {w v : Nat} (q : HangAt h w) (hw : ¬ w = 9) : HangAt (pR h 9 0 v) w := ⟨q.1, by rw [hR_pR, if_neg (by omega)]; exact q.2.1, q.2.2⟩
theorem HisAt.pR9 {h : Hp} {v : Nat} (q : HisAt h) : HisAt (pR h 9 0 v) := ⟨q.1, by rw [hR_pR, if_neg (by omega)]; exact q.2.1, q.2.2⟩
theorem CR.pR9 {h : Hp} {w v : Nat} (c : CR h w) : CR (pR h 9 0 v) w := by
  obtain ⟨c1, c2, c3, c4, c5, c6, ⟨a1, a2, a3, a4⟩, ⟨b1, b2, b3, b4⟩, c9⟩ := c
  refine ⟨c1, by rw [hR_pR, if_neg (by omega), hR_pR, if_neg (by omega)]; exact c2, ?_, c4, c5, fun t ht => ?_, ⟨a1.pR9 (by omega), a2.pR9 (by omega), a3.pR9 (by omega), a4.pR9 (by omega)⟩, ⟨b1.pR9 (by omega), b2.pR9 (by omega), b3.pR9 (by omega), b4.pR9 (by omega)⟩, c9.pR9⟩
  · unfold CRr at *
    simp (disch := omega) only [hR_pR, if_neg]
    exact c3
  · obtain ⟨q1, q2, q3, q4⟩ := c6 t ht
    exact ⟨by rw [hR_pR, if_neg (by omega)]; exact q1, q2, by rw [hR_pR, if_neg (by omega)]; exact q3, q4⟩
theorem WV.pR9 {h : Hp} {w v : Nat} {S : Int → Int} (q : WV h w S) (hw : ¬ w = 9) : WV (pR h 9 0 v) w S := ⟨q.1.pR9 hw, q.2⟩
theorem HV.pR9 {h : Hp} {w v : Nat} {S : Int → Int} (q : HV h w S) (hw : ¬ w = 9) : HV (pR h 9 0 v) w S := ⟨q.1.pR9 hw, q.2⟩
def pRt (u a k : Nat) : Prop := pRd u a k ∨ (a = 9 ∧ k = 1)
theorem c_open {d w : Nat} {h : Hp} {T : Int → Int} {n : Int} (hc : CR h w) (st : STR h) (to : tOk T) (ht : ∀ k : Nat, k < 900 → hI h 7 k = sb (T k)) (hn : 0 ≤ n ∧ n ≤ 900) (h11 : hI h 11 2 = 0) : ∃ h', cal (d+4) m_Tokens_open [.inr (.inr (9)), .inr (.inr (7)), .inl (n)] (h) = some (.inl 0, h') ∧ CP h' w T n (sk T n 0) [] ∧ Fr (fun a k => a = 9 ∧ 1 ≤ k ∧ k ≤ 7) (pR h 9 0 7) h' := by
  have f0 : Fr (fun a k => a = 9 ∧ 1 ≤ k ∧ k ≤ 7) (pR h 9 0 7) (pI (pI (pI (pI (pR h 9 0 7) 9 1 n) 9 2 0) 9 6 0) 9 7 (-1)) := Fr.pI (Fr.pI (Fr.pI (Fr.pI Fr.rf (by omega)) (by omega)) (by omega)) (by omega)
  have s7 : sL h 7 = 900 := by rw [sL_eq, hc.n7]; rfl
  have s7' : sL (pR h 9 0 7) 7 = 900 := s7
  have x : CX (pI (pI (pI (pI (pR h 9 0 7) 9 1 n) 9 2 0) 9 6 0) 9 7 (-1)) w T n := ⟨hc.pR9.fr f0, STR.fr (h := pR h 9 0 7) st f0 (fun a k q => by omega), by rw [f0.R, hR_pR, if_pos ⟨rfl, rfl⟩], fun k hk => by rw [f0.I (by omega)]; exact ht k hk, to, by simp [hI_pI], hn⟩
  obtain ⟨h', e', ck, f'⟩ := c_step (d := d) (p := 0) x (by simp [hI_pI]) (by omega)
  have hcx := x.1
  have sr := sk_rng (T := T) (n := n) (p := 0) (by omega)
  refine ⟨h', ?_, ⟨x.k f' (fun _ _ z => z), ck, by rw [f'.I (by unfold pCk; omega)]; simp [hI_pI], by rw [f'.I (by unfold pCk; omega)]; simp [hI_pI], ⟨?_, fun i hi => by simp at hi⟩, by omega⟩, f0.tr (f'.mo (fun a k z => by unfold pCk at z; omega))⟩
  · have e1 : ∀ h, cal (d+3) m_Math_min_II [.inl (n), .inl (900)] (h) = some (.inl n, h) := fun h => by
      show EX (d+2) m_Math_min_II 0 [(0, .inl (n)), (1, .inl (900))] [] (h) = _
      simp (disch := omega) only [Math_min_II_0, Math_min_II_5, Math_min_II_10, wr_id, ix_id, okx, if_pos, if_neg, Int.toNat_of_nonneg, bak_v, bak_n, wr_b01, wr_bt, b01_or, b01_0, b01_1, lc_lt0, lc_gt0, lc_eq0, wl_wr, wr_wr, wl_id, true_and, and_true, true_or, or_true, not_true_eq_false, not_false_eq_true, nc0, nc1, nc2, nc3, nc4, nc5, nc6, nc7, nc8, nc9, nc10, nc11, nc12, nc13, nc14, nc15, nc16, nc17, nc18, nc19, nc20, nc21, nc22, nc23, nc35, nc47, nc59, nc60, nc61, nc73, nc74, nc214, nc215, nc1115, nc2230, nc3345, if_true, if_false, Int.reduceToNat]
    have e2 : ∀ h, cal (d+3) m_Math_max_II [.inl (0), .inl (n)] (h) = some (.inl n, h) := fun h => by
      show EX (d+2) m_Math_max_II 0 [(0, .inl (0)), (1, .inl (n))] [] (h) = _
      by_cases c : 0 < n
      · simp (disch := omega) only [Math_max_II_0, Math_max_II_9, Math_max_II_10, wr_id, ix_id, okx, if_pos, if_neg, Int.toNat_of_nonneg, bak_v, bak_n, wr_b01, wr_bt, b01_or, b01_0, b01_1, lc_lt0, lc_gt0, lc_eq0, wl_wr, wr_wr, wl_id, true_and, and_true, true_or, or_true, not_true_eq_false, not_false_eq_true, nc0, nc1, nc2, nc3, nc4, nc5, nc6, nc7, nc8, nc9, nc10, nc11, nc12, nc13, nc14, nc15, nc16, nc17, nc18, nc19, nc20, nc21, nc22, nc23, nc35, nc47, nc59, nc60, nc61, nc73, nc74, nc214, nc215, nc1115, nc2230, nc3345, if_true, if_false, Int.reduceToNat]
      · have : n = 0 := by omega
        subst this
        simp (disch := omega) only [Math_max_II_0, Math_max_II_5, Math_max_II_10, wr_id, ix_id, okx, if_pos, if_neg, Int.toNat_of_nonneg, bak_v, bak_n, wr_b01, wr_bt, b01_or, b01_0, b01_1, lc_lt0, lc_gt0, lc_eq0, wl_wr, wr_wr, wl_id, true_and, and_true, true_or, or_true, not_true_eq_false, not_false_eq_true, nc0, nc1, nc2, nc3, nc4, nc5, nc6, nc7, nc8, nc9, nc10, nc11, nc12, nc13, nc14, nc15, nc16, nc17, nc18, nc19, nc20, nc21, nc22, nc23, nc35, nc47, nc59, nc60, nc61, nc73, nc74, nc214, nc215, nc1115, nc2230, nc3345, if_true, if_false, Int.reduceToNat]
    show EX (d+3) m_Tokens_open 0 [(0, .inr (.inr (9))), (1, .inr (.inr (7))), (2, .inl (n))] [] (h) = _
    simp (disch := omega) only [Tokens_open_0, Tokens_open_5, Tokens_open_13, Tokens_open_16, Tokens_open_19, Tokens_open_24, Tokens_open_29, Tokens_open_34, Tokens_open_38, wr_id, ix_id, okx, if_pos, if_neg, Int.toNat_of_nonneg, bak_v, bak_n, wr_b01, wr_bt, b01_or, b01_0, b01_1, lc_lt0, lc_gt0, lc_eq0, wl_wr, wr_wr, wl_id, true_and, and_true, true_or, or_true, not_true_eq_false, not_false_eq_true, nc0, nc1, nc2, nc3, nc4, nc5, nc6, nc7, nc8, nc9, nc10, nc11, nc12, nc13, nc14, nc15, nc16, nc17, nc18, nc19, nc20, nc21, nc22, nc23, nc35, nc47, nc59, nc60, nc61, nc73, nc74, nc214, nc215, nc1115, nc2230, nc3345, if_true, if_false, Int.reduceToNat, sK_pR, sK_pI, hc.k9, hc.k7, s7', e1, e2, e']
  · rw [f'.I (by unfold pCk; omega)]
    simp [hI_pI, hI_pR, h11]
theorem c_readText {d w u : Nat} {h : Hp} {T R : Int → Int} {n : Int} (hc : CR h w) (hu : u = 34 - w) (st : STR h) (to : tOk T) (ht : ∀ k : Nat, k < 900 → hI h 7 k = sb (T k)) (hn : 0 ≤ n ∧ n ≤ 900) : ∃ h', cal (d+95) m_Reader_readText [.inr (.inr (8)), .inr (.inr (7)), .inl (n), .inr (.inr (u)), .inr (.inr (28))] (h) = some (.inl 0, h') ∧ (match wdP T n 901 (sk T n 0) (plR R) with | .inl e => CF h' w T n e | .inr q => hI h' 9 6 = 0 ∧ hI h' 9 7 = -1 ∧ WV h' u q.2 ∧ HV h' 28 q.2 ∧ RV h' u q.2 ∧ PG q.2) ∧ Fr (pRt u) (pR h 9 0 7) h' := by
  have hu2 : u = 14 ∨ u = 20 := by have := hc.wd; omega
  have wa : ∀ {h : Hp}, CR h w → WinAt h u := fun c => by
    have := c.2.2.2.2.2.2.1
    rcases hu2 with e | e <;> rw [e]
    · exact this.1
    · exact this.2.1
  have ha : HangAt h 28 := hc.2.2.2.2.2.2.2.1.2.1
  obtain ⟨h1, e1, wv1, z1, z2, -, f1⟩ := c_winEmpty (d := d + 92) (wa hc)
  have hc1 := hc.fr f1
  obtain ⟨h2, e2, hv2, f2⟩ := c_hanEmpty (d := d + 92) (ha.fr f1)
  have hc2 := hc1.fr f2
  have wv2 := wv1.fr f2 (fun c k c1 c2 => by omega)
  have es : cal (d+94) m_Law_strike [.inr (.inr (11))] (h2) = some (.inl 0, pI h2 11 2 0) := by
    show EX (d+93) m_Law_strike 0 [(0, .inr (.inr (11)))] [] (h2) = _
    simp (disch := omega) only [Law_strike_0, Law_strike_5, wr_id, ix_id, okx, if_pos, if_neg, Int.toNat_of_nonneg, bak_v, bak_n, wr_b01, wr_bt, b01_or, b01_0, b01_1, lc_lt0, lc_gt0, lc_eq0, wl_wr, wr_wr, wl_id, true_and, and_true, true_or, or_true, not_true_eq_false, not_false_eq_true, nc0, nc1, nc2, nc3, nc4, nc5, nc6, nc7, nc8, nc9, nc10, nc11, nc12, nc13, nc14, nc15, nc16, nc17, nc18, nc19, nc20, nc21, nc22, nc23, nc35, nc47, nc59, nc60, nc61, nc73, nc74, nc214, nc215, nc1115, nc2230, nc3345, if_true, if_false, Int.reduceToNat, hc2.k11]
  have f3 : Fr (fun a k => a = 11 ∧ k = 2) h2 (pI h2 11 2 0) := Fr.pI Fr.rf ⟨rfl, rfl⟩
  have hc3 := hc2.fr f3
  have g1 : Fr (pRt u) h h1 := f1.mo (fun a k z => by unfold pRt pRd; omega)
  have g2 : Fr (pRt u) h1 h2 := f2.mo (fun a k z => by unfold pRt pRd; omega)
  have g3 : Fr (pRt u) h2 (pI h2 11 2 0) := f3.mo (fun a k z => by unfold pRt pRd; omega)
  have F3 := (g1.tr g2).tr g3
  have n7 : ∀ k, ¬ pRt u 7 k := fun k z => by unfold pRt pRd pLw at z; omega
  have n5 : ∀ a k, pRt u a k → 6 ≤ a := fun a k z => by unfold pRt pRd pLw at z; omega
  obtain ⟨h4, e4, m4, f4⟩ := c_open (d := d + 90) (n := n) hc3 (st.fr F3 n5) to (fun k hk => by rw [F3.I (n7 k)]; exact ht k hk) hn (by rw [hI_pI, if_pos ⟨rfl, rfl⟩])
  have wv4 : WV h4 u plS := WV.fr (h := pR (pI h2 11 2 0) 9 0 7) ((wv2.fr f3 (fun c k c1 c2 => by omega)).pR9 (by omega)) f4 (fun c k c1 c2 => by omega)
  have hv4 : HV h4 28 plS := HV.fr (h := pR (pI h2 11 2 0) 9 0 7) ((hv2.fr f3 (by omega) (by omega)).pR9 (by omega)) f4 (by omega) (by omega)
  have z14 : hI h4 (u + 1) 0 = 0 := by rw [f4.I (by omega), hI_pR, f3.I (by omega), f2.I (by omega)]; exact z1 0 (by omega)
  have z24 : hI h4 (u + 2) 0 = 0 := by rw [f4.I (by omega), hI_pR, f3.I (by omega), f2.I (by omega)]; exact z2 0 (by omega)
  have pe : ∀ k, 0 ≤ k → k ≤ 72 → ¬ k = 9 → plR R k = plS k := fun k k0 k1 _ => by unfold plR; rw [if_pos (by omega)]
  have wn4 : WN h4 u (plR R) := WN.cg (S := plS) ⟨wv4, hv4, z14, z24⟩ PG_pl.1 hu2 pe
  have sr := sk_rng (T := T) (n := n) (p := 0) (by omega)
  obtain ⟨h5, e5, r5, f5⟩ := c_wd_l (d := d) hu2 901 (sk T n 0) 0 (plR R) h4 [] (by omega) m4 ⟨fun _ => rfl, fun z => by
    have : plR R 9 = 0 := rfl
    omega⟩ (PG_plR R) wn4 (by omega) (by omega)
  have hc5 := r5.cr
  have F4 : Fr (pRt u) (pR h 9 0 7) h4 := (F3.pR 9 0 7).tr (f4.mo (fun a k z => by unfold pRt pRd pLw; omega))
  have F5 : Fr (pRt u) (pR h 9 0 7) h5 := F4.tr (f5.mo (fun a k z => Or.inl z))
  have st5 : cal (d+95) m_Reader_readText [.inr (.inr (8)), .inr (.inr (7)), .inl (n), .inr (.inr (u)), .inr (.inr (28))] (h) = EX (d+94) m_Reader_readText 88 [(0, .inr (.inr (8))), (3, .inr (.inr (u)))] [] (h5) := by
    show EX (d+94) m_Reader_readText 0 [(0, .inr (.inr (8))), (1, .inr (.inr (7))), (2, .inl (n)), (3, .inr (.inr (u))), (4, .inr (.inr (28)))] [] (h) = _
    have k4 := m4.1.1
    have w1 := (wa hc).k
    have a2 := (ha.fr f1).k
    simp (disch := omega) only [Reader_readText_0, wr_id, ix_id, okx, if_pos, if_neg, Int.toNat_of_nonneg, bak_v, bak_n, wr_b01, wr_bt, b01_or, b01_0, b01_1, lc_lt0, lc_gt0, lc_eq0, wl_wr, wr_wr, wl_id, true_and, and_true, true_or, or_true, not_true_eq_false, not_false_eq_true, nc0, nc1, nc2, nc3, nc4, nc5, nc6, nc7, nc8, nc9, nc10, nc11, nc12, nc13, nc14, nc15, nc16, nc17, nc18, nc19, nc20, nc21, nc22, nc23, nc35, nc47, nc59, nc60, nc61, nc73, nc74, nc214, nc215, nc1115, nc2230, nc3345, if_true, if_false, Int.reduceToNat, hc.k8, hc.k7, w1, ha.k, e1]
    simp (disch := omega) only [Reader_readText_4, wr_id, ix_id, okx, if_pos, if_neg, Int.toNat_of_nonneg, bak_v, bak_n, wr_b01, wr_bt, b01_or, b01_0, b01_1, lc_lt0, lc_gt0, lc_eq0, wl_wr, wr_wr, wl_id, true_and, and_true, true_or, or_true, not_true_eq_false, not_false_eq_true, nc0, nc1, nc2, nc3, nc4, nc5, nc6, nc7, nc8, nc9, nc10, nc11, nc12, nc13, nc14, nc15, nc16, nc17, nc18, nc19, nc20, nc21, nc22, nc23, nc35, nc47, nc59, nc60, nc61, nc73, nc74, nc214, nc215, nc1115, nc2230, nc3345, if_true, if_false, Int.reduceToNat, a2, e2]
    simp (disch := omega) only [Reader_readText_9, wr_id, ix_id, okx, if_pos, if_neg, Int.toNat_of_nonneg, bak_v, bak_n, wr_b01, wr_bt, b01_or, b01_0, b01_1, lc_lt0, lc_gt0, lc_eq0, wl_wr, wr_wr, wl_id, true_and, and_true, true_or, or_true, not_true_eq_false, not_false_eq_true, nc0, nc1, nc2, nc3, nc4, nc5, nc6, nc7, nc8, nc9, nc10, nc11, nc12, nc13, nc14, nc15, nc16, nc17, nc18, nc19, nc20, nc21, nc22, nc23, nc35, nc47, nc59, nc60, nc61, nc73, nc74, nc214, nc215, nc1115, nc2230, nc3345, if_true, if_false, Int.reduceToNat, hc2.k8, hc2.r8_1, hc2.k11, es]
    simp (disch := omega) only [Reader_readText_16, wr_id, ix_id, okx, if_pos, if_neg, Int.toNat_of_nonneg, bak_v, bak_n, wr_b01, wr_bt, b01_or, b01_0, b01_1, lc_lt0, lc_gt0, lc_eq0, wl_wr, wr_wr, wl_id, true_and, and_true, true_or, or_true, not_true_eq_false, not_false_eq_true, nc0, nc1, nc2, nc3, nc4, nc5, nc6, nc7, nc8, nc9, nc10, nc11, nc12, nc13, nc14, nc15, nc16, nc17, nc18, nc19, nc20, nc21, nc22, nc23, nc35, nc47, nc59, nc60, nc61, nc73, nc74, nc214, nc215, nc1115, nc2230, nc3345, if_true, if_false, Int.reduceToNat, hc3.k8, hc3.r8_0, hc3.k9, e4]
    simp (disch := omega) only [Reader_readText_25, wr_id, ix_id, okx, if_pos, if_neg, Int.toNat_of_nonneg, bak_v, bak_n, wr_b01, wr_bt, b01_or, b01_0, b01_1, lc_lt0, lc_gt0, lc_eq0, wl_wr, wr_wr, wl_id, true_and, and_true, true_or, or_true, not_true_eq_false, not_false_eq_true, nc0, nc1, nc2, nc3, nc4, nc5, nc6, nc7, nc8, nc9, nc10, nc11, nc12, nc13, nc14, nc15, nc16, nc17, nc18, nc19, nc20, nc21, nc22, nc23, nc35, nc47, nc59, nc60, nc61, nc73, nc74, nc214, nc215, nc1115, nc2230, nc3345, if_true, if_false, Int.reduceToNat]
    exact e5
  cases hq : wdP T n 901 (sk T n 0) (plR R) with
  | inl e =>
    rw [hq] at r5
    have r5' : CF h5 w T n e := r5
    have e6 := c_soundF (d := d + 93) r5'
    refine ⟨h5, ?_, r5', F5⟩
    rw [st5]
    simp (disch := omega) only [Reader_readText_88, Reader_readText_95, Reader_readText_106, wr_id, ix_id, okx, if_pos, if_neg, Int.toNat_of_nonneg, bak_v, bak_n, wr_b01, wr_bt, b01_or, b01_0, b01_1, lc_lt0, lc_gt0, lc_eq0, wl_wr, wr_wr, wl_id, true_and, and_true, true_or, or_true, not_true_eq_false, not_false_eq_true, nc0, nc1, nc2, nc3, nc4, nc5, nc6, nc7, nc8, nc9, nc10, nc11, nc12, nc13, nc14, nc15, nc16, nc17, nc18, nc19, nc20, nc21, nc22, nc23, nc35, nc47, nc59, nc60, nc61, nc73, nc74, nc214, nc215, nc1115, nc2230, nc3345, if_true, if_false, Int.reduceToNat, hc5.k8, hc5.r8_0, hc5.k9, e6]
  | inr q =>
    rw [hq] at r5
    obtain ⟨l, m5, lw5, wn5⟩ := r5
    have pg : PG q.2 := wd_keep hn.2 901 (sk T n 0) (plR R) (by omega) (by omega) (PG_plR R) q hq
    have e6 := c_sound (d := d + 93) m5
    obtain ⟨h7, e7, r7, f7⟩ := c_settle (d := d + 89) pg.1 pg.2.1 hu2 hc5 wn5.1 (fun z => ⟨by rw [m5.2.2.2.2.1.1]; exact (lw5.2 z).1, fun k hk => by
      have := (lw5.2 z).1
      rw [m5.2.2.2.2.1.2 k (by omega), (lw5.2 z).2 k (by omega)]⟩) (fun z => by rw [m5.2.2.2.2.1.1, lw5.1 z]; rfl)
    refine ⟨h7, ?_, ⟨?_, ?_, ?_, ?_, r7, pg⟩, F5.tr (f7.mo (fun a k z => by unfold pSt at z; unfold pRt pRd pLw; omega))⟩
    · rw [st5]
      simp (disch := omega) only [Reader_readText_88, Reader_readText_95, Reader_readText_98, Reader_readText_106, wr_id, ix_id, okx, if_pos, if_neg, Int.toNat_of_nonneg, bak_v, bak_n, wr_b01, wr_bt, b01_or, b01_0, b01_1, lc_lt0, lc_gt0, lc_eq0, wl_wr, wr_wr, wl_id, true_and, and_true, true_or, or_true, not_true_eq_false, not_false_eq_true, nc0, nc1, nc2, nc3, nc4, nc5, nc6, nc7, nc8, nc9, nc10, nc11, nc12, nc13, nc14, nc15, nc16, nc17, nc18, nc19, nc20, nc21, nc22, nc23, nc35, nc47, nc59, nc60, nc61, nc73, nc74, nc214, nc215, nc1115, nc2230, nc3345, if_true, if_false, Int.reduceToNat, hc5.k8, hc5.r8_0, hc5.r8_1, hc5.k9, hc5.k11, e6, e7]
    · rw [f7.I (by unfold pSt; omega)]; exact m5.2.2.1
    · rw [f7.I (by unfold pSt; omega)]; exact m5.2.2.2.1
    · obtain ⟨q1, q2, q3⟩ := wn5.1
      refine ⟨q1.fr f7, ?_, ?_⟩
      · unfold WVf at q2 ⊢
        simp (disch := (unfold pSt; omega)) only [f7.I]
        exact q2
      · obtain ⟨a1, a2, a3, a4⟩ := q3
        exact ⟨fun k hk => by rw [f7.I (by unfold pSt; omega)]; exact a1 k hk, fun k hk => by rw [f7.I (by unfold pSt; omega)]; exact a2 k hk, fun k hk => by rw [f7.I (by unfold pSt; omega)]; exact a3 k hk, fun k hk => by rw [f7.I (by unfold pSt; omega)]; exact a4 k hk⟩
    · exact wn5.2.1.fr f7 (fun k => by unfold pSt; omega) (fun k => by unfold pSt; omega)
