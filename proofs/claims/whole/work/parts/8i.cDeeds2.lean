/-! the class's calls: judge, mended, spread, trays, images -/
theorem runD_why (T : Int → Int) : ∀ (n : Nat) (k : Int) (S : Int → Int), ¬ (runD T n k S).2.2 = 0 → (runD T n k S).2.2 = whyD (runD T n k S).1 (T (runD T n k S).2.1) := by
  intro n
  induction n with
  | zero => intro k S h; exact absurd rfl h
  | succ n ih =>
    intro k S h
    simp only [runD] at h ⊢
    by_cases c : whyD S (T k) = 0
    · rw [if_pos c] at h ⊢
      exact ih _ _ h
    · rw [if_neg c] at h ⊢
theorem cc_judge {d w : Nat} {h : Hp} {S G T rs rm nb : Int → Int} {n fk fp : Int} (cb : CB h w S G T rs rm nb n fk fp) (g : Gd S) (tg : TG rs rm nb) {t u : Int} (rt : -2147483648 ≤ t ∧ t ≤ 2147483647) (ru : -2147483648 ≤ u ∧ u ≤ 2147483647) : ∃ h', cal (d+7) m_Hook_judge [.inr (.inr (6)), .inl (t), .inl (u)] (h) = some (.inl (ansJudge S rs rm nb t u), h') ∧ CB h' w S G T rs rm nb n fk fp ∧ Fr pDd h h' := by
  obtain ⟨hc, wv, rv, hv, hs, kj⟩ := cb.1
  have tv := cb.2.1.1
  have wd := hc.wd
  have wk := wv.1.k
  have ha := hv.1
  have e0 := c_isTray (d := d + 5) (h := h) rt
  show ∃ h', EX (d+6) m_Hook_judge 0 [(0, .inr (.inr (6))), (1, .inl (t)), (2, .inl (u))] [] (h) = _ ∧ _
  unfold ansJudge
  by_cases cu : 0 ≤ u ∧ u ≤ 3
  · have nu : ¬ ¬ (0 ≤ u ∧ u ≤ 3) := fun z => z cu
    simp only [if_neg nu]
    by_cases ct : 0 ≤ t ∧ t < 4
    · have b1 : b01 (0 ≤ t ∧ t < 4) = 1 := by unfold b01; rw [if_pos ct]
      rw [b1] at e0
      obtain ⟨t', rfl⟩ := Int.eq_ofNat_of_zero_le ct.1
      have tq := (hc.2.2.2.2.2.1 t' (by omega))
      have tr := tq.1
      have tk := tq.2.1
      have ix' : (((t' : Nat) : Int)).toNat = t' := by omega
      have em := c_isMissing (d := d + 5) hc tv tg (t := t') (by omega)
      by_cases cm : rs t' = -1
      · have nt : noT rs t' = -6 := by unfold noT; simp [ct, cm]
        have bm : b01 (rs t' = -1) = 1 := by unfold b01; rw [if_pos cm]
        rw [bm] at em
        rw [nt]
        simp only [show ¬ ((-6 : Int) = 0) from by omega, not_false_eq_true, if_true]
        refine ⟨h, ?_, cb, Fr.rf⟩
        simp (disch := omega) only [Hook_judge_0, Hook_judge_4, Hook_judge_7, Hook_judge_11, Hook_judge_19, Hook_judge_30, Hook_judge_33, wr_id, ix_id, okx, if_pos, if_neg, Int.toNat_of_nonneg, bak_v, bak_n, wr_b01, wr_bt, b01_or, b01_0, b01_1, lc_lt0, lc_gt0, lc_eq0, wl_wr, wr_wr, wl_id, true_and, and_true, true_or, or_true, not_true_eq_false, not_false_eq_true, nc0, nc1, nc2, nc3, nc4, nc5, nc6, nc7, nc8, nc9, nc10, nc11, nc12, nc13, nc14, nc15, nc16, nc17, nc18, nc19, nc20, nc21, nc22, nc23, nc35, nc47, nc59, nc60, nc61, nc73, nc74, nc214, nc215, nc1115, nc2230, nc3345, if_true, if_false, Int.reduceToNat, hc.k6, hc.r10, hc.k32, hc.n32, ix', tr, tk, e0, em]
      · have nt : noT rs t' = 0 := by unfold noT; simp [ct, cm]
        have bm : b01 (rs t' = -1) = 0 := by unfold b01; rw [if_neg cm]
        rw [bm] at em
        have nn : ¬ ¬ noT rs t' = 0 := fun z => z nt
        simp only [if_neg nn]
        obtain ⟨h1, e1, hv1, f1⟩ := c_takeFrom (d := d + 5) (a := 28) (b := 26) (hc.2.2.2.2.2.2.2.1.2.1) hv (by omega)
        have hc1 := hc.fr f1
        have wv1 := wv.fr f1 (fun c k c1 c2 => by omega)
        have hvA := hv.fr f1 (by omega) (by omega)
        have tv1 := tv.fr f1 (by omega)
        obtain ⟨h2, e2, hv2, f2⟩ := c_doDeeds (d := d) (a := 28) (t := t') tg (by omega) cm (by omega) wd hc1 tv1 wv1 hv1 g
        have hc2 := hc1.fr f2
        have wv2 := wv1.fr f2 (fun c k c1 c2 => by omega)
        have hvB := hvA.fr f2 (by omega) (by omega)
        have tv2 := tv1.fr f2 (by omega)
        obtain ⟨r1, r2, r3, r4, r5, r6, r7⟩ := runD_ok (fun k => nb (40 * t' + k)) (rm t').toNat 0 S g
        have rw' := runD_why (fun k => nb (40 * t' + k)) (rm t').toNat 0 S
        have gt := tg.1 t' (by omega) (by omega)
        have F2 : Fr pDd h h2 := (f1.mo (fun a k z => by unfold pDd; omega)).tr (f2.mo (fun a k z => by unfold pDd; omega))
        have a28 : sK h 28 = 0 := (hc.2.2.2.2.2.2.2.1.2.1).1
        have ha1 := hv1.1
        have wk1 := wv1.1.k
        have wk2 := wv2.1.k
        have ha2 := hv2.1
        have haB := hvB.1
        have tq1 := (hc1.2.2.2.2.2.1 t' (by omega))
        have tk1 := tq1.2.1
        have tk2 := (hc2.2.2.2.2.2.1 t' (by omega)).2.1
        have hm2 : hI h2 (33 + 2 * t') 2 = rm t' := ((tv2 t' (by omega)).2 cm).1
        have cb2 : CB h2 w S G T rs rm nb n fk fp := cb.row g F2 (fun a k z => z) hvB ((hs.fr f1 (by omega) (by omega)).fr f2 (by omega) (by omega)) As.rf
        have E1 : dds S rm nb t' = runD (fun k => nb (40 * t' + k)) (rm t').toNat 0 S := rfl
        rw [← E1] at r1 r2 r3 r4 r5 r6 r7 rw' e2 hv2
        have st : EX (d+6) m_Hook_judge 0 [(0, .inr (.inr (6))), (1, .inl ((t' : Int))), (2, .inl (u))] [] (h) = EX (d+6) m_Hook_judge 59 [(0, .inr (.inr (6))), (2, .inl (u)), (3, .inr (.inr (33 + 2 * t')))] [.inl ((dds S rm nb t').2.1)] (h2) := by
          simp (disch := omega) only [Hook_judge_0, Hook_judge_4, Hook_judge_7, Hook_judge_11, Hook_judge_19, Hook_judge_30, Hook_judge_36, wr_id, ix_id, okx, if_pos, if_neg, Int.toNat_of_nonneg, bak_v, bak_n, wr_b01, wr_bt, b01_or, b01_0, b01_1, lc_lt0, lc_gt0, lc_eq0, wl_wr, wr_wr, wl_id, true_and, and_true, true_or, or_true, not_true_eq_false, not_false_eq_true, nc0, nc1, nc2, nc3, nc4, nc5, nc6, nc7, nc8, nc9, nc10, nc11, nc12, nc13, nc14, nc15, nc16, nc17, nc18, nc19, nc20, nc21, nc22, nc23, nc35, nc47, nc59, nc60, nc61, nc73, nc74, nc214, nc215, nc1115, nc2230, nc3345, if_true, if_false, Int.reduceToNat, hc.k6, hc.r7, hc.r8, hc.r10, hc.k32, hc.n32, ix', tr, tk, e0, em, ha.k, a28, e1]
          simp (disch := omega) only [Hook_judge_47, wr_id, ix_id, okx, if_pos, if_neg, Int.toNat_of_nonneg, bak_v, bak_n, wr_b01, wr_bt, b01_or, b01_0, b01_1, lc_lt0, lc_gt0, lc_eq0, wl_wr, wr_wr, wl_id, true_and, and_true, true_or, or_true, not_true_eq_false, not_false_eq_true, nc0, nc1, nc2, nc3, nc4, nc5, nc6, nc7, nc8, nc9, nc10, nc11, nc12, nc13, nc14, nc15, nc16, nc17, nc18, nc19, nc20, nc21, nc22, nc23, nc35, nc47, nc59, nc60, nc61, nc73, nc74, nc214, nc215, nc1115, nc2230, nc3345, if_true, if_false, Int.reduceToNat, hc1.k6, hc1.r5, hc1.r8, ha1.k, wk1, tk1, e2]
        rw [st]
        have wv3 : WV h2 w (dds S rm nb t').1 := wv2.ag r2.as.ag g.1
        have ej := c_joinedIn (d := d + 4) wv3 hv2 r1
        have sec28 : hI h2 28 2 = (dds S rm nb t').1 60 := hv2.2.2.1
        have sec26 : hI h2 26 2 = S 60 := hvB.2.2.1
        have hd : ∀ b : Int, (b = 0 ∨ b = 1) → (b = 0 ↔ (dds S rm nb t').2.2 = 0) → EX (d+6) m_Hook_judge 75 [(0, .inr (.inr (6))), (2, .inl (u)), (3, .inr (.inr (33 + 2 * t'))), (4, .inl ((dds S rm nb t').2.1))] [.inl (b)] (h2) = some (.inl (if u = 0 then (if (dds S rm nb t').2.2 = 0 then -1 else (dds S rm nb t').2.1) else if u = 1 then (dds S rm nb t').2.2 else if u = 2 then (dds S rm nb t').1 60 - S 60 else jnM (dds S rm nb t').1), h2) := fun b hb hb2 => by
          by_cases u0 : u = 0
          · rw [if_pos u0]
            rcases hb with z | z <;> subst z
            · rw [if_pos (hb2.mp rfl)]
              simp (disch := omega) only [Hook_judge_75, Hook_judge_104, Hook_judge_114, Hook_judge_115, wr_id, ix_id, okx, if_pos, if_neg, Int.toNat_of_nonneg, bak_v, bak_n, wr_b01, wr_bt, b01_or, b01_0, b01_1, lc_lt0, lc_gt0, lc_eq0, wl_wr, wr_wr, wl_id, true_and, and_true, true_or, or_true, not_true_eq_false, not_false_eq_true, nc0, nc1, nc2, nc3, nc4, nc5, nc6, nc7, nc8, nc9, nc10, nc11, nc12, nc13, nc14, nc15, nc16, nc17, nc18, nc19, nc20, nc21, nc22, nc23, nc35, nc47, nc59, nc60, nc61, nc73, nc74, nc214, nc215, nc1115, nc2230, nc3345, if_true, if_false, Int.reduceToNat]
            · rw [if_neg (fun q => by have := hb2.mpr q; omega)]
              simp (disch := omega) only [Hook_judge_75, Hook_judge_104, Hook_judge_109, Hook_judge_115, wr_id, ix_id, okx, if_pos, if_neg, Int.toNat_of_nonneg, bak_v, bak_n, wr_b01, wr_bt, b01_or, b01_0, b01_1, lc_lt0, lc_gt0, lc_eq0, wl_wr, wr_wr, wl_id, true_and, and_true, true_or, or_true, not_true_eq_false, not_false_eq_true, nc0, nc1, nc2, nc3, nc4, nc5, nc6, nc7, nc8, nc9, nc10, nc11, nc12, nc13, nc14, nc15, nc16, nc17, nc18, nc19, nc20, nc21, nc22, nc23, nc35, nc47, nc59, nc60, nc61, nc73, nc74, nc214, nc215, nc1115, nc2230, nc3345, if_true, if_false, Int.reduceToNat]
          · rw [if_neg u0]
            by_cases u1 : u = 1
            · rw [if_pos u1]
              rcases hb with z | z <;> subst z
              · rw [hb2.mp rfl]
                simp (disch := omega) only [Hook_judge_75, Hook_judge_116, Hook_judge_141, Hook_judge_142, wr_id, ix_id, okx, if_pos, if_neg, Int.toNat_of_nonneg, bak_v, bak_n, wr_b01, wr_bt, b01_or, b01_0, b01_1, lc_lt0, lc_gt0, lc_eq0, wl_wr, wr_wr, wl_id, true_and, and_true, true_or, or_true, not_true_eq_false, not_false_eq_true, nc0, nc1, nc2, nc3, nc4, nc5, nc6, nc7, nc8, nc9, nc10, nc11, nc12, nc13, nc14, nc15, nc16, nc17, nc18, nc19, nc20, nc21, nc22, nc23, nc35, nc47, nc59, nc60, nc61, nc73, nc74, nc214, nc215, nc1115, nc2230, nc3345, if_true, if_false, Int.reduceToNat]
              · have ne : ¬ (dds S rm nb t').2.2 = 0 := fun q => by have := hb2.mpr q; omega
                have lt : (dds S rm nb t').2.1 < rm t' := by
                  have : ¬ (dds S rm nb t').2.1 = 0 + ((rm t').toNat : Int) := fun q => ne (r7.mpr q)
                  omega
                have ea := c_at (d := d + 5) hc2 tv2 tg (t := t') (by omega) cm (i := (dds S rm nb t').2.1) (by omega)
                have ew := c_whyNotDeed (d := d + 2) wv3 hv2 r1 (v := nb (40 * t' + (dds S rm nb t').2.1)) (tg.2 _)
                have e3 := rw' ne
                rw [← e3] at ew
                simp (disch := omega) only [Hook_judge_75, Hook_judge_116, Hook_judge_121, wr_id, ix_id, okx, if_pos, if_neg, Int.toNat_of_nonneg, bak_v, bak_n, wr_b01, wr_bt, b01_or, b01_0, b01_1, lc_lt0, lc_gt0, lc_eq0, wl_wr, wr_wr, wl_id, true_and, and_true, true_or, or_true, not_true_eq_false, not_false_eq_true, nc0, nc1, nc2, nc3, nc4, nc5, nc6, nc7, nc8, nc9, nc10, nc11, nc12, nc13, nc14, nc15, nc16, nc17, nc18, nc19, nc20, nc21, nc22, nc23, nc35, nc47, nc59, nc60, nc61, nc73, nc74, nc214, nc215, nc1115, nc2230, nc3345, if_true, if_false, Int.reduceToNat, hc2.k6, hc2.r5, hc2.r8, tk2, wk2, ha2.k, ea]
                simp (disch := omega) only [Hook_judge_135, Hook_judge_138, Hook_judge_142, wr_id, ix_id, okx, if_pos, if_neg, Int.toNat_of_nonneg, bak_v, bak_n, wr_b01, wr_bt, b01_or, b01_0, b01_1, lc_lt0, lc_gt0, lc_eq0, wl_wr, wr_wr, wl_id, true_and, and_true, true_or, or_true, not_true_eq_false, not_false_eq_true, nc0, nc1, nc2, nc3, nc4, nc5, nc6, nc7, nc8, nc9, nc10, nc11, nc12, nc13, nc14, nc15, nc16, nc17, nc18, nc19, nc20, nc21, nc22, nc23, nc35, nc47, nc59, nc60, nc61, nc73, nc74, nc214, nc215, nc1115, nc2230, nc3345, if_true, if_false, Int.reduceToNat, wk2, ha2.k, ew]
            · rw [if_neg u1]
              by_cases u2 : u = 2
              · rw [if_pos u2]
                simp (disch := omega) only [Hook_judge_75, Hook_judge_143, wr_id, ix_id, okx, if_pos, if_neg, Int.toNat_of_nonneg, bak_v, bak_n, wr_b01, wr_bt, b01_or, b01_0, b01_1, lc_lt0, lc_gt0, lc_eq0, wl_wr, wr_wr, wl_id, true_and, and_true, true_or, or_true, not_true_eq_false, not_false_eq_true, nc0, nc1, nc2, nc3, nc4, nc5, nc6, nc7, nc8, nc9, nc10, nc11, nc12, nc13, nc14, nc15, nc16, nc17, nc18, nc19, nc20, nc21, nc22, nc23, nc35, nc47, nc59, nc60, nc61, nc73, nc74, nc214, nc215, nc1115, nc2230, nc3345, if_true, if_false, Int.reduceToNat, hc2.k6, hc2.r7, hc2.r8, ha2.k, haB.k, sec28, sec26]
              · rw [if_neg u2]
                simp (disch := omega) only [Hook_judge_75, Hook_judge_159, Hook_judge_170, wr_id, ix_id, okx, if_pos, if_neg, Int.toNat_of_nonneg, bak_v, bak_n, wr_b01, wr_bt, b01_or, b01_0, b01_1, lc_lt0, lc_gt0, lc_eq0, wl_wr, wr_wr, wl_id, true_and, and_true, true_or, or_true, not_true_eq_false, not_false_eq_true, nc0, nc1, nc2, nc3, nc4, nc5, nc6, nc7, nc8, nc9, nc10, nc11, nc12, nc13, nc14, nc15, nc16, nc17, nc18, nc19, nc20, nc21, nc22, nc23, nc35, nc47, nc59, nc60, nc61, nc73, nc74, nc214, nc215, nc1115, nc2230, nc3345, if_true, if_false, Int.reduceToNat, hc2.k6, hc2.r5, hc2.r8, ha2.k, wk2, ej]
        refine ⟨h2, ?_, cb2, F2⟩
        by_cases cl : (dds S rm nb t').2.1 < rm t'
        · have q : EX (d+6) m_Hook_judge 59 [(0, .inr (.inr (6))), (2, .inl (u)), (3, .inr (.inr (33 + 2 * t')))] [.inl ((dds S rm nb t').2.1)] (h2) = EX (d+6) m_Hook_judge 75 [(0, .inr (.inr (6))), (2, .inl (u)), (3, .inr (.inr (33 + 2 * t'))), (4, .inl ((dds S rm nb t').2.1))] [.inl (1)] (h2) := by
            simp (disch := omega) only [Hook_judge_59, Hook_judge_70, wr_id, ix_id, okx, if_pos, if_neg, Int.toNat_of_nonneg, bak_v, bak_n, wr_b01, wr_bt, b01_or, b01_0, b01_1, lc_lt0, lc_gt0, lc_eq0, wl_wr, wr_wr, wl_id, true_and, and_true, true_or, or_true, not_true_eq_false, not_false_eq_true, nc0, nc1, nc2, nc3, nc4, nc5, nc6, nc7, nc8, nc9, nc10, nc11, nc12, nc13, nc14, nc15, nc16, nc17, nc18, nc19, nc20, nc21, nc22, nc23, nc35, nc47, nc59, nc60, nc61, nc73, nc74, nc214, nc215, nc1115, nc2230, nc3345, if_true, if_false, Int.reduceToNat, tk2, hm2]
          rw [q]
          exact hd 1 (Or.inr rfl) ⟨fun z => by omega, fun z => by have := r7.mp z; omega⟩
        · have q : EX (d+6) m_Hook_judge 59 [(0, .inr (.inr (6))), (2, .inl (u)), (3, .inr (.inr (33 + 2 * t')))] [.inl ((dds S rm nb t').2.1)] (h2) = EX (d+6) m_Hook_judge 75 [(0, .inr (.inr (6))), (2, .inl (u)), (3, .inr (.inr (33 + 2 * t'))), (4, .inl ((dds S rm nb t').2.1))] [.inl (0)] (h2) := by
            simp (disch := omega) only [Hook_judge_59, Hook_judge_74, wr_id, ix_id, okx, if_pos, if_neg, Int.toNat_of_nonneg, bak_v, bak_n, wr_b01, wr_bt, b01_or, b01_0, b01_1, lc_lt0, lc_gt0, lc_eq0, wl_wr, wr_wr, wl_id, true_and, and_true, true_or, or_true, not_true_eq_false, not_false_eq_true, nc0, nc1, nc2, nc3, nc4, nc5, nc6, nc7, nc8, nc9, nc10, nc11, nc12, nc13, nc14, nc15, nc16, nc17, nc18, nc19, nc20, nc21, nc22, nc23, nc35, nc47, nc59, nc60, nc61, nc73, nc74, nc214, nc215, nc1115, nc2230, nc3345, if_true, if_false, Int.reduceToNat, tk2, hm2]
          rw [q]
          exact hd 0 (Or.inl rfl) ⟨fun _ => r7.mpr (by omega), fun _ => rfl⟩
    · have b1 : b01 (0 ≤ t ∧ t < 4) = 0 := by unfold b01; rw [if_neg ct]
      rw [b1] at e0
      have nt : noT rs t = -2 := by unfold noT; simp [ct]
      rw [nt]
      simp only [show ¬ ((-2 : Int) = 0) from by omega, not_false_eq_true, if_true]
      refine ⟨h, ?_, cb, Fr.rf⟩
      simp (disch := omega) only [Hook_judge_0, Hook_judge_4, Hook_judge_16, wr_id, ix_id, okx, if_pos, if_neg, Int.toNat_of_nonneg, bak_v, bak_n, wr_b01, wr_bt, b01_or, b01_0, b01_1, lc_lt0, lc_gt0, lc_eq0, wl_wr, wr_wr, wl_id, true_and, and_true, true_or, or_true, not_true_eq_false, not_false_eq_true, nc0, nc1, nc2, nc3, nc4, nc5, nc6, nc7, nc8, nc9, nc10, nc11, nc12, nc13, nc14, nc15, nc16, nc17, nc18, nc19, nc20, nc21, nc22, nc23, nc35, nc47, nc59, nc60, nc61, nc73, nc74, nc214, nc215, nc1115, nc2230, nc3345, if_true, if_false, Int.reduceToNat, e0]
  · simp only [if_pos cu]
    refine ⟨h, ?_, cb, Fr.rf⟩
    unfold b01 at e0
    by_cases ct : 0 ≤ t ∧ t < 4
    · rw [if_pos ct] at e0
      by_cases c1 : u < 0
      · simp (disch := omega) only [Hook_judge_0, Hook_judge_4, Hook_judge_7, Hook_judge_16, wr_id, ix_id, okx, if_pos, if_neg, Int.toNat_of_nonneg, bak_v, bak_n, wr_b01, wr_bt, b01_or, b01_0, b01_1, lc_lt0, lc_gt0, lc_eq0, wl_wr, wr_wr, wl_id, true_and, and_true, true_or, or_true, not_true_eq_false, not_false_eq_true, nc0, nc1, nc2, nc3, nc4, nc5, nc6, nc7, nc8, nc9, nc10, nc11, nc12, nc13, nc14, nc15, nc16, nc17, nc18, nc19, nc20, nc21, nc22, nc23, nc35, nc47, nc59, nc60, nc61, nc73, nc74, nc214, nc215, nc1115, nc2230, nc3345, if_true, if_false, Int.reduceToNat, e0]
      · simp (disch := omega) only [Hook_judge_0, Hook_judge_4, Hook_judge_7, Hook_judge_11, Hook_judge_16, wr_id, ix_id, okx, if_pos, if_neg, Int.toNat_of_nonneg, bak_v, bak_n, wr_b01, wr_bt, b01_or, b01_0, b01_1, lc_lt0, lc_gt0, lc_eq0, wl_wr, wr_wr, wl_id, true_and, and_true, true_or, or_true, not_true_eq_false, not_false_eq_true, nc0, nc1, nc2, nc3, nc4, nc5, nc6, nc7, nc8, nc9, nc10, nc11, nc12, nc13, nc14, nc15, nc16, nc17, nc18, nc19, nc20, nc21, nc22, nc23, nc35, nc47, nc59, nc60, nc61, nc73, nc74, nc214, nc215, nc1115, nc2230, nc3345, if_true, if_false, Int.reduceToNat, e0]
    · rw [if_neg ct] at e0
      simp (disch := omega) only [Hook_judge_0, Hook_judge_4, Hook_judge_16, wr_id, ix_id, okx, if_pos, if_neg, Int.toNat_of_nonneg, bak_v, bak_n, wr_b01, wr_bt, b01_or, b01_0, b01_1, lc_lt0, lc_gt0, lc_eq0, wl_wr, wr_wr, wl_id, true_and, and_true, true_or, or_true, not_true_eq_false, not_false_eq_true, nc0, nc1, nc2, nc3, nc4, nc5, nc6, nc7, nc8, nc9, nc10, nc11, nc12, nc13, nc14, nc15, nc16, nc17, nc18, nc19, nc20, nc21, nc22, nc23, nc35, nc47, nc59, nc60, nc61, nc73, nc74, nc214, nc215, nc1115, nc2230, nc3345, if_true, if_false, Int.reduceToNat, e0]
theorem pMn.q {w a k : Nat} (z : pMn a k) : pQ w a k := by unfold pMn at z; unfold pQ; omega
theorem cc_mended {d w : Nat} {h : Hp} {S G T rs rm nb : Int → Int} {n fk fp : Int} (cb : CB h w S G T rs rm nb n fk fp) (g : Gd S) {u : Int} (ru : -2147483648 ≤ u ∧ u ≤ 2147483647) : ∃ h', cal (d+7) m_Hook_mended [.inr (.inr (6)), .inl (u)] (h) = some (.inl (ansMend S u), h') ∧ CB h' w S G T rs rm nb n fk fp ∧ Fr pMn h h' := by
  obtain ⟨hc, wv, rv, hv, hs, kj⟩ := cb.1
  have ga := g.a
  have wk := wv.1.k
  have ha := hv.1
  have j0 := cb.2.1.2.2.2.1
  have ar := AR_rng S (-1) (-1)
  show ∃ h', EX (d+6) m_Hook_mended 0 [(0, .inr (.inr (6))), (1, .inl (u))] [] (h) = _ ∧ _
  unfold ansMend
  have st : EX (d+6) m_Hook_mended 0 [(0, .inr (.inr (6))), (1, .inl (u))] [] (h) = EX (d+6) m_Hook_mended 25 [(0, .inr (.inr (6))), (1, .inl (u))] [.inl (b01 (10 ≤ u ∧ u < 10 + S 1))] (h) := by
    by_cases c1 : u < 10
    · have b : b01 (10 ≤ u ∧ u < 10 + S 1) = 0 := by unfold b01; rw [if_neg (by omega)]
      rw [b]
      simp (disch := omega) only [Hook_mended_0, Hook_mended_24, wr_id, ix_id, okx, if_pos, if_neg, Int.toNat_of_nonneg, bak_v, bak_n, wr_b01, wr_bt, b01_or, b01_0, b01_1, lc_lt0, lc_gt0, lc_eq0, wl_wr, wr_wr, wl_id, true_and, and_true, true_or, or_true, not_true_eq_false, not_false_eq_true, nc0, nc1, nc2, nc3, nc4, nc5, nc6, nc7, nc8, nc9, nc10, nc11, nc12, nc13, nc14, nc15, nc16, nc17, nc18, nc19, nc20, nc21, nc22, nc23, nc35, nc47, nc59, nc60, nc61, nc73, nc74, nc214, nc215, nc1115, nc2230, nc3345, if_true, if_false, Int.reduceToNat]
    · have eh := c_isHook (d := d + 5) wv ga (x := u - 10) (by omega)
      by_cases c2 : u < 10 + S 1
      · have b : b01 (10 ≤ u ∧ u < 10 + S 1) = 1 := by unfold b01; rw [if_pos (by omega)]
        have b2 : b01 (0 ≤ u - 10 ∧ u - 10 < S 1) = 1 := by unfold b01; rw [if_pos (by omega)]
        rw [b2] at eh
        rw [b]
        simp (disch := omega) only [Hook_mended_0, Hook_mended_6, Hook_mended_17, Hook_mended_20, wr_id, ix_id, okx, if_pos, if_neg, Int.toNat_of_nonneg, bak_v, bak_n, wr_b01, wr_bt, b01_or, b01_0, b01_1, lc_lt0, lc_gt0, lc_eq0, wl_wr, wr_wr, wl_id, true_and, and_true, true_or, or_true, not_true_eq_false, not_false_eq_true, nc0, nc1, nc2, nc3, nc4, nc5, nc6, nc7, nc8, nc9, nc10, nc11, nc12, nc13, nc14, nc15, nc16, nc17, nc18, nc19, nc20, nc21, nc22, nc23, nc35, nc47, nc59, nc60, nc61, nc73, nc74, nc214, nc215, nc1115, nc2230, nc3345, if_true, if_false, Int.reduceToNat, hc.k6, hc.r5, wk, eh]
      · have b : b01 (10 ≤ u ∧ u < 10 + S 1) = 0 := by unfold b01; rw [if_neg (by omega)]
        have b2 : b01 (0 ≤ u - 10 ∧ u - 10 < S 1) = 0 := by unfold b01; rw [if_neg (by omega)]
        rw [b2] at eh
        rw [b]
        simp (disch := omega) only [Hook_mended_0, Hook_mended_6, Hook_mended_17, Hook_mended_24, wr_id, ix_id, okx, if_pos, if_neg, Int.toNat_of_nonneg, bak_v, bak_n, wr_b01, wr_bt, b01_or, b01_0, b01_1, lc_lt0, lc_gt0, lc_eq0, wl_wr, wr_wr, wl_id, true_and, and_true, true_or, or_true, not_true_eq_false, not_false_eq_true, nc0, nc1, nc2, nc3, nc4, nc5, nc6, nc7, nc8, nc9, nc10, nc11, nc12, nc13, nc14, nc15, nc16, nc17, nc18, nc19, nc20, nc21, nc22, nc23, nc35, nc47, nc59, nc60, nc61, nc73, nc74, nc214, nc215, nc1115, nc2230, nc3345, if_true, if_false, Int.reduceToNat, hc.k6, hc.r5, wk, eh]
  rw [st]
  by_cases cu : (0 ≤ u ∧ u ≤ 1) ∨ (10 ≤ u ∧ u < 10 + S 1)
  · have nu : ¬ ¬ ((0 ≤ u ∧ u ≤ 1) ∨ (10 ≤ u ∧ u < 10 + S 1)) := fun z => z cu
    simp only [if_neg nu]
    obtain ⟨h1, e1, m1, m2, m3, f1⟩ := c_mend (d := d) g ⟨hc, wv, rv, hv⟩ j0
    have hc1 := hc.fr f1
    have cb1 := cb.fr f1 (fun a k z => z.q) (kj.fr f1 (fun a k z => by unfold pMn at z; omega))
    refine ⟨h1, ?_, cb1, f1⟩
    by_cases u0 : u = 0
    · have b : b01 (10 ≤ u ∧ u < 10 + S 1) = 0 := by unfold b01; rw [if_neg (by omega)]
      rw [b, if_pos u0]
      simp (disch := omega) only [Hook_mended_25, Hook_mended_42, wr_id, ix_id, okx, if_pos, if_neg, Int.toNat_of_nonneg, bak_v, bak_n, wr_b01, wr_bt, b01_or, b01_0, b01_1, lc_lt0, lc_gt0, lc_eq0, wl_wr, wr_wr, wl_id, true_and, and_true, true_or, or_true, not_true_eq_false, not_false_eq_true, nc0, nc1, nc2, nc3, nc4, nc5, nc6, nc7, nc8, nc9, nc10, nc11, nc12, nc13, nc14, nc15, nc16, nc17, nc18, nc19, nc20, nc21, nc22, nc23, nc35, nc47, nc59, nc60, nc61, nc73, nc74, nc214, nc215, nc1115, nc2230, nc3345, if_true, if_false, Int.reduceToNat, hc.k6, hc.r5, hc.r7, hc.r15, hc.k64, wk, ha.k, e1]
      simp (disch := omega) only [Hook_mended_57, Hook_mended_74, Hook_mended_78, Hook_mended_95, wr_id, ix_id, okx, if_pos, if_neg, Int.toNat_of_nonneg, bak_v, bak_n, wr_b01, wr_bt, b01_or, b01_0, b01_1, lc_lt0, lc_gt0, lc_eq0, wl_wr, wr_wr, wl_id, true_and, and_true, true_or, or_true, not_true_eq_false, not_false_eq_true, nc0, nc1, nc2, nc3, nc4, nc5, nc6, nc7, nc8, nc9, nc10, nc11, nc12, nc13, nc14, nc15, nc16, nc17, nc18, nc19, nc20, nc21, nc22, nc23, nc35, nc47, nc59, nc60, nc61, nc73, nc74, nc214, nc215, nc1115, nc2230, nc3345, if_true, if_false, Int.reduceToNat, hc1.k6, hc1.r15, hc1.k64, m1]
    · rw [if_neg u0]
      by_cases u1 : u = 1
      · have b : b01 (10 ≤ u ∧ u < 10 + S 1) = 0 := by unfold b01; rw [if_neg (by omega)]
        rw [b, if_pos u1]
        simp (disch := omega) only [Hook_mended_25, Hook_mended_30, Hook_mended_42, wr_id, ix_id, okx, if_pos, if_neg, Int.toNat_of_nonneg, bak_v, bak_n, wr_b01, wr_bt, b01_or, b01_0, b01_1, lc_lt0, lc_gt0, lc_eq0, wl_wr, wr_wr, wl_id, true_and, and_true, true_or, or_true, not_true_eq_false, not_false_eq_true, nc0, nc1, nc2, nc3, nc4, nc5, nc6, nc7, nc8, nc9, nc10, nc11, nc12, nc13, nc14, nc15, nc16, nc17, nc18, nc19, nc20, nc21, nc22, nc23, nc35, nc47, nc59, nc60, nc61, nc73, nc74, nc214, nc215, nc1115, nc2230, nc3345, if_true, if_false, Int.reduceToNat, hc.k6, hc.r5, hc.r7, hc.r15, hc.k64, wk, ha.k, e1]
        simp (disch := omega) only [Hook_mended_57, Hook_mended_74, Hook_mended_88, Hook_mended_95, wr_id, ix_id, okx, if_pos, if_neg, Int.toNat_of_nonneg, bak_v, bak_n, wr_b01, wr_bt, b01_or, b01_0, b01_1, lc_lt0, lc_gt0, lc_eq0, wl_wr, wr_wr, wl_id, true_and, and_true, true_or, or_true, not_true_eq_false, not_false_eq_true, nc0, nc1, nc2, nc3, nc4, nc5, nc6, nc7, nc8, nc9, nc10, nc11, nc12, nc13, nc14, nc15, nc16, nc17, nc18, nc19, nc20, nc21, nc22, nc23, nc35, nc47, nc59, nc60, nc61, nc73, nc74, nc214, nc215, nc1115, nc2230, nc3345, if_true, if_false, Int.reduceToNat, hc1.k6, hc1.r15, hc1.k64, m2]
      · have b : b01 (10 ≤ u ∧ u < 10 + S 1) = 1 := by unfold b01; rw [if_pos (by omega)]
        have m3' := m3 (u - 10).toNat (by omega)
        rw [Int.toNat_of_nonneg (by omega)] at m3'
        rw [b, if_neg u1]
        simp (disch := omega) only [Hook_mended_25, Hook_mended_30, Hook_mended_35, Hook_mended_42, wr_id, ix_id, okx, if_pos, if_neg, Int.toNat_of_nonneg, bak_v, bak_n, wr_b01, wr_bt, b01_or, b01_0, b01_1, lc_lt0, lc_gt0, lc_eq0, wl_wr, wr_wr, wl_id, true_and, and_true, true_or, or_true, not_true_eq_false, not_false_eq_true, nc0, nc1, nc2, nc3, nc4, nc5, nc6, nc7, nc8, nc9, nc10, nc11, nc12, nc13, nc14, nc15, nc16, nc17, nc18, nc19, nc20, nc21, nc22, nc23, nc35, nc47, nc59, nc60, nc61, nc73, nc74, nc214, nc215, nc1115, nc2230, nc3345, if_true, if_false, Int.reduceToNat, hc.k6, hc.r5, hc.r7, hc.r15, hc.k64, wk, ha.k, e1]
        simp (disch := omega) only [Hook_mended_57, Hook_mended_61, wr_id, ix_id, okx, if_pos, if_neg, Int.toNat_of_nonneg, bak_v, bak_n, wr_b01, wr_bt, b01_or, b01_0, b01_1, lc_lt0, lc_gt0, lc_eq0, wl_wr, wr_wr, wl_id, true_and, and_true, true_or, or_true, not_true_eq_false, not_false_eq_true, nc0, nc1, nc2, nc3, nc4, nc5, nc6, nc7, nc8, nc9, nc10, nc11, nc12, nc13, nc14, nc15, nc16, nc17, nc18, nc19, nc20, nc21, nc22, nc23, nc35, nc47, nc59, nc60, nc61, nc73, nc74, nc214, nc215, nc1115, nc2230, nc3345, if_true, if_false, Int.reduceToNat, hc1.k6, hc1.r15, hc1.k64, hc1.r64_0, hc1.k65, hc1.n65, m3']
  · have b : b01 (10 ≤ u ∧ u < 10 + S 1) = 0 := by unfold b01; rw [if_neg (by omega)]
    simp only [if_pos cu]
    refine ⟨h, ?_, cb, Fr.rf⟩
    rw [b]
    simp (disch := omega) only [Hook_mended_25, Hook_mended_30, Hook_mended_35, Hook_mended_39, wr_id, ix_id, okx, if_pos, if_neg, Int.toNat_of_nonneg, bak_v, bak_n, wr_b01, wr_bt, b01_or, b01_0, b01_1, lc_lt0, lc_gt0, lc_eq0, wl_wr, wr_wr, wl_id, true_and, and_true, true_or, or_true, not_true_eq_false, not_false_eq_true, nc0, nc1, nc2, nc3, nc4, nc5, nc6, nc7, nc8, nc9, nc10, nc11, nc12, nc13, nc14, nc15, nc16, nc17, nc18, nc19, nc20, nc21, nc22, nc23, nc35, nc47, nc59, nc60, nc61, nc73, nc74, nc214, nc215, nc1115, nc2230, nc3345, if_true, if_false, Int.reduceToNat]
theorem pEc.q {w a k : Nat} (z : pEc a k) : pQ w a k := by unfold pEc pJ at z; unfold pQ; omega
theorem c_spr_l {d w : Nat} {S : Int → Int} (gd : Gd S) : ∀ i, 0 ≤ i → i ≤ S 1 → ∀ h m, 0 ≤ m → m ≤ i → CR h w → WV h w S → HangAt h 26 → (∀ z : Nat, (z : Int) < S 1 → hI h 63 z = evR S z) → (∀ k : Nat, k < 12 → hI h 27 k = if (k : Int) < i then evR S k else S (61 + k)) → ∃ h', EX (d) m_Hook_spread 30 [(0, .inr (.inr (6))), (1, .inl (m)), (2, .inl (i))] [] (h) = EX (d) m_Hook_spread 89 [(0, .inr (.inr (6))), (1, .inl (m + sm (fun z => b01 (¬ S (61 + z) = evR S z)) i (S 1)))] [] (h') ∧ (∀ k : Nat, k < 12 → hI h' 27 k = if (k : Int) < S 1 then evR S k else S (61 + k)) ∧ Fr (fun a _ => a = 27) h h' := by
  have ga := gd.a
  have gb := gd.b
  refine up_ind (hi := S 1) ?_ ?_
  · intro i hi h0 h1 h m m0 m1 hc wv ha ev hk
    have e : i = S 1 := by omega
    subst e
    refine ⟨h, ?_, hk, Fr.rf⟩
    have wk := wv.1.k
    rw [Hook_spread_30, sm_stop (Int.le_refl _), Int.add_zero]
    simp (disch := omega) only [wr_id, ix_id, okx, if_pos, if_neg, Int.toNat_of_nonneg, bak_v, bak_n, wr_b01, wr_bt, b01_or, b01_0, b01_1, lc_lt0, lc_gt0, lc_eq0, wl_wr, wr_wr, wl_id, true_and, and_true, true_or, or_true, not_true_eq_false, not_false_eq_true, nc0, nc1, nc2, nc3, nc4, nc5, nc6, nc7, nc8, nc9, nc10, nc11, nc12, nc13, nc14, nc15, nc16, nc17, nc18, nc19, nc20, nc21, nc22, nc23, nc35, nc47, nc59, nc60, nc61, nc73, nc74, nc214, nc215, nc1115, nc2230, nc3345, if_true, if_false, Int.reduceToNat, hc.k6, hc.r5, wk, wv.f5]
  · intro i hi ih h0 h1 h m m0 m1 hc wv ha ev hk
    have wk := wv.1.k
    have e63 := ev i.toNat (by omega)
    have e27 := hk i.toNat (by omega)
    rw [Int.toNat_of_nonneg h0] at e63 e27
    rw [if_neg (by omega)] at e27
    have er := evR_rng gd i
    have gr := gd.rg h0 (by omega)
    rw [Hook_spread_30, sm_step hi]
    by_cases c : S (61 + i) = evR S i
    · have b : b01 (¬ S (61 + i) = evR S i) = 0 := by unfold b01; rw [if_neg (fun z => z c)]
      rw [b, Int.zero_add]
      obtain ⟨h', e', k', f'⟩ := ih (by omega) (by omega) h m m0 (by omega) hc wv ha ev (fun k kk => by
        rw [hk k kk]
        by_cases q : (k : Int) < i
        · rw [if_pos q, if_pos (by omega)]
        · rw [if_neg q]
          by_cases q2 : (k : Int) = i
          · rw [if_pos (by omega), q2, c]
          · rw [if_neg (by omega)])
      refine ⟨h', ?_, k', f'⟩
      simp (disch := omega) only [Hook_spread_41, Hook_spread_83, wr_id, ix_id, okx, if_pos, if_neg, Int.toNat_of_nonneg, bak_v, bak_n, wr_b01, wr_bt, b01_or, b01_0, b01_1, lc_lt0, lc_gt0, lc_eq0, wl_wr, wr_wr, wl_id, true_and, and_true, true_or, or_true, not_true_eq_false, not_false_eq_true, nc0, nc1, nc2, nc3, nc4, nc5, nc6, nc7, nc8, nc9, nc10, nc11, nc12, nc13, nc14, nc15, nc16, nc17, nc18, nc19, nc20, nc21, nc22, nc23, nc35, nc47, nc59, nc60, nc61, nc73, nc74, nc214, nc215, nc1115, nc2230, nc3345, if_true, if_false, Int.reduceToNat, hc.k6, hc.r5, hc.r7, hc.r14, hc.k60, hc.r60_4, hc.k63, hc.n63, wk, wv.f5, ha.k, ha.r, ha.k1, ha.n1, e63, e27]
      exact e'
    · have b : b01 (¬ S (61 + i) = evR S i) = 1 := by unfold b01; rw [if_pos c]
      rw [b]
      have f0 : Fr (fun a _ => a = 27) h (pI h 27 i.toNat (evR S i)) := Fr.pI Fr.rf rfl
      have hc1 := hc.fr f0
      obtain ⟨h', e', k', f'⟩ := ih (by omega) (by omega) (pI h 27 i.toNat (evR S i)) (m + 1) (by omega) (by omega) hc1 (wv.fr f0 (fun c k c1 c2 => by have := hc.wd; omega)) (ha.fr f0) (fun z hz => by rw [f0.I (by omega)]; exact ev z hz) (fun k kk => by
        rw [hI_pI]
        by_cases q2 : (k : Int) = i
        · rw [if_pos ⟨rfl, by omega⟩, if_pos (by omega), q2]
        · rw [if_neg (by omega), hk k kk]
          by_cases q : (k : Int) < i
          · rw [if_pos q, if_pos (by omega)]
          · rw [if_neg q, if_neg (by omega)])
      refine ⟨h', ?_, k', f0.tr f'⟩
      rw [show m + (1 + sm (fun z => b01 (¬ S (61 + z) = evR S z)) (i + 1) (S 1)) = m + 1 + sm (fun z => b01 (¬ S (61 + z) = evR S z)) (i + 1) (S 1) by omega]
      simp (disch := omega) only [Hook_spread_41, Hook_spread_62, Hook_spread_80, Hook_spread_83, wr_id, ix_id, okx, if_pos, if_neg, Int.toNat_of_nonneg, bak_v, bak_n, wr_b01, wr_bt, b01_or, b01_0, b01_1, lc_lt0, lc_gt0, lc_eq0, wl_wr, wr_wr, wl_id, true_and, and_true, true_or, or_true, not_true_eq_false, not_false_eq_true, nc0, nc1, nc2, nc3, nc4, nc5, nc6, nc7, nc8, nc9, nc10, nc11, nc12, nc13, nc14, nc15, nc16, nc17, nc18, nc19, nc20, nc21, nc22, nc23, nc35, nc47, nc59, nc60, nc61, nc73, nc74, nc214, nc215, nc1115, nc2230, nc3345, if_true, if_false, Int.reduceToNat, hc.k6, hc.r5, hc.r7, hc.r14, hc.k60, hc.r60_4, hc.k63, hc.n63, wk, wv.f5, ha.k, ha.r, ha.k1, ha.n1, e63, e27]
      exact e'
def pSp (a k : Nat) : Prop := pEc a k ∨ pDd a k
theorem cc_spread {d w : Nat} {h : Hp} {S G T rs rm nb : Int → Int} {n fk fp : Int} (cb : CB h w S G T rs rm nb n fk fp) (g : Gd S) : ∃ h', cal (d+5) m_Hook_spread [.inr (.inr (6))] (h) = some (.inl (spN S), h') ∧ CB h' w (rowSpr S) G T rs rm nb n fk fp ∧ Fr pSp h h' := by
  obtain ⟨hc, wv, rv, hv, hs, kj⟩ := cb.1
  have wd := hc.wd
  have wk := wv.1.k
  have ha := hv.1
  have sr := spN_rng g
  obtain ⟨h1, e1, j1, j2, j3, j4, f1⟩ := c_evenFor (d := d) g ⟨hc, wv⟩ kj.1 kj.2
  have kj1 : KJ h1 S := ⟨Or.inr ⟨j1, j2⟩, Or.inr ⟨j3, j4⟩⟩
  have cb1 := cb.fr f1 (fun a k z => z.q) kj1
  obtain ⟨hc1, wv1, rv1, hv1, hs1, -⟩ := cb1.1
  obtain ⟨h2, e2, hv2, f2⟩ := c_takeFrom (d := d + 3) (a := 28) (b := 26) (hc1.2.2.2.2.2.2.2.1.2.1) hv1 (by omega)
  have hc2 := hc1.fr f2
  have wv2 := wv1.fr f2 (fun c k c1 c2 => by omega)
  have hvA := hv1.fr f2 (by omega) (by omega)
  obtain ⟨h3, e3, k3, f3⟩ := c_spr_l (d := d + 4) g 0 (by omega) (by have := g.a; omega) h2 0 (by omega) (by omega) hc2 wv2 hvA.1 (fun z hz => by rw [f2.I (by omega)]; exact j4.1 z hz) (fun k kk => by rw [if_neg (by omega)]; exact hvA.2.2.2 k kk)
  rw [Int.zero_add] at e3
  have hc3 := hc2.fr f3
  have hv3 : HV h3 26 (spS S) := ⟨hvA.1.fr f3, by rw [f3.I (by omega)]; have := hvA.2.1; unfold spS; rw [if_neg (by omega)]; exact this, by rw [f3.I (by omega)]; have := hvA.2.2.1; unfold spS; rw [if_neg (by omega)]; exact this, fun k kk => by
    show hI h3 27 k = _
    rw [k3 k kk]
    unfold spS
    by_cases q : (k : Int) < S 1
    · rw [if_pos q, if_pos (by omega), show 61 + (k : Int) - 61 = k by omega]
    · rw [if_neg q, if_neg (by omega)]⟩
  have hv28 := hv2.fr f3 (by omega) (by omega)
  have hs3 := (hs1.fr f2 (by omega) (by omega)).fr f3 (by omega) (by omega)
  have G3 : Fr pDd h1 h3 := (f2.mo (fun a k z => by unfold pDd; omega)).tr (f3.mo (fun a k z => by unfold pDd; omega))
  have F3 : Fr pSp h h3 := (f1.mo (fun a k z => Or.inl z)).tr (G3.mo (fun a k z => Or.inr z))
  have a28 : sK h1 28 = 0 := (hc1.2.2.2.2.2.2.2.1.2.1).1
  have a26 := hv1.1.k
  have st : cal (d+5) m_Hook_spread [.inr (.inr (6))] (h) = EX (d+4) m_Hook_spread 89 [(0, .inr (.inr (6))), (1, .inl (spN S))] [] (h3) := by
    show EX (d+4) m_Hook_spread 0 [(0, .inr (.inr (6)))] [] (h) = _
    simp (disch := omega) only [Hook_spread_0, wr_id, ix_id, okx, if_pos, if_neg, Int.toNat_of_nonneg, bak_v, bak_n, wr_b01, wr_bt, b01_or, b01_0, b01_1, lc_lt0, lc_gt0, lc_eq0, wl_wr, wr_wr, wl_id, true_and, and_true, true_or, or_true, not_true_eq_false, not_false_eq_true, nc0, nc1, nc2, nc3, nc4, nc5, nc6, nc7, nc8, nc9, nc10, nc11, nc12, nc13, nc14, nc15, nc16, nc17, nc18, nc19, nc20, nc21, nc22, nc23, nc35, nc47, nc59, nc60, nc61, nc73, nc74, nc214, nc215, nc1115, nc2230, nc3345, if_true, if_false, Int.reduceToNat, hc.k6, hc.r5, hc.r14, hc.r17, hc.k60, hc.k70, wk, e1]
    simp (disch := omega) only [Hook_spread_15, wr_id, ix_id, okx, if_pos, if_neg, Int.toNat_of_nonneg, bak_v, bak_n, wr_b01, wr_bt, b01_or, b01_0, b01_1, lc_lt0, lc_gt0, lc_eq0, wl_wr, wr_wr, wl_id, true_and, and_true, true_or, or_true, not_true_eq_false, not_false_eq_true, nc0, nc1, nc2, nc3, nc4, nc5, nc6, nc7, nc8, nc9, nc10, nc11, nc12, nc13, nc14, nc15, nc16, nc17, nc18, nc19, nc20, nc21, nc22, nc23, nc35, nc47, nc59, nc60, nc61, nc73, nc74, nc214, nc215, nc1115, nc2230, nc3345, if_true, if_false, Int.reduceToNat, hc1.k6, hc1.r7, hc1.r8, a26, a28, e2]
    simp (disch := omega) only [Hook_spread_26, wr_id, ix_id, okx, if_pos, if_neg, Int.toNat_of_nonneg, bak_v, bak_n, wr_b01, wr_bt, b01_or, b01_0, b01_1, lc_lt0, lc_gt0, lc_eq0, wl_wr, wr_wr, wl_id, true_and, and_true, true_or, or_true, not_true_eq_false, not_false_eq_true, nc0, nc1, nc2, nc3, nc4, nc5, nc6, nc7, nc8, nc9, nc10, nc11, nc12, nc13, nc14, nc15, nc16, nc17, nc18, nc19, nc20, nc21, nc22, nc23, nc35, nc47, nc59, nc60, nc61, nc73, nc74, nc214, nc215, nc1115, nc2230, nc3345, if_true, if_false, Int.reduceToNat]
    exact e3
  rw [st]
  unfold rowSpr
  by_cases c : 0 < spN S
  · simp only [if_pos c]
    obtain ⟨h4, e4, hs4, f4⟩ := c_push (d := d + 2) (b := 28) hs3 hv28 (by omega)
    have G4 : Fr pDd h1 h4 := G3.tr (f4.mo (fun a k z => by unfold pDd; omega))
    refine ⟨h4, ?_, cb1.deed g hs.2.2.1 G4 (fun a k z => z) (hv3.fr f4 (by omega) (by omega)) hs4 (spS_ah g), F3.tr (f4.mo (fun a k z => by unfold pSp pDd; omega))⟩
    have k30 := hs3.1.1
    have k28 := hv28.1.k
    simp (disch := omega) only [Hook_spread_89, Hook_spread_93, Hook_spread_104, wr_id, ix_id, okx, if_pos, if_neg, Int.toNat_of_nonneg, bak_v, bak_n, wr_b01, wr_bt, b01_or, b01_0, b01_1, lc_lt0, lc_gt0, lc_eq0, wl_wr, wr_wr, wl_id, true_and, and_true, true_or, or_true, not_true_eq_false, not_false_eq_true, nc0, nc1, nc2, nc3, nc4, nc5, nc6, nc7, nc8, nc9, nc10, nc11, nc12, nc13, nc14, nc15, nc16, nc17, nc18, nc19, nc20, nc21, nc22, nc23, nc35, nc47, nc59, nc60, nc61, nc73, nc74, nc214, nc215, nc1115, nc2230, nc3345, if_true, if_false, Int.reduceToNat, hc3.k6, hc3.r8, hc3.r9, k30, k28, e4]
  · simp only [if_neg c]
    have e0 : spN S = 0 := by omega
    have eS := spN_0 g e0
    refine ⟨h3, ?_, cb1.row g G3 (fun a k z => z) (by rw [eS] at hv3; exact hv3) hs3 As.rf, F3⟩
    rw [e0]
    simp (disch := omega) only [Hook_spread_89, Hook_spread_104, wr_id, ix_id, okx, if_pos, if_neg, Int.toNat_of_nonneg, bak_v, bak_n, wr_b01, wr_bt, b01_or, b01_0, b01_1, lc_lt0, lc_gt0, lc_eq0, wl_wr, wr_wr, wl_id, true_and, and_true, true_or, or_true, not_true_eq_false, not_false_eq_true, nc0, nc1, nc2, nc3, nc4, nc5, nc6, nc7, nc8, nc9, nc10, nc11, nc12, nc13, nc14, nc15, nc16, nc17, nc18, nc19, nc20, nc21, nc22, nc23, nc35, nc47, nc59, nc60, nc61, nc73, nc74, nc214, nc215, nc1115, nc2230, nc3345, if_true, if_false, Int.reduceToNat]
