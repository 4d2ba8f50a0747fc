/-! the class's calls: judge, mended, spread, trays, images -/
theorem whyD_rng (S : Int → Int) (v : Int) : 0 ≤ whyD S v ∧ whyD S v ≤ 4 := by
  unfold whyD
  split
  · exact whyM_rng _ _ _
  · split
    · unfold offM; repeat' split <;> omega
    · omega
theorem runD_why (T : Int → Int) : ∀ (n : Nat) (k : Int) (S : Int → Int), ¬ (runD T n k S).2.2 = 0 → (runD T n k S).2.2 = whyD (runD T n k S).1 (T (runD T n k S).2.1) := by
  intro n
  induction n with
  | zero => intro k S h; exact absurd rfl h
  | succ n ih =>
    intro k S h
    simp only [runD] at h ⊢
    by_cases c : whyD S (T k) = 0
    · rw [if_pos c] at h ⊢
      exact ih _ _ h
    · rw [if_neg c] at h ⊢
theorem cc_judge {d w : Nat} {h : Hp} {S G T rs rm nb : Int → Int} {n fk fp : Int} (cb : CB h w S G T rs rm nb n fk fp) (g : Gd S) (tg : TG rs rm nb) {t u : Int} (rt : -2147483648 ≤ t ∧ t ≤ 2147483647) (ru : -2147483648 ≤ u ∧ u ≤ 2147483647) : ∃ h', cal (d+7) m_Hook_judge [.inr (.inr (6)), .inl (t), .inl (u)] (h) = some (.inl (ansJudge S rs rm nb t u), h') ∧ CB h' w S G T rs rm nb n fk fp ∧ Fr pDd h h' := by
  obtain ⟨hc, wv, rv, hv, hs, kj⟩ := cb.1
  have tv := cb.2.1.1
  have wd := hc.wd
  have wk := wv.1.k
  have ha := hv.1
  have e0 := c_isTray (d := d + 5) (h := h) rt
  show ∃ h', EX (d+6) m_Hook_judge 0 [(0, .inr (.inr (6))), (1, .inl (t)), (2, .inl (u))] [] (h) = _ ∧ _
  unfold ansJudge
  by_cases cu : 0 ≤ u ∧ u ≤ 3
  · have nu : ¬ ¬ (0 ≤ u ∧ u ≤ 3) := fun z => z cu
    simp only [if_neg nu]
    by_cases ct : 0 ≤ t ∧ t < 4
    · have b1 : b01 (0 ≤ t ∧ t < 4) = 1 := by unfold b01; rw [if_pos ct]
      rw [b1] at e0
      obtain ⟨t', rfl⟩ := Int.eq_ofNat_of_zero_le ct.1
      have tq := (hc.2.2.2.2.2.1 t' (by omega))
      have tr := tq.1
      have tk := tq.2.1
      have ix' : (((t' : Nat) : Int)).toNat = t' := by omega
      have em := c_isMissing (d := d + 5) hc tv tg (t := t') (by omega)
      by_cases cm : rs t' = -1
      · have nt : noT rs t' = -6 := by unfold noT; simp [ct, cm]
        have bm : b01 (rs t' = -1) = 1 := by unfold b01; rw [if_pos cm]
        rw [bm] at em
        rw [nt]
        simp only [show ¬ ((-6 : Int) = 0) from by omega, not_false_eq_true, if_true]
        refine ⟨h, ?_, cb, Fr.rf⟩
        simp (disch := omega) only [Hook_judge_0, Hook_judge_4, Hook_judge_7, Hook_judge_11, Hook_judge_19, Hook_judge_30, Hook_judge_33, wr_id, ix_id, okx, if_pos, if_neg, Int.toNat_of_nonneg, bak_v, bak_n, wr_b01, wr_bt, b01_or, b01_0, b01_1, lc_lt0, lc_gt0, lc_eq0, wl_wr, wr_wr, wl_id, true_and, and_true, true_or, or_true, not_true_eq_false, not_false_eq_true, nc0, nc1, nc2, nc3, nc4, nc5, nc6, nc7, nc8, nc9, nc10, nc11, nc12, nc13, nc14, nc15, nc16, nc17, nc18, nc19, nc20, nc21, nc22, nc23, nc35, nc47, nc59, nc60, nc61, nc73, nc74, nc214, nc215, nc1115, nc2230, nc3345, if_true, if_false, Int.reduceToNat, hc.k6, hc.r10, hc.k32, hc.n32, ix', tr, tk, e0, em]
      · have nt : noT rs t' = 0 := by unfold noT; simp [ct, cm]
        have bm : b01 (rs t' = -1) = 0 := by unfold b01; rw [if_neg cm]
        rw [bm] at em
        have nn : ¬ ¬ noT rs t' = 0 := fun z => z nt
        simp only [if_neg nn]
        obtain ⟨h1, e1, hv1, f1⟩ := c_takeFrom (d := d + 5) (a := 28) (b := 26) (hc.2.2.2.2.2.2.2.1.2.1) hv (by omega)
        have hc1 := hc.fr f1
        have wv1 := wv.fr f1 (fun c k c1 c2 => by omega)
        have hvA := hv.fr f1 (by omega) (by omega)
        have tv1 := tv.fr f1 (by omega)
        obtain ⟨h2, e2, hv2, f2⟩ := c_doDeeds (d := d) (a := 28) (t := t') tg (by omega) cm (by omega) wd hc1 tv1 wv1 hv1 g
        have hc2 := hc1.fr f2
        have wv2 := wv1.fr f2 (fun c k c1 c2 => by omega)
        have hvB := hvA.fr f2 (by omega) (by omega)
        have tv2 := tv1.fr f2 (by omega)
        obtain ⟨r1, r2, r3, r4, r5, r6, r7⟩ := runD_ok (fun k => nb (40 * t' + k)) (rm t').toNat 0 S g
        have rw' := runD_why (fun k => nb (40 * t' + k)) (rm t').toNat 0 S
        have gt := tg.1 t' (by omega) (by omega)
        have F2 : Fr pDd h h2 := (f1.mo (fun a k z => by unfold pDd; omega)).tr (f2.mo (fun a k z => by unfold pDd; omega))
        have a28 : sK h 28 = 0 := (hc.2.2.2.2.2.2.2.1.2.1).1
        have ha1 := hv1.1
        have wk1 := wv1.1.k
        have wk2 := wv2.1.k
        have ha2 := hv2.1
        have haB := hvB.1
        have tq1 := (hc1.2.2.2.2.2.1 t' (by omega))
        have tk1 := tq1.2.1
        have tk2 := (hc2.2.2.2.2.2.1 t' (by omega)).2.1
        have hm2 : hI h2 (33 + 2 * t') 2 = rm t' := ((tv2 t' (by omega)).2 cm).1
        have cb2 : CB h2 w S G T rs rm nb n fk fp := cb.row g F2 (fun a k z => z) hvB ((hs.fr f1 (by omega) (by omega)).fr f2 (by omega) (by omega)) As.rf
        have E1 : dds S rm nb t' = runD (fun k => nb (40 * t' + k)) (rm t').toNat 0 S := rfl
        rw [← E1] at r1 r2 r3 r4 r5 r6 r7 rw' e2 hv2
        have st : EX (d+6) m_Hook_judge 0 [(0, .inr (.inr (6))), (1, .inl ((t' : Int))), (2, .inl (u))] [] (h) = EX (d+6) m_Hook_judge 59 [(0, .inr (.inr (6))), (2, .inl (u)), (3, .inr (.inr (33 + 2 * t')))] [.inl ((dds S rm nb t').2.1)] (h2) := by
          simp (disch := omega) only [Hook_judge_0, Hook_judge_4, Hook_judge_7, Hook_judge_11, Hook_judge_19, Hook_judge_30, Hook_judge_36, wr_id, ix_id, okx, if_pos, if_neg, Int.toNat_of_nonneg, bak_v, bak_n, wr_b01, wr_bt, b01_or, b01_0, b01_1, lc_lt0, lc_gt0, lc_eq0, wl_wr, wr_wr, wl_id, true_and, and_true, true_or, or_true, not_true_eq_false, not_false_eq_true, nc0, nc1, nc2, nc3, nc4, nc5, nc6, nc7, nc8, nc9, nc10, nc11, nc12, nc13, nc14, nc15, nc16, nc17, nc18, nc19, nc20, nc21, nc22, nc23, nc35, nc47, nc59, nc60, nc61, nc73, nc74, nc214, nc215, nc1115, nc2230, nc3345, if_true, if_false, Int.reduceToNat, hc.k6, hc.r7, hc.r8, hc.r10, hc.k32, hc.n32, ix', tr, tk, e0, em, ha.k, a28, e1]
          simp (disch := omega) only [Hook_judge_47, wr_id, ix_id, okx, if_pos, if_neg, Int.toNat_of_nonneg, bak_v, bak_n, wr_b01, wr_bt, b01_or, b01_0, b01_1, lc_lt0, lc_gt0, lc_eq0, wl_wr, wr_wr, wl_id, true_and, and_true, true_or, or_true, not_true_eq_false, not_false_eq_true, nc0, nc1, nc2, nc3, nc4, nc5, nc6, nc7, nc8, nc9, nc10, nc11, nc12, nc13, nc14, nc15, nc16, nc17, nc18, nc19, nc20, nc21, nc22, nc23, nc35, nc47, nc59, nc60, nc61, nc73, nc74, nc214, nc215, nc1115, nc2230, nc3345, if_true, if_false, Int.reduceToNat, hc1.k6, hc1.r5, hc1.r8, ha1.k, wk1, tk1, e2]
        rw [st]
        have ej := c_joinedIn (d := d + 4) wv2 hv2 r1
        have sec28 : hI h2 28 2 = (dds S rm nb t').1 60 := hv2.2.2.1
        have sec26 : hI h2 26 2 = S 60 := hvB.2.2.1
        have hd : ∀ b : Int, (b = 0 ∨ b = 1) → (b = 0 ↔ (dds S rm nb t').2.2 = 0) → EX (d+6) m_Hook_judge 75 [(0, .inr (.inr (6))), (2, .inl (u)), (3, .inr (.inr (33 + 2 * t'))), (4, .inl ((dds S rm nb t').2.1))] [.inl (b)] (h2) = some (.inl (if u = 0 then (if (dds S rm nb t').2.2 = 0 then -1 else (dds S rm nb t').2.1) else if u = 1 then (dds S rm nb t').2.2 else if u = 2 then (dds S rm nb t').1 60 - S 60 else jnM (dds S rm nb t').1), h2) := fun b hb hb2 => by
          by_cases u0 : u = 0
          · rw [if_pos u0]
            rcases hb with z | z <;> subst z
            · rw [if_pos (hb2.mp rfl)]
              simp (disch := omega) only [Hook_judge_75, Hook_judge_104, Hook_judge_114, Hook_judge_115, wr_id, ix_id, okx, if_pos, if_neg, Int.toNat_of_nonneg, bak_v, bak_n, wr_b01, wr_bt, b01_or, b01_0, b01_1, lc_lt0, lc_gt0, lc_eq0, wl_wr, wr_wr, wl_id, true_and, and_true, true_or, or_true, not_true_eq_false, not_false_eq_true, nc0, nc1, nc2, nc3, nc4, nc5, nc6, nc7, nc8, nc9, nc10, nc11, nc12, nc13, nc14, nc15, nc16, nc17, nc18, nc19, nc20, nc21, nc22, nc23, nc35, nc47, nc59, nc60, nc61, nc73, nc74, nc214, nc215, nc1115, nc2230, nc3345, if_true, if_false, Int.reduceToNat]
            · rw [if_neg (fun q => by have := hb2.mpr q; omega)]
              simp (disch := omega) only [Hook_judge_75, Hook_judge_104, Hook_judge_109, Hook_judge_115, wr_id, ix_id, okx, if_pos, if_neg, Int.toNat_of_nonneg, bak_v, bak_n, wr_b01, wr_bt, b01_or, b01_0, b01_1, lc_lt0, lc_gt0, lc_eq0, wl_wr, wr_wr, wl_id, true_and, and_true, true_or, or_true, not_true_eq_false, not_false_eq_true, nc0, nc1, nc2, nc3, nc4, nc5, nc6, nc7, nc8, nc9, nc10, nc11, nc12, nc13, nc14, nc15, nc16, nc17, nc18, nc19, nc20, nc21, nc22, nc23, nc35, nc47, nc59, nc60, nc61, nc73, nc74, nc214, nc215, nc1115, nc2230, nc3345, if_true, if_false, Int.reduceToNat]
          · rw [if_neg u0]
            by_cases u1 : u = 1
            · rw [if_pos u1]
              rcases hb with z | z <;> subst z
              · rw [hb2.mp rfl]
                simp (disch := omega) only [Hook_judge_75, Hook_judge_116, Hook_judge_141, Hook_judge_142, wr_id, ix_id, okx, if_pos, if_neg, Int.toNat_of_nonneg, bak_v, bak_n, wr_b01, wr_bt, b01_or, b01_0, b01_1, lc_lt0, lc_gt0, lc_eq0, wl_wr, wr_wr, wl_id, true_and, and_true, true_or, or_true, not_true_eq_false, not_false_eq_true, nc0, nc1, nc2, nc3, nc4, nc5, nc6, nc7, nc8, nc9, nc10, nc11, nc12, nc13, nc14, nc15, nc16, nc17, nc18, nc19, nc20, nc21, nc22, nc23, nc35, nc47, nc59, nc60, nc61, nc73, nc74, nc214, nc215, nc1115, nc2230, nc3345, if_true, if_false, Int.reduceToNat]
              · have ne : ¬ (dds S rm nb t').2.2 = 0 := fun q => by have := hb2.mpr q; omega
                have lt : (dds S rm nb t').2.1 < rm t' := by
                  have : ¬ (dds S rm nb t').2.1 = 0 + ((rm t').toNat : Int) := fun q => ne (r7.mpr q)
                  omega
                have ea := c_at (d := d + 5) hc2 tv2 tg (t := t') (by omega) cm (i := (dds S rm nb t').2.1) (by omega)
                have ew := c_whyNotDeed (d := d + 2) wv2 hv2 r1 (v := nb (40 * t' + (dds S rm nb t').2.1)) (tg.2 _)
                have e3 := rw' ne
                rw [← e3] at ew
                simp (disch := omega) only [Hook_judge_75, Hook_judge_116, Hook_judge_121, wr_id, ix_id, okx, if_pos, if_neg, Int.toNat_of_nonneg, bak_v, bak_n, wr_b01, wr_bt, b01_or, b01_0, b01_1, lc_lt0, lc_gt0, lc_eq0, wl_wr, wr_wr, wl_id, true_and, and_true, true_or, or_true, not_true_eq_false, not_false_eq_true, nc0, nc1, nc2, nc3, nc4, nc5, nc6, nc7, nc8, nc9, nc10, nc11, nc12, nc13, nc14, nc15, nc16, nc17, nc18, nc19, nc20, nc21, nc22, nc23, nc35, nc47, nc59, nc60, nc61, nc73, nc74, nc214, nc215, nc1115, nc2230, nc3345, if_true, if_false, Int.reduceToNat, hc2.k6, hc2.r5, hc2.r8, tk2, wk2, ha2.k, ea]
                simp (disch := omega) only [Hook_judge_135, Hook_judge_138, Hook_judge_142, wr_id, ix_id, okx, if_pos, if_neg, Int.toNat_of_nonneg, bak_v, bak_n, wr_b01, wr_bt, b01_or, b01_0, b01_1, lc_lt0, lc_gt0, lc_eq0, wl_wr, wr_wr, wl_id, true_and, and_true, true_or, or_true, not_true_eq_false, not_false_eq_true, nc0, nc1, nc2, nc3, nc4, nc5, nc6, nc7, nc8, nc9, nc10, nc11, nc12, nc13, nc14, nc15, nc16, nc17, nc18, nc19, nc20, nc21, nc22, nc23, nc35, nc47, nc59, nc60, nc61, nc73, nc74, nc214, nc215, nc1115, nc2230, nc3345, if_true, if_false, Int.reduceToNat, wk2, ha2.k, ew]
            · rw [if_neg u1]
              by_cases u2 : u = 2
              · rw [if_pos u2]
                simp (disch := omega) only [Hook_judge_75, Hook_judge_143, wr_id, ix_id, okx, if_pos, if_neg, Int.toNat_of_nonneg, bak_v, bak_n, wr_b01, wr_bt, b01_or, b01_0, b01_1, lc_lt0, lc_gt0, lc_eq0, wl_wr, wr_wr, wl_id, true_and, and_true, true_or, or_true, not_true_eq_false, not_false_eq_true, nc0, nc1, nc2, nc3, nc4, nc5, nc6, nc7, nc8, nc9, nc10, nc11, nc12, nc13, nc14, nc15, nc16, nc17, nc18, nc19, nc20, nc21, nc22, nc23, nc35, nc47, nc59, nc60, nc61, nc73, nc74, nc214, nc215, nc1115, nc2230, nc3345, if_true, if_false, Int.reduceToNat, hc2.k6, hc2.r7, hc2.r8, ha2.k, haB.k, sec28, sec26]
              · rw [if_neg u2]
                simp (disch := omega) only [Hook_judge_75, Hook_judge_159, Hook_judge_170, wr_id, ix_id, okx, if_pos, if_neg, Int.toNat_of_nonneg, bak_v, bak_n, wr_b01, wr_bt, b01_or, b01_0, b01_1, lc_lt0, lc_gt0, lc_eq0, wl_wr, wr_wr, wl_id, true_and, and_true, true_or, or_true, not_true_eq_false, not_false_eq_true, nc0, nc1, nc2, nc3, nc4, nc5, nc6, nc7, nc8, nc9, nc10, nc11, nc12, nc13, nc14, nc15, nc16, nc17, nc18, nc19, nc20, nc21, nc22, nc23, nc35, nc47, nc59, nc60, nc61, nc73, nc74, nc214, nc215, nc1115, nc2230, nc3345, if_true, if_false, Int.reduceToNat, hc2.k6, hc2.r5, hc2.r8, ha2.k, wk2, ej]
        refine ⟨h2, ?_, cb2, F2⟩
        by_cases cl : (dds S rm nb t').2.1 < rm t'
        · simp (disch := omega) only [Hook_judge_59, Hook_judge_70, wr_id, ix_id, okx, if_pos, if_neg, Int.toNat_of_nonneg, bak_v, bak_n, wr_b01, wr_bt, b01_or, b01_0, b01_1, lc_lt0, lc_gt0, lc_eq0, wl_wr, wr_wr, wl_id, true_and, and_true, true_or, or_true, not_true_eq_false, not_false_eq_true, nc0, nc1, nc2, nc3, nc4, nc5, nc6, nc7, nc8, nc9, nc10, nc11, nc12, nc13, nc14, nc15, nc16, nc17, nc18, nc19, nc20, nc21, nc22, nc23, nc35, nc47, nc59, nc60, nc61, nc73, nc74, nc214, nc215, nc1115, nc2230, nc3345, if_true, if_false, Int.reduceToNat, tk2, hm2]
          exact hd 1 (Or.inr rfl) ⟨fun z => by omega, fun z => by have := r7.mp z; omega⟩
        · simp (disch := omega) only [Hook_judge_59, Hook_judge_74, wr_id, ix_id, okx, if_pos, if_neg, Int.toNat_of_nonneg, bak_v, bak_n, wr_b01, wr_bt, b01_or, b01_0, b01_1, lc_lt0, lc_gt0, lc_eq0, wl_wr, wr_wr, wl_id, true_and, and_true, true_or, or_true, not_true_eq_false, not_false_eq_true, nc0, nc1, nc2, nc3, nc4, nc5, nc6, nc7, nc8, nc9, nc10, nc11, nc12, nc13, nc14, nc15, nc16, nc17, nc18, nc19, nc20, nc21, nc22, nc23, nc35, nc47, nc59, nc60, nc61, nc73, nc74, nc214, nc215, nc1115, nc2230, nc3345, if_true, if_false, Int.reduceToNat, tk2, hm2]
          exact hd 0 (Or.inl rfl) ⟨fun _ => r7.mpr (by omega), fun _ => rfl⟩
    · have b1 : b01 (0 ≤ t ∧ t < 4) = 0 := by unfold b01; rw [if_neg ct]
      rw [b1] at e0
      have nt : noT rs t = -2 := by unfold noT; simp [ct]
      rw [nt]
      simp only [show ¬ ((-2 : Int) = 0) from by omega, not_false_eq_true, if_true]
      refine ⟨h, ?_, cb, Fr.rf⟩
      simp (disch := omega) only [Hook_judge_0, Hook_judge_4, Hook_judge_16, wr_id, ix_id, okx, if_pos, if_neg, Int.toNat_of_nonneg, bak_v, bak_n, wr_b01, wr_bt, b01_or, b01_0, b01_1, lc_lt0, lc_gt0, lc_eq0, wl_wr, wr_wr, wl_id, true_and, and_true, true_or, or_true, not_true_eq_false, not_false_eq_true, nc0, nc1, nc2, nc3, nc4, nc5, nc6, nc7, nc8, nc9, nc10, nc11, nc12, nc13, nc14, nc15, nc16, nc17, nc18, nc19, nc20, nc21, nc22, nc23, nc35, nc47, nc59, nc60, nc61, nc73, nc74, nc214, nc215, nc1115, nc2230, nc3345, if_true, if_false, Int.reduceToNat, e0]
  · simp only [if_pos cu]
    refine ⟨h, ?_, cb, Fr.rf⟩
    unfold b01 at e0
    by_cases ct : 0 ≤ t ∧ t < 4
    · rw [if_pos ct] at e0
      by_cases c1 : u < 0
      · simp (disch := omega) only [Hook_judge_0, Hook_judge_4, Hook_judge_7, Hook_judge_16, wr_id, ix_id, okx, if_pos, if_neg, Int.toNat_of_nonneg, bak_v, bak_n, wr_b01, wr_bt, b01_or, b01_0, b01_1, lc_lt0, lc_gt0, lc_eq0, wl_wr, wr_wr, wl_id, true_and, and_true, true_or, or_true, not_true_eq_false, not_false_eq_true, nc0, nc1, nc2, nc3, nc4, nc5, nc6, nc7, nc8, nc9, nc10, nc11, nc12, nc13, nc14, nc15, nc16, nc17, nc18, nc19, nc20, nc21, nc22, nc23, nc35, nc47, nc59, nc60, nc61, nc73, nc74, nc214, nc215, nc1115, nc2230, nc3345, if_true, if_false, Int.reduceToNat, e0]
      · simp (disch := omega) only [Hook_judge_0, Hook_judge_4, Hook_judge_7, Hook_judge_11, Hook_judge_16, wr_id, ix_id, okx, if_pos, if_neg, Int.toNat_of_nonneg, bak_v, bak_n, wr_b01, wr_bt, b01_or, b01_0, b01_1, lc_lt0, lc_gt0, lc_eq0, wl_wr, wr_wr, wl_id, true_and, and_true, true_or, or_true, not_true_eq_false, not_false_eq_true, nc0, nc1, nc2, nc3, nc4, nc5, nc6, nc7, nc8, nc9, nc10, nc11, nc12, nc13, nc14, nc15, nc16, nc17, nc18, nc19, nc20, nc21, nc22, nc23, nc35, nc47, nc59, nc60, nc61, nc73, nc74, nc214, nc215, nc1115, nc2230, nc3345, if_true, if_false, Int.reduceToNat, e0]
    · rw [if_neg ct] at e0
      simp (disch := omega) only [Hook_judge_0, Hook_judge_4, Hook_judge_16, wr_id, ix_id, okx, if_pos, if_neg, Int.toNat_of_nonneg, bak_v, bak_n, wr_b01, wr_bt, b01_or, b01_0, b01_1, lc_lt0, lc_gt0, lc_eq0, wl_wr, wr_wr, wl_id, true_and, and_true, true_or, or_true, not_true_eq_false, not_false_eq_true, nc0, nc1, nc2, nc3, nc4, nc5, nc6, nc7, nc8, nc9, nc10, nc11, nc12, nc13, nc14, nc15, nc16, nc17, nc18, nc19, nc20, nc21, nc22, nc23, nc35, nc47, nc59, nc60, nc61, nc73, nc74, nc214, nc215, nc1115, nc2230, nc3345, if_true, if_false, Int.reduceToNat, e0]
theorem pMn.q {w a k : Nat} (z : pMn a k) : pQ w a k := by unfold pMn at z; unfold pQ; omega
theorem cc_mended {d w : Nat} {h : Hp} {S G T rs rm nb : Int → Int} {n fk fp : Int} (cb : CB h w S G T rs rm nb n fk fp) (g : Gd S) {u : Int} (ru : -2147483648 ≤ u ∧ u ≤ 2147483647) : ∃ h', cal (d+7) m_Hook_mended [.inr (.inr (6)), .inl (u)] (h) = some (.inl (ansMend S u), h') ∧ CB h' w S G T rs rm nb n fk fp ∧ Fr pMn h h' := by
  obtain ⟨hc, wv, rv, hv, hs, kj⟩ := cb.1
  have ga := g.a
  have wk := wv.1.k
  have ha := hv.1
  have j0 := cb.2.1.2.2.2.1
  have ar := AR_rng g (x := -1) (r := -1)
  show ∃ h', EX (d+6) m_Hook_mended 0 [(0, .inr (.inr (6))), (1, .inl (u))] [] (h) = _ ∧ _
  unfold ansMend
  have st : EX (d+6) m_Hook_mended 0 [(0, .inr (.inr (6))), (1, .inl (u))] [] (h) = EX (d+6) m_Hook_mended 25 [(0, .inr (.inr (6))), (1, .inl (u))] [.inl (b01 (10 ≤ u ∧ u < 10 + S 1))] (h) := by
    by_cases c1 : u < 10
    · have b : b01 (10 ≤ u ∧ u < 10 + S 1) = 0 := by unfold b01; rw [if_neg (by omega)]
      rw [b]
      simp (disch := omega) only [Hook_mended_0, Hook_mended_24, wr_id, ix_id, okx, if_pos, if_neg, Int.toNat_of_nonneg, bak_v, bak_n, wr_b01, wr_bt, b01_or, b01_0, b01_1, lc_lt0, lc_gt0, lc_eq0, wl_wr, wr_wr, wl_id, true_and, and_true, true_or, or_true, not_true_eq_false, not_false_eq_true, nc0, nc1, nc2, nc3, nc4, nc5, nc6, nc7, nc8, nc9, nc10, nc11, nc12, nc13, nc14, nc15, nc16, nc17, nc18, nc19, nc20, nc21, nc22, nc23, nc35, nc47, nc59, nc60, nc61, nc73, nc74, nc214, nc215, nc1115, nc2230, nc3345, if_true, if_false, Int.reduceToNat]
    · have eh := c_isHook (d := d + 5) wv ga (x := u - 10) (by omega)
      by_cases c2 : u < 10 + S 1
      · have b : b01 (10 ≤ u ∧ u < 10 + S 1) = 1 := by unfold b01; rw [if_pos (by omega)]
        have b2 : b01 (0 ≤ u - 10 ∧ u - 10 < S 1) = 1 := by unfold b01; rw [if_pos (by omega)]
        rw [b2] at eh
        rw [b]
        simp (disch := omega) only [Hook_mended_0, Hook_mended_6, Hook_mended_17, Hook_mended_20, wr_id, ix_id, okx, if_pos, if_neg, Int.toNat_of_nonneg, bak_v, bak_n, wr_b01, wr_bt, b01_or, b01_0, b01_1, lc_lt0, lc_gt0, lc_eq0, wl_wr, wr_wr, wl_id, true_and, and_true, true_or, or_true, not_true_eq_false, not_false_eq_true, nc0, nc1, nc2, nc3, nc4, nc5, nc6, nc7, nc8, nc9, nc10, nc11, nc12, nc13, nc14, nc15, nc16, nc17, nc18, nc19, nc20, nc21, nc22, nc23, nc35, nc47, nc59, nc60, nc61, nc73, nc74, nc214, nc215, nc1115, nc2230, nc3345, if_true, if_false, Int.reduceToNat, hc.k6, hc.r5, wk, eh]
      · have b : b01 (10 ≤ u ∧ u < 10 + S 1) = 0 := by unfold b01; rw [if_neg (by omega)]
        have b2 : b01 (0 ≤ u - 10 ∧ u - 10 < S 1) = 0 := by unfold b01; rw [if_neg (by omega)]
        rw [b2] at eh
        rw [b]
        simp (disch := omega) only [Hook_mended_0, Hook_mended_6, Hook_mended_17, Hook_mended_24, wr_id, ix_id, okx, if_pos, if_neg, Int.toNat_of_nonneg, bak_v, bak_n, wr_b01, wr_bt, b01_or, b01_0, b01_1, lc_lt0, lc_gt0, lc_eq0, wl_wr, wr_wr, wl_id, true_and, and_true, true_or, or_true, not_true_eq_false, not_false_eq_true, nc0, nc1, nc2, nc3, nc4, nc5, nc6, nc7, nc8, nc9, nc10, nc11, nc12, nc13, nc14, nc15, nc16, nc17, nc18, nc19, nc20, nc21, nc22, nc23, nc35, nc47, nc59, nc60, nc61, nc73, nc74, nc214, nc215, nc1115, nc2230, nc3345, if_true, if_false, Int.reduceToNat, hc.k6, hc.r5, wk, eh]
  rw [st]
  by_cases cu : (0 ≤ u ∧ u ≤ 1) ∨ (10 ≤ u ∧ u < 10 + S 1)
  · have nu : ¬ ¬ ((0 ≤ u ∧ u ≤ 1) ∨ (10 ≤ u ∧ u < 10 + S 1)) := fun z => z cu
    simp only [if_neg nu]
    obtain ⟨h1, e1, m1, m2, m3, f1⟩ := c_mend (d := d) g ⟨hc, wv, rv, hv⟩ j0
    have hc1 := hc.fr f1
    have cb1 := cb.fr f1 (fun a k z => z.q) (kj.fr f1 (fun a k z => by unfold pMn at z; omega))
    refine ⟨h1, ?_, cb1, f1⟩
    by_cases u0 : u = 0
    · have b : b01 (10 ≤ u ∧ u < 10 + S 1) = 0 := by unfold b01; rw [if_neg (by omega)]
      rw [b, if_pos u0]
      simp (disch := omega) only [Hook_mended_25, Hook_mended_42, wr_id, ix_id, okx, if_pos, if_neg, Int.toNat_of_nonneg, bak_v, bak_n, wr_b01, wr_bt, b01_or, b01_0, b01_1, lc_lt0, lc_gt0, lc_eq0, wl_wr, wr_wr, wl_id, true_and, and_true, true_or, or_true, not_true_eq_false, not_false_eq_true, nc0, nc1, nc2, nc3, nc4, nc5, nc6, nc7, nc8, nc9, nc10, nc11, nc12, nc13, nc14, nc15, nc16, nc17, nc18, nc19, nc20, nc21, nc22, nc23, nc35, nc47, nc59, nc60, nc61, nc73, nc74, nc214, nc215, nc1115, nc2230, nc3345, if_true, if_false, Int.reduceToNat, hc.k6, hc.r5, hc.r7, hc.r15, hc.k64, wk, ha.k, e1]
      simp (disch := omega) only [Hook_mended_57, Hook_mended_74, Hook_mended_78, Hook_mended_95, wr_id, ix_id, okx, if_pos, if_neg, Int.toNat_of_nonneg, bak_v, bak_n, wr_b01, wr_bt, b01_or, b01_0, b01_1, lc_lt0, lc_gt0, lc_eq0, wl_wr, wr_wr, wl_id, true_and, and_true, true_or, or_true, not_true_eq_false, not_false_eq_true, nc0, nc1, nc2, nc3, nc4, nc5, nc6, nc7, nc8, nc9, nc10, nc11, nc12, nc13, nc14, nc15, nc16, nc17, nc18, nc19, nc20, nc21, nc22, nc23, nc35, nc47, nc59, nc60, nc61, nc73, nc74, nc214, nc215, nc1115, nc2230, nc3345, if_true, if_false, Int.reduceToNat, hc1.k6, hc1.r15, hc1.k64, m1]
    · rw [if_neg u0]
      by_cases u1 : u = 1
      · have b : b01 (10 ≤ u ∧ u < 10 + S 1) = 0 := by unfold b01; rw [if_neg (by omega)]
        rw [b, if_pos u1]
        simp (disch := omega) only [Hook_mended_25, Hook_mended_30, Hook_mended_42, wr_id, ix_id, okx, if_pos, if_neg, Int.toNat_of_nonneg, bak_v, bak_n, wr_b01, wr_bt, b01_or, b01_0, b01_1, lc_lt0, lc_gt0, lc_eq0, wl_wr, wr_wr, wl_id, true_and, and_true, true_or, or_true, not_true_eq_false, not_false_eq_true, nc0, nc1, nc2, nc3, nc4, nc5, nc6, nc7, nc8, nc9, nc10, nc11, nc12, nc13, nc14, nc15, nc16, nc17, nc18, nc19, nc20, nc21, nc22, nc23, nc35, nc47, nc59, nc60, nc61, nc73, nc74, nc214, nc215, nc1115, nc2230, nc3345, if_true, if_false, Int.reduceToNat, hc.k6, hc.r5, hc.r7, hc.r15, hc.k64, wk, ha.k, e1]
        simp (disch := omega) only [Hook_mended_57, Hook_mended_74, Hook_mended_88, Hook_mended_95, wr_id, ix_id, okx, if_pos, if_neg, Int.toNat_of_nonneg, bak_v, bak_n, wr_b01, wr_bt, b01_or, b01_0, b01_1, lc_lt0, lc_gt0, lc_eq0, wl_wr, wr_wr, wl_id, true_and, and_true, true_or, or_true, not_true_eq_false, not_false_eq_true, nc0, nc1, nc2, nc3, nc4, nc5, nc6, nc7, nc8, nc9, nc10, nc11, nc12, nc13, nc14, nc15, nc16, nc17, nc18, nc19, nc20, nc21, nc22, nc23, nc35, nc47, nc59, nc60, nc61, nc73, nc74, nc214, nc215, nc1115, nc2230, nc3345, if_true, if_false, Int.reduceToNat, hc1.k6, hc1.r15, hc1.k64, m2]
      · have b : b01 (10 ≤ u ∧ u < 10 + S 1) = 1 := by unfold b01; rw [if_pos (by omega)]
        have m3' := m3 (u - 10).toNat (by omega)
        rw [Int.toNat_of_nonneg (by omega)] at m3'
        rw [b, if_neg u1]
        simp (disch := omega) only [Hook_mended_25, Hook_mended_30, Hook_mended_35, Hook_mended_42, wr_id, ix_id, okx, if_pos, if_neg, Int.toNat_of_nonneg, bak_v, bak_n, wr_b01, wr_bt, b01_or, b01_0, b01_1, lc_lt0, lc_gt0, lc_eq0, wl_wr, wr_wr, wl_id, true_and, and_true, true_or, or_true, not_true_eq_false, not_false_eq_true, nc0, nc1, nc2, nc3, nc4, nc5, nc6, nc7, nc8, nc9, nc10, nc11, nc12, nc13, nc14, nc15, nc16, nc17, nc18, nc19, nc20, nc21, nc22, nc23, nc35, nc47, nc59, nc60, nc61, nc73, nc74, nc214, nc215, nc1115, nc2230, nc3345, if_true, if_false, Int.reduceToNat, hc.k6, hc.r5, hc.r7, hc.r15, hc.k64, wk, ha.k, e1]
        simp (disch := omega) only [Hook_mended_57, Hook_mended_61, wr_id, ix_id, okx, if_pos, if_neg, Int.toNat_of_nonneg, bak_v, bak_n, wr_b01, wr_bt, b01_or, b01_0, b01_1, lc_lt0, lc_gt0, lc_eq0, wl_wr, wr_wr, wl_id, true_and, and_true, true_or, or_true, not_true_eq_false, not_false_eq_true, nc0, nc1, nc2, nc3, nc4, nc5, nc6, nc7, nc8, nc9, nc10, nc11, nc12, nc13, nc14, nc15, nc16, nc17, nc18, nc19, nc20, nc21, nc22, nc23, nc35, nc47, nc59, nc60, nc61, nc73, nc74, nc214, nc215, nc1115, nc2230, nc3345, if_true, if_false, Int.reduceToNat, hc1.k6, hc1.r15, hc1.k64, hc1.r64_0, hc1.k65, hc1.n65, m3']
  · have b : b01 (10 ≤ u ∧ u < 10 + S 1) = 0 := by unfold b01; rw [if_neg (by omega)]
    simp only [if_pos cu]
    refine ⟨h, ?_, cb, Fr.rf⟩
    rw [b]
    simp (disch := omega) only [Hook_mended_25, Hook_mended_30, Hook_mended_35, Hook_mended_39, wr_id, ix_id, okx, if_pos, if_neg, Int.toNat_of_nonneg, bak_v, bak_n, wr_b01, wr_bt, b01_or, b01_0, b01_1, lc_lt0, lc_gt0, lc_eq0, wl_wr, wr_wr, wl_id, true_and, and_true, true_or, or_true, not_true_eq_false, not_false_eq_true, nc0, nc1, nc2, nc3, nc4, nc5, nc6, nc7, nc8, nc9, nc10, nc11, nc12, nc13, nc14, nc15, nc16, nc17, nc18, nc19, nc20, nc21, nc22, nc23, nc35, nc47, nc59, nc60, nc61, nc73, nc74, nc214, nc215, nc1115, nc2230, nc3345, if_true, if_false, Int.reduceToNat]
