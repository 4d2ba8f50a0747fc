/-! the class's calls: trays, images -/
theorem CB.tr {h h' : Hp} {w : Nat} {S G T rs rm nb rs' rm' nb' : Int → Int} {n fk fp : Int} (c : CB h w S G T rs rm nb n fk fp) {t : Nat} (ht : t < 4) (f : Fr (pTr t) h h') (tv : TV h' rs' rm' nb') : CB h' w S G T rs' rm' nb' n fk fp := by
  obtain ⟨⟨c1, c2, c3, c4, c5, c6⟩, ⟨b1, b2, b3, b4, b5⟩, ci⟩ := c
  have wd := c1.wd
  refine ⟨⟨c1.fr f, c2.fr f (fun a k a0 a1 => by unfold pTr; omega), c3.fr f (fun k => by unfold pTr; omega), c4.fr f (fun k => by unfold pTr; omega) (fun k => by unfold pTr; omega), c5.fr f (fun k => by unfold pTr; omega) (fun k => by unfold pTr; omega), c6.fr f (fun a k z => by unfold pTr at z; omega)⟩, ⟨tv, fun k hk => by rw [f.I (by unfold pTr; omega)]; exact b2 k hk, by rw [f.I (show ¬ pTr t 6 1 by unfold pTr; omega), f.I (show ¬ pTr t 6 3 by unfold pTr; omega), f.I (show ¬ pTr t 6 4 by unfold pTr; omega)]; exact b3, by rw [f.I (by unfold pTr; omega)]; exact b4, b5.fr f (fun a k z => by unfold pTr at z; omega)⟩, fun i hi => ?_⟩
  obtain ⟨i1, i2⟩ := ci i hi
  refine ⟨by rw [f.I (by unfold pTr; omega)]; exact i1, fun z => ?_⟩
  obtain ⟨j1, j2, j3⟩ := i2 z
  exact ⟨j1.fr f (fun a k a0 a1 => by unfold pTr; omega), j2.fr f (fun k => by unfold pTr; omega), j3.fr f (fun k => by unfold pTr; omega) (fun k => by unfold pTr; omega)⟩
/-- what trays may write -/
def pTs (a _k : Nat) : Prop := 33 ≤ a ∧ a ≤ 40
theorem pTr.ts {t a k : Nat} (ht : t < 4) (z : pTr t a k) : pTs a k := by unfold pTr at z; unfold pTs; omega
theorem cc_numbers_ok {d w : Nat} {h : Hp} {S G T rs rm nb : Int → Int} {n fk fp : Int} (cb : CB h w S G T rs rm nb n fk fp) (tg : TG rs rm nb) {t s k : Int} (c : okNum t s k) : ∃ h', cal (d+3) m_Hook_numbers [.inr (.inr (6)), .inl (t), .inl (s), .inl (k)] (h) = some (.inl 0, h') ∧ CB h' w S G T (up rs t s) (up rm t k) (zn nb t k) n fk fp ∧ Fr pTs h h' := by
  obtain ⟨ct, cs, ck⟩ := c
  have hc := cb.1.1
  have tv := cb.2.1.1
  obtain ⟨t', rfl⟩ := Int.eq_ofNat_of_zero_le ct.1
  have e0 := c_isTray (d := d + 1) (h := h) (t := t') (by omega)
  have b1 : b01 (0 ≤ ((t' : Nat) : Int) ∧ ((t' : Nat) : Int) < 4) = 1 := by unfold b01; rw [if_pos ct]
  rw [b1] at e0
  obtain ⟨h1, e1, tv1, f1⟩ := c_make (d := d) (t := t') hc tv tg (by omega) cs ck
  have tq := (hc.2.2.2.2.2.1 t' (by omega))
  have tr := tq.1
  have tk := tq.2.1
  have ix' : (((t' : Nat) : Int)).toNat = t' := by omega
  refine ⟨h1, ?_, cb.tr (by omega) f1 tv1, f1.mo (fun a k z => z.ts (by omega))⟩
  show EX (d+2) m_Hook_numbers 0 [(0, .inr (.inr (6))), (1, .inl ((t' : Int))), (2, .inl (s)), (3, .inl (k))] [] (h) = _
  simp (disch := omega) only [Hook_numbers_0, Hook_numbers_4, Hook_numbers_7, Hook_numbers_11, Hook_numbers_19, Hook_numbers_23, Hook_numbers_32, Hook_numbers_43, wr_id, ix_id, okx, if_pos, if_neg, Int.toNat_of_nonneg, bak_v, bak_n, wr_b01, wr_bt, b01_or, b01_0, b01_1, lc_lt0, lc_gt0, lc_eq0, wl_wr, wr_wr, wl_id, true_and, and_true, true_or, or_true, not_true_eq_false, not_false_eq_true, nc0, nc1, nc2, nc3, nc4, nc5, nc6, nc7, nc8, nc9, nc10, nc11, nc12, nc13, nc14, nc15, nc16, nc17, nc18, nc19, nc20, nc21, nc22, nc23, nc35, nc47, nc59, nc60, nc61, nc73, nc74, nc214, nc215, nc1115, nc2230, nc3345, if_true, if_false, Int.reduceToNat, hc.k6, hc.r10, hc.k32, hc.n32, ix', tr, tk, e0, e1]
theorem cc_numbers_no {d w : Nat} {h : Hp} {S G T rs rm nb : Int → Int} {n fk fp : Int} (cb : CB h w S G T rs rm nb n fk fp) {t s k : Int} (rt : -2147483648 ≤ t ∧ t ≤ 2147483647) (rs' : -2147483648 ≤ s ∧ s ≤ 2147483647) (rk : -2147483648 ≤ k ∧ k ≤ 2147483647) (c : ¬ okNum t s k) : cal (d+3) m_Hook_numbers [.inr (.inr (6)), .inl (t), .inl (s), .inl (k)] (h) = some (.inl (ansNum t s k), h) := by
  have hc := cb.1.1
  have e0 := c_isTray (d := d + 1) (h := h) rt
  show EX (d+2) m_Hook_numbers 0 [(0, .inr (.inr (6))), (1, .inl (t)), (2, .inl (s)), (3, .inl (k))] [] (h) = _
  unfold okNum at c
  unfold ansNum
  unfold b01 at e0
  by_cases ct : 0 ≤ t ∧ t < 4
  · rw [if_pos ct] at e0
    by_cases cs : 0 ≤ s ∧ s ≤ 3
    · rw [if_neg (by omega), if_pos (by omega)]
      by_cases c1 : k < 0
      · simp (disch := omega) only [Hook_numbers_0, Hook_numbers_4, Hook_numbers_7, Hook_numbers_11, Hook_numbers_19, Hook_numbers_29, wr_id, ix_id, okx, if_pos, if_neg, Int.toNat_of_nonneg, bak_v, bak_n, wr_b01, wr_bt, b01_or, b01_0, b01_1, lc_lt0, lc_gt0, lc_eq0, wl_wr, wr_wr, wl_id, true_and, and_true, true_or, or_true, not_true_eq_false, not_false_eq_true, nc0, nc1, nc2, nc3, nc4, nc5, nc6, nc7, nc8, nc9, nc10, nc11, nc12, nc13, nc14, nc15, nc16, nc17, nc18, nc19, nc20, nc21, nc22, nc23, nc35, nc47, nc59, nc60, nc61, nc73, nc74, nc214, nc215, nc1115, nc2230, nc3345, if_true, if_false, Int.reduceToNat, e0]
      · simp (disch := omega) only [Hook_numbers_0, Hook_numbers_4, Hook_numbers_7, Hook_numbers_11, Hook_numbers_19, Hook_numbers_23, Hook_numbers_29, wr_id, ix_id, okx, if_pos, if_neg, Int.toNat_of_nonneg, bak_v, bak_n, wr_b01, wr_bt, b01_or, b01_0, b01_1, lc_lt0, lc_gt0, lc_eq0, wl_wr, wr_wr, wl_id, true_and, and_true, true_or, or_true, not_true_eq_false, not_false_eq_true, nc0, nc1, nc2, nc3, nc4, nc5, nc6, nc7, nc8, nc9, nc10, nc11, nc12, nc13, nc14, nc15, nc16, nc17, nc18, nc19, nc20, nc21, nc22, nc23, nc35, nc47, nc59, nc60, nc61, nc73, nc74, nc214, nc215, nc1115, nc2230, nc3345, if_true, if_false, Int.reduceToNat, e0]
    · rw [if_pos (by omega)]
      by_cases c1 : s < 0
      · simp (disch := omega) only [Hook_numbers_0, Hook_numbers_4, Hook_numbers_7, Hook_numbers_16, wr_id, ix_id, okx, if_pos, if_neg, Int.toNat_of_nonneg, bak_v, bak_n, wr_b01, wr_bt, b01_or, b01_0, b01_1, lc_lt0, lc_gt0, lc_eq0, wl_wr, wr_wr, wl_id, true_and, and_true, true_or, or_true, not_true_eq_false, not_false_eq_true, nc0, nc1, nc2, nc3, nc4, nc5, nc6, nc7, nc8, nc9, nc10, nc11, nc12, nc13, nc14, nc15, nc16, nc17, nc18, nc19, nc20, nc21, nc22, nc23, nc35, nc47, nc59, nc60, nc61, nc73, nc74, nc214, nc215, nc1115, nc2230, nc3345, if_true, if_false, Int.reduceToNat, e0]
      · simp (disch := omega) only [Hook_numbers_0, Hook_numbers_4, Hook_numbers_7, Hook_numbers_11, Hook_numbers_16, wr_id, ix_id, okx, if_pos, if_neg, Int.toNat_of_nonneg, bak_v, bak_n, wr_b01, wr_bt, b01_or, b01_0, b01_1, lc_lt0, lc_gt0, lc_eq0, wl_wr, wr_wr, wl_id, true_and, and_true, true_or, or_true, not_true_eq_false, not_false_eq_true, nc0, nc1, nc2, nc3, nc4, nc5, nc6, nc7, nc8, nc9, nc10, nc11, nc12, nc13, nc14, nc15, nc16, nc17, nc18, nc19, nc20, nc21, nc22, nc23, nc35, nc47, nc59, nc60, nc61, nc73, nc74, nc214, nc215, nc1115, nc2230, nc3345, if_true, if_false, Int.reduceToNat, e0]
  · rw [if_neg ct] at e0
    rw [if_pos (by omega)]
    simp (disch := omega) only [Hook_numbers_0, Hook_numbers_4, Hook_numbers_16, wr_id, ix_id, okx, if_pos, if_neg, Int.toNat_of_nonneg, bak_v, bak_n, wr_b01, wr_bt, b01_or, b01_0, b01_1, lc_lt0, lc_gt0, lc_eq0, wl_wr, wr_wr, wl_id, true_and, and_true, true_or, or_true, not_true_eq_false, not_false_eq_true, nc0, nc1, nc2, nc3, nc4, nc5, nc6, nc7, nc8, nc9, nc10, nc11, nc12, nc13, nc14, nc15, nc16, nc17, nc18, nc19, nc20, nc21, nc22, nc23, nc35, nc47, nc59, nc60, nc61, nc73, nc74, nc214, nc215, nc1115, nc2230, nc3345, if_true, if_false, Int.reduceToNat, e0]
theorem cc_write {d w : Nat} {h : Hp} {S G T rs rm nb : Int → Int} {n fk fp : Int} (cb : CB h w S G T rs rm nb n fk fp) (tg : TG rs rm nb) {t i v : Int} (rt : -2147483648 ≤ t ∧ t ≤ 2147483647) (ri : -2147483648 ≤ i ∧ i ≤ 2147483647) : ∃ h', cal (d+4) m_Hook_write [.inr (.inr (6)), .inl (t), .inl (i), .inr (.inl (v))] (h) = some (.inr (.inl (ansWrite rs rm t i v)), h') ∧ CB h' w S G T rs rm (nbWrite rs rm nb t i v) n fk fp ∧ Fr pTs h h' := by
  have hc := cb.1.1
  have tv := cb.2.1.1
  have e0 := c_trayCode (d := d + 1) hc tv tg rt
  have nr := noT_rng rs t
  show ∃ h', EX (d+3) m_Hook_write 0 [(0, .inr (.inr (6))), (1, .inl (t)), (2, .inl (i)), (3, .inr (.inl (v)))] [] (h) = _ ∧ _
  unfold ansWrite nbWrite
  by_cases c1 : noT rs t = 0
  · have nn : ¬ ¬ noT rs t = 0 := fun z => z c1
    simp only [if_neg nn]
    obtain ⟨n1, n2⟩ := noT_0 c1
    obtain ⟨t', rfl⟩ := Int.eq_ofNat_of_zero_le n1.1
    rw [c1] at e0
    have y : TY h w t' rs rm nb := ⟨hc, tv, tg, by omega, n2⟩
    obtain ⟨q1, q2, q3, q4, q5, q6⟩ := y.cells
    have tr := (hc.2.2.2.2.2.1 t' (by omega)).1
    have ix' : (((t' : Nat) : Int)).toNat = t' := by omega
    by_cases ci : 0 ≤ i ∧ i < rm t'
    · have ni : ¬ ¬ (0 ≤ i ∧ i < rm t') := fun z => z ci
      simp only [if_neg ni]
      obtain ⟨h1, e1, tv1, f1⟩ := c_put (d := d + 1) (v := v) y ci
      refine ⟨h1, ?_, cb.tr (by omega) f1 tv1, f1.mo (fun a k z => z.ts (by omega))⟩
      simp (disch := omega) only [Hook_write_0, Hook_write_5, Hook_write_16, Hook_write_28, Hook_write_41, Hook_write_48, wr_id, ix_id, okx, if_pos, if_neg, Int.toNat_of_nonneg, bak_v, bak_n, wr_b01, wr_bt, b01_or, b01_0, b01_1, lc_lt0, lc_gt0, lc_eq0, wl_wr, wr_wr, wl_id, true_and, and_true, true_or, or_true, not_true_eq_false, not_false_eq_true, nc0, nc1, nc2, nc3, nc4, nc5, nc6, nc7, nc8, nc9, nc10, nc11, nc12, nc13, nc14, nc15, nc16, nc17, nc18, nc19, nc20, nc21, nc22, nc23, nc35, nc47, nc59, nc60, nc61, nc73, nc74, nc214, nc215, nc1115, nc2230, nc3345, if_true, if_false, Int.reduceToNat, hc.k6, hc.r10, hc.k32, hc.n32, ix', tr, q1, q5, e0, e1]
    · simp only [if_pos ci]
      refine ⟨h, ?_, cb, Fr.rf⟩
      by_cases c2 : i < 0
      · simp (disch := omega) only [Hook_write_0, Hook_write_5, Hook_write_16, Hook_write_37, wr_id, ix_id, okx, if_pos, if_neg, Int.toNat_of_nonneg, bak_v, bak_n, wr_b01, wr_bt, b01_or, b01_0, b01_1, lc_lt0, lc_gt0, lc_eq0, wl_wr, wr_wr, wl_id, true_and, and_true, true_or, or_true, not_true_eq_false, not_false_eq_true, nc0, nc1, nc2, nc3, nc4, nc5, nc6, nc7, nc8, nc9, nc10, nc11, nc12, nc13, nc14, nc15, nc16, nc17, nc18, nc19, nc20, nc21, nc22, nc23, nc35, nc47, nc59, nc60, nc61, nc73, nc74, nc214, nc215, nc1115, nc2230, nc3345, if_true, if_false, Int.reduceToNat, hc.k6, hc.r10, hc.k32, hc.n32, ix', tr, q1, e0]
      · simp (disch := omega) only [Hook_write_0, Hook_write_5, Hook_write_16, Hook_write_28, Hook_write_37, wr_id, ix_id, okx, if_pos, if_neg, Int.toNat_of_nonneg, bak_v, bak_n, wr_b01, wr_bt, b01_or, b01_0, b01_1, lc_lt0, lc_gt0, lc_eq0, wl_wr, wr_wr, wl_id, true_and, and_true, true_or, or_true, not_true_eq_false, not_false_eq_true, nc0, nc1, nc2, nc3, nc4, nc5, nc6, nc7, nc8, nc9, nc10, nc11, nc12, nc13, nc14, nc15, nc16, nc17, nc18, nc19, nc20, nc21, nc22, nc23, nc35, nc47, nc59, nc60, nc61, nc73, nc74, nc214, nc215, nc1115, nc2230, nc3345, if_true, if_false, Int.reduceToNat, hc.k6, hc.r10, hc.k32, hc.n32, ix', tr, q1, q5, e0]
  · simp only [if_pos c1]
    refine ⟨h, ?_, cb, Fr.rf⟩
    simp (disch := omega) only [Hook_write_0, Hook_write_5, Hook_write_12, wr_id, ix_id, okx, if_pos, if_neg, Int.toNat_of_nonneg, bak_v, bak_n, wr_b01, wr_bt, b01_or, b01_0, b01_1, lc_lt0, lc_gt0, lc_eq0, wl_wr, wr_wr, wl_id, true_and, and_true, true_or, or_true, not_true_eq_false, not_false_eq_true, nc0, nc1, nc2, nc3, nc4, nc5, nc6, nc7, nc8, nc9, nc10, nc11, nc12, nc13, nc14, nc15, nc16, nc17, nc18, nc19, nc20, nc21, nc22, nc23, nc35, nc47, nc59, nc60, nc61, nc73, nc74, nc214, nc215, nc1115, nc2230, nc3345, if_true, if_false, Int.reduceToNat, hc.k6, e0]
theorem c_copy_l {d w t : Nat} {S G T rs rm nb : Int → Int} {n fk fp k : Int} (g : Gd S) (ht : t < 4) (hm : ¬ rs t = -1) (hk : 0 ≤ k ∧ k ≤ rm t ∧ k ≤ 40) : ∀ i, 0 ≤ i → i ≤ k → ∀ (h : Hp) (U : Int → Int), CB h w S G T rs rm U n fk fp → TG rs rm U → (∀ j, U j = if 40 * (t : Int) ≤ j ∧ j < 40 * (t : Int) + i then cutV (rs t) (seenM S (j - 40 * (t : Int))) else nb j) → ∃ h', EX (d+4) m_Hook_copy 38 [(0, .inr (.inr (6))), (3, .inr (.inr (33 + 2 * t))), (4, .inl (k)), (5, .inl (i))] [] (h) = some (.inl k, h') ∧ CB h' w S G T rs rm (cpV S rs nb t k) n fk fp ∧ Fr pTs h h' := by
  refine up_ind (hi := k) ?_ ?_
  · intro i hi h0 h1 h U cb tg hU
    have e : cpV S rs nb t k = U := by
      funext j
      rw [hU, show i = k by omega]
      rfl
    rw [e]
    refine ⟨h, ?_, cb, Fr.rf⟩
    rw [Hook_copy_38]
    simp (disch := omega) only [Hook_copy_72, wr_id, ix_id, okx, if_pos, if_neg, Int.toNat_of_nonneg, bak_v, bak_n, wr_b01, wr_bt, b01_or, b01_0, b01_1, lc_lt0, lc_gt0, lc_eq0, wl_wr, wr_wr, wl_id, true_and, and_true, true_or, or_true, not_true_eq_false, not_false_eq_true, nc0, nc1, nc2, nc3, nc4, nc5, nc6, nc7, nc8, nc9, nc10, nc11, nc12, nc13, nc14, nc15, nc16, nc17, nc18, nc19, nc20, nc21, nc22, nc23, nc35, nc47, nc59, nc60, nc61, nc73, nc74, nc214, nc215, nc1115, nc2230, nc3345, if_true, if_false, Int.reduceToNat]
  · intro i hi ih h0 h1 h U cb tg hU
    obtain ⟨hc, wv, rv, hv, hs, kj⟩ := cb.1
    have wk := wv.1.k
    have ha := hv.1
    have sr := seenM_rng g i
    have es := c_seenAt (d := d) (z := i) wv hv g (by omega)
    have y : TY h w t rs rm U := ⟨hc, cb.2.1.1, tg, ht, hm⟩
    obtain ⟨q1, q2, q3, q4, q5, q6⟩ := y.cells
    obtain ⟨h1', e1, tv1, f1⟩ := c_put (d := d + 2) (v := seenM S i) y (i := i) (by omega)
    have tg1 : TG rs rm (up U (40 * t + i) (cutV (rs t) (seenM S i))) := ⟨tg.1, fun j => by
      unfold up
      split
      · exact cutV_rng (by omega)
      · exact tg.2 j⟩
    obtain ⟨h', e', cb', f'⟩ := ih (by omega) (by omega) h1' _ (cb.tr ht f1 tv1) tg1 (fun j => by
      by_cases c : j = 40 * t + i
      · rw [c, up_same, if_pos (by omega), show 40 * (t : Int) + i - 40 * t = i by omega]
      · rw [up_ne c, hU]
        by_cases c2 : 40 * (t : Int) ≤ j ∧ j < 40 * t + i
        · rw [if_pos c2, if_pos (by omega)]
        · rw [if_neg c2, if_neg (by omega)])
    refine ⟨h', ?_, cb', (f1.mo (fun a k z => z.ts ht)).tr f'⟩
    rw [Hook_copy_38]
    simp (disch := omega) only [Hook_copy_45, Hook_copy_61, Hook_copy_65, wr_id, ix_id, okx, if_pos, if_neg, Int.toNat_of_nonneg, bak_v, bak_n, wr_b01, wr_bt, b01_or, b01_0, b01_1, lc_lt0, lc_gt0, lc_eq0, wl_wr, wr_wr, wl_id, true_and, and_true, true_or, or_true, not_true_eq_false, not_false_eq_true, nc0, nc1, nc2, nc3, nc4, nc5, nc6, nc7, nc8, nc9, nc10, nc11, nc12, nc13, nc14, nc15, nc16, nc17, nc18, nc19, nc20, nc21, nc22, nc23, nc35, nc47, nc59, nc60, nc61, nc73, nc74, nc214, nc215, nc1115, nc2230, nc3345, if_true, if_false, Int.reduceToNat, hc.k6, hc.r5, hc.r7, wk, ha.k, q1, es, e1]
    exact e'
theorem cc_copy {d w : Nat} {h : Hp} {S G T rs rm nb : Int → Int} {n fk fp : Int} (cb : CB h w S G T rs rm nb n fk fp) (g : Gd S) (tg : TG rs rm nb) {t : Int} (rt : -2147483648 ≤ t ∧ t ≤ 2147483647) : ∃ h', cal (d+5) m_Hook_copy [.inr (.inr (6)), .inl (t)] (h) = some (.inl (ansCopy S rs rm t), h') ∧ CB h' w S G T rs rm (nbCopy S rs rm nb t) n fk fp ∧ Fr pTs h h' := by
  obtain ⟨hc, wv, rv, hv, hs, kj⟩ := cb.1
  have tv := cb.2.1.1
  have gb := g.b
  have wk := wv.1.k
  have e0 := c_trayCode (d := d + 2) hc tv tg rt
  have eg := c_gaps (d := d + 3) wv gb
  have nr := noT_rng rs t
  show ∃ h', EX (d+4) m_Hook_copy 0 [(0, .inr (.inr (6))), (1, .inl (t))] [] (h) = _ ∧ _
  unfold ansCopy nbCopy
  by_cases c1 : noT rs t = 0
  · have nn : ¬ ¬ noT rs t = 0 := fun z => z c1
    simp only [if_neg nn]
    obtain ⟨n1, n2⟩ := noT_0 c1
    obtain ⟨t', rfl⟩ := Int.eq_ofNat_of_zero_le n1.1
    rw [c1] at e0
    have y : TY h w t' rs rm nb := ⟨hc, tv, tg, by omega, n2⟩
    obtain ⟨q1, q2, q3, q4, q5, q6⟩ := y.cells
    have tr := (hc.2.2.2.2.2.1 t' (by omega)).1
    have ix' : (((t' : Nat) : Int)).toNat = t' := by omega
    have gr : 0 ≤ (if S 2 = 0 then 0 else S 2 - 1) ∧ (if S 2 = 0 then 0 else S 2 - 1) ≤ 11 := by split <;> omega
    have hk : 0 ≤ cpN S rm t' ∧ cpN S rm t' ≤ rm t' ∧ cpN S rm t' ≤ 40 := by unfold cpN; split <;> omega
    have em : cal (d+4) m_Math_min_II [.inl (rm t'), .inl ((if S 2 = 0 then 0 else S 2 - 1))] (h) = some (.inl (cpN S rm t'), h) := by
      show EX (d+3) m_Math_min_II 0 [(0, .inl (rm t')), (1, .inl ((if S 2 = 0 then 0 else S 2 - 1)))] [] (h) = _
      have ec : cpN S rm t' = if (if S 2 = 0 then 0 else S 2 - 1) < rm t' then (if S 2 = 0 then 0 else S 2 - 1) else rm t' := rfl
      rw [ec]
      generalize hgp : (if S 2 = 0 then 0 else S 2 - 1) = gp
      rw [hgp] at gr
      by_cases c : gp < rm t'
      · rw [if_pos c]; simp (disch := omega) only [Math_min_II_0, Math_min_II_9, Math_min_II_10, wr_id, ix_id, okx, if_pos, if_neg, Int.toNat_of_nonneg, bak_v, bak_n, wr_b01, wr_bt, b01_or, b01_0, b01_1, lc_lt0, lc_gt0, lc_eq0, wl_wr, wr_wr, wl_id, true_and, and_true, true_or, or_true, not_true_eq_false, not_false_eq_true, nc0, nc1, nc2, nc3, nc4, nc5, nc6, nc7, nc8, nc9, nc10, nc11, nc12, nc13, nc14, nc15, nc16, nc17, nc18, nc19, nc20, nc21, nc22, nc23, nc35, nc47, nc59, nc60, nc61, nc73, nc74, nc214, nc215, nc1115, nc2230, nc3345, if_true, if_false, Int.reduceToNat]
      · rw [if_neg c]; simp (disch := omega) only [Math_min_II_0, Math_min_II_5, Math_min_II_10, wr_id, ix_id, okx, if_pos, if_neg, Int.toNat_of_nonneg, bak_v, bak_n, wr_b01, wr_bt, b01_or, b01_0, b01_1, lc_lt0, lc_gt0, lc_eq0, wl_wr, wr_wr, wl_id, true_and, and_true, true_or, or_true, not_true_eq_false, not_false_eq_true, nc0, nc1, nc2, nc3, nc4, nc5, nc6, nc7, nc8, nc9, nc10, nc11, nc12, nc13, nc14, nc15, nc16, nc17, nc18, nc19, nc20, nc21, nc22, nc23, nc35, nc47, nc59, nc60, nc61, nc73, nc74, nc214, nc215, nc1115, nc2230, nc3345, if_true, if_false, Int.reduceToNat]
    obtain ⟨h1, e1, cb1, f1⟩ := c_copy_l (d := d) g (t := t') (by omega) n2 hk 0 (by omega) hk.1 h nb cb tg (fun j => by rw [if_neg (by omega)])
    refine ⟨h1, ?_, cb1, f1⟩
    simp (disch := omega) only [Hook_copy_0, Hook_copy_5, Hook_copy_12, wr_id, ix_id, okx, if_pos, if_neg, Int.toNat_of_nonneg, bak_v, bak_n, wr_b01, wr_bt, b01_or, b01_0, b01_1, lc_lt0, lc_gt0, lc_eq0, wl_wr, wr_wr, wl_id, true_and, and_true, true_or, or_true, not_true_eq_false, not_false_eq_true, nc0, nc1, nc2, nc3, nc4, nc5, nc6, nc7, nc8, nc9, nc10, nc11, nc12, nc13, nc14, nc15, nc16, nc17, nc18, nc19, nc20, nc21, nc22, nc23, nc35, nc47, nc59, nc60, nc61, nc73, nc74, nc214, nc215, nc1115, nc2230, nc3345, if_true, if_false, Int.reduceToNat, hc.k6, hc.r5, hc.r10, hc.k32, hc.n32, ix', tr, q1, q5, wk, e0, eg]
    simp (disch := omega) only [Hook_copy_30, Hook_copy_33, wr_id, ix_id, okx, if_pos, if_neg, Int.toNat_of_nonneg, bak_v, bak_n, wr_b01, wr_bt, b01_or, b01_0, b01_1, lc_lt0, lc_gt0, lc_eq0, wl_wr, wr_wr, wl_id, true_and, and_true, true_or, or_true, not_true_eq_false, not_false_eq_true, nc0, nc1, nc2, nc3, nc4, nc5, nc6, nc7, nc8, nc9, nc10, nc11, nc12, nc13, nc14, nc15, nc16, nc17, nc18, nc19, nc20, nc21, nc22, nc23, nc35, nc47, nc59, nc60, nc61, nc73, nc74, nc214, nc215, nc1115, nc2230, nc3345, if_true, if_false, Int.reduceToNat, em]
    exact e1
  · simp only [if_pos c1]
    refine ⟨h, ?_, cb, Fr.rf⟩
    simp (disch := omega) only [Hook_copy_0, Hook_copy_5, Hook_copy_10, wr_id, ix_id, okx, if_pos, if_neg, Int.toNat_of_nonneg, bak_v, bak_n, wr_b01, wr_bt, b01_or, b01_0, b01_1, lc_lt0, lc_gt0, lc_eq0, wl_wr, wr_wr, wl_id, true_and, and_true, true_or, or_true, not_true_eq_false, not_false_eq_true, nc0, nc1, nc2, nc3, nc4, nc5, nc6, nc7, nc8, nc9, nc10, nc11, nc12, nc13, nc14, nc15, nc16, nc17, nc18, nc19, nc20, nc21, nc22, nc23, nc35, nc47, nc59, nc60, nc61, nc73, nc74, nc214, nc215, nc1115, nc2230, nc3345, if_true, if_false, Int.reduceToNat, hc.k6, e0]
