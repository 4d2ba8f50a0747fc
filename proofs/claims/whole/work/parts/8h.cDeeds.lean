/-! the class's calls: deeds -/
theorem ntS_o {W S : Int → Int} (h73 : 0 ≤ S 73 ∧ S 73 ≤ 10) {k : Int} (hk : k < 73 ∨ 214 ≤ k) : ntS W S k = S k := by
  unfold ntS
  by_cases c : S 73 = 10
  · rw [if_pos c, if_neg (by omega), if_neg (by omega), if_neg (by omega)]
  · rw [if_neg c, if_neg (by omega), if_neg (by omega)]
theorem ntS_cg {W S S' : Int → Int} (e : ∀ k, 73 ≤ k → S' k = S k) {k : Int} (hk : 73 ≤ k) : ntS W S' k = ntS W S k := by
  unfold ntS
  rw [e 73 (by omega), e k hk]
  by_cases c : 74 ≤ k ∧ k < 200
  · rw [e (k + 14) (by omega)]
  · simp only [if_neg c]
theorem CB.deed {h h' : Hp} {w : Nat} {S S1 G T rs rm nb : Int → Int} {n fk fp : Int} (c : CB h w S G T rs rm nb n fk fp) (gd : Gd S) (h73 : 0 ≤ S 73 ∧ S 73 ≤ 10) {p : Nat → Nat → Prop} (f : Fr p h h') (hp : ∀ a k, p a k → 26 ≤ a ∧ a ≤ 31) (hv : HV h' 26 S1) (hs : HisV h' (ntS S S)) (a : Ah S S1) : CB h' w (ntS S S1) G T rs rm nb n fk fp := by
  have e73 : 0 ≤ S1 73 ∧ S1 73 ≤ 10 := by rw [a 73 (by omega)]; exact h73
  have as : As S (ntS S S1) := fun k hk => by rw [ntS_o e73 (by omega)]; exact a k (by omega)
  refine c.row gd f hp (hv.cg (p := fun _ _ => False) Fr.rf (fun _ => id) (fun _ => id) (fun k k0 k1 => ntS_o e73 (by omega))) (hs.cg (fun k hk _ => ntS_cg (fun j hj => a j (by omega)) hk)) as
/-- what deeds may write -/
def pDd (a _k : Nat) : Prop := 26 ≤ a ∧ a ≤ 31
theorem cc_join {d w : Nat} {h : Hp} {S G T rs rm nb : Int → Int} {n fk fp : Int} (cb : CB h w S G T rs rm nb n fk fp) (g : Gd S) {x y : Int} (rx : -2147483648 ≤ x ∧ x ≤ 2147483647) (ry : -2147483648 ≤ y ∧ y ≤ 2147483647) : ∃ h', cal (d+5) m_Hook_join [.inr (.inr (6)), .inl (x), .inl (y)] (h) = some (.inl (ansJoin S x y), h') ∧ CB h' w (rowJoin S x y) G T rs rm nb n fk fp ∧ Fr pDd h h' := by
  obtain ⟨hc, wv, rv, hv, hs, -⟩ := cb.1
  have wd := hc.wd
  have ga := g.a
  have gb := g.b
  have wk := wv.1.k
  have ha := hv.1
  have e0 := c_whyNotJoin (d := d + 1) wv hv g rx ry
  have wr' := whyM_rng S x y
  show ∃ h', EX (d+4) m_Hook_join 0 [(0, .inr (.inr (6))), (1, .inl (x)), (2, .inl (y))] [] (h) = _ ∧ _
  unfold ansJoin rowJoin
  by_cases c : whyM S x y = 0
  · rw [if_pos c, if_pos c]
    have w0 := whyM_0 g c
    obtain ⟨h1, e1, hs1, f1⟩ := c_push (d := d + 2) (b := 26) hs hv (by omega)
    have hc1 := hc.fr f1
    have wv1 := wv.fr f1 (fun c k c1 c2 => by omega)
    have hv1 := hv.fr f1 (by omega) (by omega)
    have wk1 := wv1.1.k
    have ha1 := hv1.1
    obtain ⟨h2, e2, hv2, f2⟩ := c_attach (d := d) (x := x) (y := y) wv1 hv1 g (by omega) (by omega) (by omega)
    have F : Fr pDd h h2 := (f1.mo (fun a k z => by unfold pDd; omega)).tr (f2.mo (fun a k z => by unfold pDd; omega))
    refine ⟨h2, ?_, cb.deed g hs.2.2.1 F (fun a k z => z) hv2 (hs1.fr f2 (by omega) (by omega)) (joinS_ah _ (by omega)), F⟩
    rw [c] at e0
    simp (disch := omega) only [Hook_join_0, Hook_join_13, Hook_join_23, wr_id, ix_id, okx, if_pos, if_neg, Int.toNat_of_nonneg, bak_v, bak_n, wr_b01, wr_bt, b01_or, b01_0, b01_1, lc_lt0, lc_gt0, lc_eq0, wl_wr, wr_wr, wl_id, true_and, and_true, true_or, or_true, not_true_eq_false, not_false_eq_true, nc0, nc1, nc2, nc3, nc4, nc5, nc6, nc7, nc8, nc9, nc10, nc11, nc12, nc13, nc14, nc15, nc16, nc17, nc18, nc19, nc20, nc21, nc22, nc23, nc35, nc47, nc59, nc60, nc61, nc73, nc74, nc214, nc215, nc1115, nc2230, nc3345, if_true, if_false, Int.reduceToNat, hc.k6, hc.r5, hc.r7, hc.r9, ha.k, wk, hs.1.1, e0, e1]
    simp (disch := omega) only [Hook_join_34, Hook_join_47, wr_id, ix_id, okx, if_pos, if_neg, Int.toNat_of_nonneg, bak_v, bak_n, wr_b01, wr_bt, b01_or, b01_0, b01_1, lc_lt0, lc_gt0, lc_eq0, wl_wr, wr_wr, wl_id, true_and, and_true, true_or, or_true, not_true_eq_false, not_false_eq_true, nc0, nc1, nc2, nc3, nc4, nc5, nc6, nc7, nc8, nc9, nc10, nc11, nc12, nc13, nc14, nc15, nc16, nc17, nc18, nc19, nc20, nc21, nc22, nc23, nc35, nc47, nc59, nc60, nc61, nc73, nc74, nc214, nc215, nc1115, nc2230, nc3345, if_true, if_false, Int.reduceToNat, hc1.k6, hc1.r5, hc1.r7, ha1.k, wk1, e2]
  · rw [if_neg c, if_neg c]
    refine ⟨h, ?_, cb, Fr.rf⟩
    simp (disch := omega) only [Hook_join_0, Hook_join_13, Hook_join_18, wr_id, ix_id, okx, if_pos, if_neg, Int.toNat_of_nonneg, bak_v, bak_n, wr_b01, wr_bt, b01_or, b01_0, b01_1, lc_lt0, lc_gt0, lc_eq0, wl_wr, wr_wr, wl_id, true_and, and_true, true_or, or_true, not_true_eq_false, not_false_eq_true, nc0, nc1, nc2, nc3, nc4, nc5, nc6, nc7, nc8, nc9, nc10, nc11, nc12, nc13, nc14, nc15, nc16, nc17, nc18, nc19, nc20, nc21, nc22, nc23, nc35, nc47, nc59, nc60, nc61, nc73, nc74, nc214, nc215, nc1115, nc2230, nc3345, if_true, if_false, Int.reduceToNat, hc.k6, hc.r5, hc.r7, ha.k, wk, e0]
theorem cc_unhook {d w : Nat} {h : Hp} {S G T rs rm nb : Int → Int} {n fk fp : Int} (cb : CB h w S G T rs rm nb n fk fp) (g : Gd S) {x : Int} (rx : -2147483648 ≤ x ∧ x ≤ 2147483647) : ∃ h', cal (d+5) m_Hook_unhook [.inr (.inr (6)), .inl (x)] (h) = some (.inl (ansOff S x), h') ∧ CB h' w (rowOff S x) G T rs rm nb n fk fp ∧ Fr pDd h h' := by
  obtain ⟨hc, wv, rv, hv, hs, -⟩ := cb.1
  have wd := hc.wd
  have ga := g.a
  have wk := wv.1.k
  have ha := hv.1
  have e0 := c_whyNotUnhook (d := d + 2) wv hv g rx
  have wr' : 0 ≤ offM S x ∧ offM S x ≤ 2 := by unfold offM; repeat' split <;> omega
  show ∃ h', EX (d+4) m_Hook_unhook 0 [(0, .inr (.inr (6))), (1, .inl (x))] [] (h) = _ ∧ _
  unfold ansOff rowOff
  by_cases c : offM S x = 0
  · rw [if_pos c, if_pos c]
    have w0 : (0 ≤ x ∧ x < S 1) ∧ ¬ S (61 + x) = -1 := by
      unfold offM at c
      split at c
      · omega
      · split at c
        · omega
        · rename_i q1 q2; exact ⟨by omega, q2⟩
    obtain ⟨h1, e1, hs1, f1⟩ := c_push (d := d + 2) (b := 26) hs hv (by omega)
    have hc1 := hc.fr f1
    have wv1 := wv.fr f1 (fun c k c1 c2 => by omega)
    have hv1 := hv.fr f1 (by omega) (by omega)
    have wk1 := wv1.1.k
    have ha1 := hv1.1
    obtain ⟨h2, e2, hv2, f2⟩ := c_detach (d := d) (x := x) wv1 hv1 g (by omega) (by omega) w0.2
    have F : Fr pDd h h2 := (f1.mo (fun a k z => by unfold pDd; omega)).tr (f2.mo (fun a k z => by unfold pDd; omega))
    refine ⟨h2, ?_, cb.deed g hs.2.2.1 F (fun a k z => z) hv2 (hs1.fr f2 (by omega) (by omega)) (offS_ah _ (by omega)), F⟩
    rw [c] at e0
    simp (disch := omega) only [Hook_unhook_0, Hook_unhook_12, Hook_unhook_22, wr_id, ix_id, okx, if_pos, if_neg, Int.toNat_of_nonneg, bak_v, bak_n, wr_b01, wr_bt, b01_or, b01_0, b01_1, lc_lt0, lc_gt0, lc_eq0, wl_wr, wr_wr, wl_id, true_and, and_true, true_or, or_true, not_true_eq_false, not_false_eq_true, nc0, nc1, nc2, nc3, nc4, nc5, nc6, nc7, nc8, nc9, nc10, nc11, nc12, nc13, nc14, nc15, nc16, nc17, nc18, nc19, nc20, nc21, nc22, nc23, nc35, nc47, nc59, nc60, nc61, nc73, nc74, nc214, nc215, nc1115, nc2230, nc3345, if_true, if_false, Int.reduceToNat, hc.k6, hc.r5, hc.r7, hc.r9, ha.k, wk, hs.1.1, e0, e1]
    simp (disch := omega) only [Hook_unhook_33, Hook_unhook_45, wr_id, ix_id, okx, if_pos, if_neg, Int.toNat_of_nonneg, bak_v, bak_n, wr_b01, wr_bt, b01_or, b01_0, b01_1, lc_lt0, lc_gt0, lc_eq0, wl_wr, wr_wr, wl_id, true_and, and_true, true_or, or_true, not_true_eq_false, not_false_eq_true, nc0, nc1, nc2, nc3, nc4, nc5, nc6, nc7, nc8, nc9, nc10, nc11, nc12, nc13, nc14, nc15, nc16, nc17, nc18, nc19, nc20, nc21, nc22, nc23, nc35, nc47, nc59, nc60, nc61, nc73, nc74, nc214, nc215, nc1115, nc2230, nc3345, if_true, if_false, Int.reduceToNat, hc1.k6, hc1.r5, hc1.r7, ha1.k, wk1, e2]
  · rw [if_neg c, if_neg c]
    refine ⟨h, ?_, cb, Fr.rf⟩
    simp (disch := omega) only [Hook_unhook_0, Hook_unhook_12, Hook_unhook_17, wr_id, ix_id, okx, if_pos, if_neg, Int.toNat_of_nonneg, bak_v, bak_n, wr_b01, wr_bt, b01_or, b01_0, b01_1, lc_lt0, lc_gt0, lc_eq0, wl_wr, wr_wr, wl_id, true_and, and_true, true_or, or_true, not_true_eq_false, not_false_eq_true, nc0, nc1, nc2, nc3, nc4, nc5, nc6, nc7, nc8, nc9, nc10, nc11, nc12, nc13, nc14, nc15, nc16, nc17, nc18, nc19, nc20, nc21, nc22, nc23, nc35, nc47, nc59, nc60, nc61, nc73, nc74, nc214, nc215, nc1115, nc2230, nc3345, if_true, if_false, Int.reduceToNat, hc.k6, hc.r5, hc.r7, ha.k, wk, e0]
theorem cc_undo {d w : Nat} {h : Hp} {S G T rs rm nb : Int → Int} {n fk fp : Int} (cb : CB h w S G T rs rm nb n fk fp) (g : Gd S) {x : Int} (rx : -2147483648 ≤ x ∧ x ≤ 2147483647) : ∃ h', cal (d+3) m_Hook_undo [.inr (.inr (6)), .inl (x)] (h) = some (.inl (ansUndo S x), h') ∧ CB h' w (rowUndo S x) G T rs rm nb n fk fp ∧ Fr pDd h h' := by
  obtain ⟨hc, wv, rv, hv, hs, -⟩ := cb.1
  have ha := hv.1
  have h2 := hs.2.1
  have h73 := hs.2.2.1
  have hk := hs.1.1
  show ∃ h', EX (d+2) m_Hook_undo 0 [(0, .inr (.inr (6))), (1, .inl (x))] [] (h) = _ ∧ _
  unfold ansUndo rowUndo
  by_cases c : 1 ≤ x ∧ x ≤ 10 ∧ x ≤ S 73
  · rw [if_pos c, if_pos c]
    obtain ⟨h1, e1, hv1, hs1, f1⟩ := c_pop (d := d) (a := 26) hs ha (by omega) (n := x) (by omega)
    have hc1 := hc.fr f1
    have hk1 := hs1.1.1
    have h21 : hI h1 30 2 = S 73 - x := by rw [hs1.2.1]; unfold unS; rw [if_pos rfl]
    have F : Fr pDd h h1 := f1.mo (fun a k z => by unfold pDd; omega)
    refine ⟨h1, ?_, cb.row g F (fun a k z => z) hv1 hs1 (fun k hk => by unfold unS; rw [if_neg (by omega), if_neg (by omega)]), F⟩
    simp (disch := omega) only [Hook_undo_0, Hook_undo_5, Hook_undo_11, Hook_undo_25, wr_id, ix_id, okx, if_pos, if_neg, Int.toNat_of_nonneg, bak_v, bak_n, wr_b01, wr_bt, b01_or, b01_0, b01_1, lc_lt0, lc_gt0, lc_eq0, wl_wr, wr_wr, wl_id, true_and, and_true, true_or, or_true, not_true_eq_false, not_false_eq_true, nc0, nc1, nc2, nc3, nc4, nc5, nc6, nc7, nc8, nc9, nc10, nc11, nc12, nc13, nc14, nc15, nc16, nc17, nc18, nc19, nc20, nc21, nc22, nc23, nc35, nc47, nc59, nc60, nc61, nc73, nc74, nc214, nc215, nc1115, nc2230, nc3345, if_true, if_false, Int.reduceToNat, hc.k6, hc.r7, hc.r9, ha.k, hk, h2, e1]
    simp (disch := omega) only [Hook_undo_37, wr_id, ix_id, okx, if_pos, if_neg, Int.toNat_of_nonneg, bak_v, bak_n, wr_b01, wr_bt, b01_or, b01_0, b01_1, lc_lt0, lc_gt0, lc_eq0, wl_wr, wr_wr, wl_id, true_and, and_true, true_or, or_true, not_true_eq_false, not_false_eq_true, nc0, nc1, nc2, nc3, nc4, nc5, nc6, nc7, nc8, nc9, nc10, nc11, nc12, nc13, nc14, nc15, nc16, nc17, nc18, nc19, nc20, nc21, nc22, nc23, nc35, nc47, nc59, nc60, nc61, nc73, nc74, nc214, nc215, nc1115, nc2230, nc3345, if_true, if_false, Int.reduceToNat, hc1.k6, hc1.r9, hk1, h21]
  · rw [if_neg c, if_neg c]
    refine ⟨h, ?_, cb, Fr.rf⟩
    by_cases c1 : x < 1
    · simp (disch := omega) only [Hook_undo_0, Hook_undo_22, wr_id, ix_id, okx, if_pos, if_neg, Int.toNat_of_nonneg, bak_v, bak_n, wr_b01, wr_bt, b01_or, b01_0, b01_1, lc_lt0, lc_gt0, lc_eq0, wl_wr, wr_wr, wl_id, true_and, and_true, true_or, or_true, not_true_eq_false, not_false_eq_true, nc0, nc1, nc2, nc3, nc4, nc5, nc6, nc7, nc8, nc9, nc10, nc11, nc12, nc13, nc14, nc15, nc16, nc17, nc18, nc19, nc20, nc21, nc22, nc23, nc35, nc47, nc59, nc60, nc61, nc73, nc74, nc214, nc215, nc1115, nc2230, nc3345, if_true, if_false, Int.reduceToNat]
    · by_cases c2 : 10 < x
      · simp (disch := omega) only [Hook_undo_0, Hook_undo_5, Hook_undo_22, wr_id, ix_id, okx, if_pos, if_neg, Int.toNat_of_nonneg, bak_v, bak_n, wr_b01, wr_bt, b01_or, b01_0, b01_1, lc_lt0, lc_gt0, lc_eq0, wl_wr, wr_wr, wl_id, true_and, and_true, true_or, or_true, not_true_eq_false, not_false_eq_true, nc0, nc1, nc2, nc3, nc4, nc5, nc6, nc7, nc8, nc9, nc10, nc11, nc12, nc13, nc14, nc15, nc16, nc17, nc18, nc19, nc20, nc21, nc22, nc23, nc35, nc47, nc59, nc60, nc61, nc73, nc74, nc214, nc215, nc1115, nc2230, nc3345, if_true, if_false, Int.reduceToNat]
      · simp (disch := omega) only [Hook_undo_0, Hook_undo_5, Hook_undo_11, Hook_undo_22, wr_id, ix_id, okx, if_pos, if_neg, Int.toNat_of_nonneg, bak_v, bak_n, wr_b01, wr_bt, b01_or, b01_0, b01_1, lc_lt0, lc_gt0, lc_eq0, wl_wr, wr_wr, wl_id, true_and, and_true, true_or, or_true, not_true_eq_false, not_false_eq_true, nc0, nc1, nc2, nc3, nc4, nc5, nc6, nc7, nc8, nc9, nc10, nc11, nc12, nc13, nc14, nc15, nc16, nc17, nc18, nc19, nc20, nc21, nc22, nc23, nc35, nc47, nc59, nc60, nc61, nc73, nc74, nc214, nc215, nc1115, nc2230, nc3345, if_true, if_false, Int.reduceToNat, hc.k6, hc.r9, hk, h2]
theorem cc_perform {d w : Nat} {h : Hp} {S G T rs rm nb : Int → Int} {n fk fp : Int} (cb : CB h w S G T rs rm nb n fk fp) (g : Gd S) (tg : TG rs rm nb) {t : Int} (rt : -2147483648 ≤ t ∧ t ≤ 2147483647) : ∃ h', cal (d+7) m_Hook_perform [.inr (.inr (6)), .inl (t)] (h) = some (.inl (ansPerf S rs rm nb t), h') ∧ CB h' w (rowPerf S rs rm nb t) G T rs rm nb n fk fp ∧ Fr pDd h h' := by
  obtain ⟨hc, wv, rv, hv, hs, kj⟩ := cb.1
  have tv := cb.2.1.1
  have wd := hc.wd
  have wk := wv.1.k
  have ha := hv.1
  have e0 := c_trayCode (d := d + 4) hc tv tg rt
  have nr := noT_rng rs t
  show ∃ h', EX (d+6) m_Hook_perform 0 [(0, .inr (.inr (6))), (1, .inl (t))] [] (h) = _ ∧ _
  unfold ansPerf rowPerf
  by_cases c1 : noT rs t = 0
  · rw [if_neg (by omega), if_neg (by omega)]
    obtain ⟨n1, n2⟩ := noT_0 c1
    obtain ⟨t', rfl⟩ := Int.eq_ofNat_of_zero_le n1.1
    obtain ⟨h1, e1, hv1, f1⟩ := c_takeFrom (d := d + 5) (a := 28) (b := 26) (hc.2.2.2.2.2.2.2.1.2.1) hv (by omega)
    have hc1 := hc.fr f1
    have wv1 := wv.fr f1 (fun c k c1 c2 => by omega)
    have hvA := hv.fr f1 (by omega) (by omega)
    have tv1 := tv.fr f1 (by omega)
    obtain ⟨h2, e2, hv2, f2⟩ := c_doDeeds (d := d) (a := 26) (t := t') tg (by omega) n2 (by omega) wd hc1 tv1 wv1 hvA g
    have hc2 := hc1.fr f2
    have hv28 := hv1.fr f2 (by omega) (by omega)
    obtain ⟨r1, r2, r3, r4, r5, r6, r7⟩ := runD_ok (fun k => nb (40 * t' + k)) (rm t').toNat 0 S g
    have gt := tg.1 t' (by omega) (by omega)
    have hs2 := (hs.fr f1 (by omega) (by omega)).fr f2 (by omega) (by omega)
    have F2 : Fr pDd h h2 := (f1.mo (fun a k z => by unfold pDd; omega)).tr (f2.mo (fun a k z => by unfold pDd; omega))
    have ha28 := hv1.1
    have tq := (hc1.2.2.2.2.2.1 t' (by omega))
    have wk1 := wv1.1.k
    have ha1 := hvA.1
    have tr := tq.1
    have tk := tq.2.1
    have a28 : sK h 28 = 0 := (hc.2.2.2.2.2.2.2.1.2.1).1
    rw [c1] at e0
    have ix' : (((t' : Nat) : Int)).toNat = t' := by omega
    have st : EX (d+6) m_Hook_perform 0 [(0, .inr (.inr (6))), (1, .inl ((t' : Int)))] [] (h) = EX (d+6) m_Hook_perform 40 [(0, .inr (.inr (6)))] [.inl ((dds S rm nb t').2.1)] (h2) := by
      simp (disch := omega) only [Hook_perform_0, Hook_perform_5, Hook_perform_12, wr_id, ix_id, okx, if_pos, if_neg, Int.toNat_of_nonneg, bak_v, bak_n, wr_b01, wr_bt, b01_or, b01_0, b01_1, lc_lt0, lc_gt0, lc_eq0, wl_wr, wr_wr, wl_id, true_and, and_true, true_or, or_true, not_true_eq_false, not_false_eq_true, nc0, nc1, nc2, nc3, nc4, nc5, nc6, nc7, nc8, nc9, nc10, nc11, nc12, nc13, nc14, nc15, nc16, nc17, nc18, nc19, nc20, nc21, nc22, nc23, nc35, nc47, nc59, nc60, nc61, nc73, nc74, nc214, nc215, nc1115, nc2230, nc3345, if_true, if_false, Int.reduceToNat, hc.k6, hc.r7, hc.r8, ha.k, a28, e0, e1]
      simp (disch := omega) only [Hook_perform_23, wr_id, ix_id, okx, if_pos, if_neg, Int.toNat_of_nonneg, bak_v, bak_n, wr_b01, wr_bt, b01_or, b01_0, b01_1, lc_lt0, lc_gt0, lc_eq0, wl_wr, wr_wr, wl_id, true_and, and_true, true_or, or_true, not_true_eq_false, not_false_eq_true, nc0, nc1, nc2, nc3, nc4, nc5, nc6, nc7, nc8, nc9, nc10, nc11, nc12, nc13, nc14, nc15, nc16, nc17, nc18, nc19, nc20, nc21, nc22, nc23, nc35, nc47, nc59, nc60, nc61, nc73, nc74, nc214, nc215, nc1115, nc2230, nc3345, if_true, if_false, Int.reduceToNat, hc1.k6, hc1.r5, hc1.r7, hc1.r10, hc1.k32, hc1.n32, ha1.k, wk1, ix', tr, tk, e2]
      rfl
    rw [st]
    have dd : (dds S rm nb t').2.1 = (runD (fun k => nb (40 * t' + k)) (rm t').toNat 0 S).2.1 := rfl
    by_cases c2 : 0 < (dds S rm nb t').2.1
    · simp only [if_pos c2]
      obtain ⟨h3, e3, hs3, f3⟩ := c_push (d := d + 4) (b := 28) hs2 hv28 (by omega)
      have F3 : Fr pDd h h3 := F2.tr (f3.mo (fun a k z => by unfold pDd; omega))
      refine ⟨h3, ?_, cb.deed g hs.2.2.1 F3 (fun a k z => z) (hv2.fr f3 (by omega) (by omega)) hs3 r2, F3⟩
      have k30 := hs2.1.1
      have k28 := hv28.1.k
      simp (disch := omega) only [Hook_perform_40, Hook_perform_45, Hook_perform_56, wr_id, ix_id, okx, if_pos, if_neg, Int.toNat_of_nonneg, bak_v, bak_n, wr_b01, wr_bt, b01_or, b01_0, b01_1, lc_lt0, lc_gt0, lc_eq0, wl_wr, wr_wr, wl_id, true_and, and_true, true_or, or_true, not_true_eq_false, not_false_eq_true, nc0, nc1, nc2, nc3, nc4, nc5, nc6, nc7, nc8, nc9, nc10, nc11, nc12, nc13, nc14, nc15, nc16, nc17, nc18, nc19, nc20, nc21, nc22, nc23, nc35, nc47, nc59, nc60, nc61, nc73, nc74, nc214, nc215, nc1115, nc2230, nc3345, if_true, if_false, Int.reduceToNat, hc2.k6, hc2.r8, hc2.r9, k30, k28, e3]
    · simp only [if_neg c2]
      have e00 : (dds S rm nb t').2.1 = 0 := by omega
      have eS : (dds S rm nb t').1 = S := runD_0 _ _ 0 S g (by rw [← dd]; exact e00)
      refine ⟨h2, ?_, cb.row g F2 (fun a k z => z) (by rw [← eS]; exact hv2) hs2 As.rf, F2⟩
      rw [e00]
      simp (disch := omega) only [Hook_perform_40, Hook_perform_56, wr_id, ix_id, okx, if_pos, if_neg, Int.toNat_of_nonneg, bak_v, bak_n, wr_b01, wr_bt, b01_or, b01_0, b01_1, lc_lt0, lc_gt0, lc_eq0, wl_wr, wr_wr, wl_id, true_and, and_true, true_or, or_true, not_true_eq_false, not_false_eq_true, nc0, nc1, nc2, nc3, nc4, nc5, nc6, nc7, nc8, nc9, nc10, nc11, nc12, nc13, nc14, nc15, nc16, nc17, nc18, nc19, nc20, nc21, nc22, nc23, nc35, nc47, nc59, nc60, nc61, nc73, nc74, nc214, nc215, nc1115, nc2230, nc3345, if_true, if_false, Int.reduceToNat]
  · rw [if_pos c1, if_pos c1]
    refine ⟨h, ?_, cb, Fr.rf⟩
    simp (disch := omega) only [Hook_perform_0, Hook_perform_5, Hook_perform_10, wr_id, ix_id, okx, if_pos, if_neg, Int.toNat_of_nonneg, bak_v, bak_n, wr_b01, wr_bt, b01_or, b01_0, b01_1, lc_lt0, lc_gt0, lc_eq0, wl_wr, wr_wr, wl_id, true_and, and_true, true_or, or_true, not_true_eq_false, not_false_eq_true, nc0, nc1, nc2, nc3, nc4, nc5, nc6, nc7, nc8, nc9, nc10, nc11, nc12, nc13, nc14, nc15, nc16, nc17, nc18, nc19, nc20, nc21, nc22, nc23, nc35, nc47, nc59, nc60, nc61, nc73, nc74, nc214, nc215, nc1115, nc2230, nc3345, if_true, if_false, Int.reduceToNat, hc.k6, e0]
theorem cc_day {d w : Nat} {h : Hp} {S G T rs rm nb : Int → Int} {n fk fp : Int} (cb : CB h w S G T rs rm nb n fk fp) (g : Gd S) {x k : Int} (rk : -2147483648 ≤ k ∧ k ≤ 2147483647) : ∃ h', cal (d+6) m_Hook_day [.inr (.inr (6)), .inl (x), .inl (k)] (h) = some (.inl (ansDay S x k), h') ∧ CB h' w (rowDay S x k) G T rs rm nb n fk fp ∧ Fr pDd h h' := by
  obtain ⟨hc, wv, rv, hv, hs, kj⟩ := cb.1
  have wd := hc.wd
  have wk := wv.1.k
  have ha := hv.1
  have ga := g.a
  have gb := g.b
  show ∃ h', EX (d+5) m_Hook_day 0 [(0, .inr (.inr (6))), (1, .inl (x)), (2, .inl (k))] [] (h) = _ ∧ _
  unfold ansDay rowDay
  by_cases ck : 1 ≤ k ∧ k ≤ 60
  · have nk : ¬ ¬ (1 ≤ k ∧ k ≤ 60) := fun z => z ck
    simp only [if_neg nk]
    by_cases c0 : S 1 = 0 ∨ S 2 = 0
    · simp only [if_pos c0]
      refine ⟨h, ?_, cb, Fr.rf⟩
      by_cases c1 : S 1 = 0
      · simp (disch := omega) only [Hook_day_0, Hook_day_5, Hook_day_14, Hook_day_34, wr_id, ix_id, okx, if_pos, if_neg, Int.toNat_of_nonneg, bak_v, bak_n, wr_b01, wr_bt, b01_or, b01_0, b01_1, lc_lt0, lc_gt0, lc_eq0, wl_wr, wr_wr, wl_id, true_and, and_true, true_or, or_true, not_true_eq_false, not_false_eq_true, nc0, nc1, nc2, nc3, nc4, nc5, nc6, nc7, nc8, nc9, nc10, nc11, nc12, nc13, nc14, nc15, nc16, nc17, nc18, nc19, nc20, nc21, nc22, nc23, nc35, nc47, nc59, nc60, nc61, nc73, nc74, nc214, nc215, nc1115, nc2230, nc3345, if_true, if_false, Int.reduceToNat, hc.k6, hc.r5, wk, wv.f5]
      · simp (disch := omega) only [Hook_day_0, Hook_day_5, Hook_day_14, Hook_day_24, Hook_day_34, wr_id, ix_id, okx, if_pos, if_neg, Int.toNat_of_nonneg, bak_v, bak_n, wr_b01, wr_bt, b01_or, b01_0, b01_1, lc_lt0, lc_gt0, lc_eq0, wl_wr, wr_wr, wl_id, true_and, and_true, true_or, or_true, not_true_eq_false, not_false_eq_true, nc0, nc1, nc2, nc3, nc4, nc5, nc6, nc7, nc8, nc9, nc10, nc11, nc12, nc13, nc14, nc15, nc16, nc17, nc18, nc19, nc20, nc21, nc22, nc23, nc35, nc47, nc59, nc60, nc61, nc73, nc74, nc214, nc215, nc1115, nc2230, nc3345, if_true, if_false, Int.reduceToNat, hc.k6, hc.r5, wk, wv.f5, wv.f6]
    · simp only [if_neg c0]
      obtain ⟨h1, e1, hv1, f1⟩ := c_takeFrom (d := d + 4) (a := 28) (b := 26) (hc.2.2.2.2.2.2.2.1.2.1) hv (by omega)
      have hc1 := hc.fr f1
      have wv1 := wv.fr f1 (fun c k c1 c2 => by omega)
      have hvA := hv.fr f1 (by omega) (by omega)
      obtain ⟨h2, e2, hv2, f2⟩ := c_spendDay (d := d) (a := 26) (w := w) (seed := x) (times := k) (by omega) ck wv1 hvA g (by omega) (by omega)
      have hc2 := hc1.fr f2
      have hv28 := hv1.fr f2 (by omega) (by omega)
      obtain ⟨r1, r2, r3, r4⟩ := dayD_ok k.toNat x S 0 g (by omega) (by omega)
      have hs2 := (hs.fr f1 (by omega) (by omega)).fr f2 (by omega) (by omega)
      have F2 : Fr pDd h h2 := (f1.mo (fun a k z => by unfold pDd; omega)).tr (f2.mo (fun a k z => by unfold pDd; omega))
      have wk1 := wv1.1.k
      have ha1 := hvA.1
      have a28 : sK h 28 = 0 := (hc.2.2.2.2.2.2.2.1.2.1).1
      have st : EX (d+5) m_Hook_day 0 [(0, .inr (.inr (6))), (1, .inl (x)), (2, .inl (k))] [] (h) = EX (d+5) m_Hook_day 61 [(0, .inr (.inr (6)))] [.inl ((dayD k.toNat x S 0).2)] (h2) := by
        simp (disch := omega) only [Hook_day_0, Hook_day_5, Hook_day_14, Hook_day_24, Hook_day_37, wr_id, ix_id, okx, if_pos, if_neg, Int.toNat_of_nonneg, bak_v, bak_n, wr_b01, wr_bt, b01_or, b01_0, b01_1, lc_lt0, lc_gt0, lc_eq0, wl_wr, wr_wr, wl_id, true_and, and_true, true_or, or_true, not_true_eq_false, not_false_eq_true, nc0, nc1, nc2, nc3, nc4, nc5, nc6, nc7, nc8, nc9, nc10, nc11, nc12, nc13, nc14, nc15, nc16, nc17, nc18, nc19, nc20, nc21, nc22, nc23, nc35, nc47, nc59, nc60, nc61, nc73, nc74, nc214, nc215, nc1115, nc2230, nc3345, if_true, if_false, Int.reduceToNat, hc.k6, hc.r5, hc.r7, hc.r8, wk, wv.f5, wv.f6, ha.k, a28, e1]
        simp (disch := omega) only [Hook_day_48, wr_id, ix_id, okx, if_pos, if_neg, Int.toNat_of_nonneg, bak_v, bak_n, wr_b01, wr_bt, b01_or, b01_0, b01_1, lc_lt0, lc_gt0, lc_eq0, wl_wr, wr_wr, wl_id, true_and, and_true, true_or, or_true, not_true_eq_false, not_false_eq_true, nc0, nc1, nc2, nc3, nc4, nc5, nc6, nc7, nc8, nc9, nc10, nc11, nc12, nc13, nc14, nc15, nc16, nc17, nc18, nc19, nc20, nc21, nc22, nc23, nc35, nc47, nc59, nc60, nc61, nc73, nc74, nc214, nc215, nc1115, nc2230, nc3345, if_true, if_false, Int.reduceToNat, hc1.k6, hc1.r5, hc1.r7, ha1.k, wk1, e2]
      rw [st]
      by_cases c2 : 0 < (dayD k.toNat x S 0).2
      · simp only [if_pos c2]
        obtain ⟨h3, e3, hs3, f3⟩ := c_push (d := d + 3) (b := 28) hs2 hv28 (by omega)
        have F3 : Fr pDd h h3 := F2.tr (f3.mo (fun a k z => by unfold pDd; omega))
        refine ⟨h3, ?_, cb.deed g hs.2.2.1 F3 (fun a k z => z) (hv2.fr f3 (by omega) (by omega)) hs3 r2, F3⟩
        have k30 := hs2.1.1
        have k28 := hv28.1.k
        simp (disch := omega) only [Hook_day_61, Hook_day_66, Hook_day_77, wr_id, ix_id, okx, if_pos, if_neg, Int.toNat_of_nonneg, bak_v, bak_n, wr_b01, wr_bt, b01_or, b01_0, b01_1, lc_lt0, lc_gt0, lc_eq0, wl_wr, wr_wr, wl_id, true_and, and_true, true_or, or_true, not_true_eq_false, not_false_eq_true, nc0, nc1, nc2, nc3, nc4, nc5, nc6, nc7, nc8, nc9, nc10, nc11, nc12, nc13, nc14, nc15, nc16, nc17, nc18, nc19, nc20, nc21, nc22, nc23, nc35, nc47, nc59, nc60, nc61, nc73, nc74, nc214, nc215, nc1115, nc2230, nc3345, if_true, if_false, Int.reduceToNat, hc2.k6, hc2.r8, hc2.r9, k30, k28, e3]
      · simp only [if_neg c2]
        have e00 : (dayD k.toNat x S 0).2 = 0 := by omega
        have eS : (dayD k.toNat x S 0).1 = S := dayD_0 _ _ S 0 g (by omega) (by omega) e00
        refine ⟨h2, ?_, cb.row g F2 (fun a k z => z) (by rw [eS] at hv2; exact hv2) hs2 As.rf, F2⟩
        rw [e00]
        simp (disch := omega) only [Hook_day_61, Hook_day_77, wr_id, ix_id, okx, if_pos, if_neg, Int.toNat_of_nonneg, bak_v, bak_n, wr_b01, wr_bt, b01_or, b01_0, b01_1, lc_lt0, lc_gt0, lc_eq0, wl_wr, wr_wr, wl_id, true_and, and_true, true_or, or_true, not_true_eq_false, not_false_eq_true, nc0, nc1, nc2, nc3, nc4, nc5, nc6, nc7, nc8, nc9, nc10, nc11, nc12, nc13, nc14, nc15, nc16, nc17, nc18, nc19, nc20, nc21, nc22, nc23, nc35, nc47, nc59, nc60, nc61, nc73, nc74, nc214, nc215, nc1115, nc2230, nc3345, if_true, if_false, Int.reduceToNat]
  · rw [if_pos ck, if_pos ck]
    refine ⟨h, ?_, cb, Fr.rf⟩
    by_cases c1 : k < 1
    · simp (disch := omega) only [Hook_day_0, Hook_day_11, wr_id, ix_id, okx, if_pos, if_neg, Int.toNat_of_nonneg, bak_v, bak_n, wr_b01, wr_bt, b01_or, b01_0, b01_1, lc_lt0, lc_gt0, lc_eq0, wl_wr, wr_wr, wl_id, true_and, and_true, true_or, or_true, not_true_eq_false, not_false_eq_true, nc0, nc1, nc2, nc3, nc4, nc5, nc6, nc7, nc8, nc9, nc10, nc11, nc12, nc13, nc14, nc15, nc16, nc17, nc18, nc19, nc20, nc21, nc22, nc23, nc35, nc47, nc59, nc60, nc61, nc73, nc74, nc214, nc215, nc1115, nc2230, nc3345, if_true, if_false, Int.reduceToNat]
    · simp (disch := omega) only [Hook_day_0, Hook_day_5, Hook_day_11, wr_id, ix_id, okx, if_pos, if_neg, Int.toNat_of_nonneg, bak_v, bak_n, wr_b01, wr_bt, b01_or, b01_0, b01_1, lc_lt0, lc_gt0, lc_eq0, wl_wr, wr_wr, wl_id, true_and, and_true, true_or, or_true, not_true_eq_false, not_false_eq_true, nc0, nc1, nc2, nc3, nc4, nc5, nc6, nc7, nc8, nc9, nc10, nc11, nc12, nc13, nc14, nc15, nc16, nc17, nc18, nc19, nc20, nc21, nc22, nc23, nc35, nc47, nc59, nc60, nc61, nc73, nc74, nc214, nc215, nc1115, nc2230, nc3345, if_true, if_false, Int.reduceToNat]
