/-! the class's calls: images -/
def Av (S S' : Int → Int) : Prop := ∀ k, 0 ≤ k → k < 1115 → ¬ k = 73 → S' k = S k
theorem evl_aw {S S' : Int → Int} (a : Av S S') {x y : Int} (hx : 0 ≤ x ∧ x < 12) (hy : 0 ≤ y ∧ y < 12) : ∀ (n : Nat) (k : Int) (st : List Int), 0 ≤ k → k + n ≤ 900 → evl S' x y n k st = evl S x y n k st := by
  intro n
  induction n with
  | zero => intro k st _ _; rfl
  | succ n ih =>
    intro k st hk hn
    have e : stp S' x y (S' (215 + k)) st = stp S x y (S (215 + k)) st := by
      rw [a (215 + k) (by omega) (by omega) (by omega)]
      unfold stp cellV
      rw [a (35 + x) (by omega) (by omega) (by omega), a (47 + y) (by omega) (by omega) (by omega), a 1 (by omega) (by omega) (by omega), a 2 (by omega) (by omega) (by omega)]
    simp only [evl]
    rw [e, ih _ _ (by omega) (by omega)]
theorem tyr_aw {S S' : Int → Int} (a : Av S S') : ∀ (n : Nat) (k : Int) (t : List Bool), 0 ≤ k → k + n ≤ 900 → tyr S' n k t = tyr S n k t := by
  intro n
  induction n with
  | zero => intro k t _ _; rfl
  | succ n ih =>
    intro k t hk hn
    simp only [tyr]
    rw [a (215 + k) (by omega) (by omega) (by omega)]
    cases tys (S (215 + k)) t with
    | none => rfl
    | some t' => simp only [ih (k + 1) t' (by omega) (by omega)]
theorem lawV_aw {S S' : Int → Int} (a : Av S S') (lo : LawOk S) {x y : Int} (hx : 0 ≤ x ∧ x < 12) (hy : 0 ≤ y ∧ y < 12) : lawV S' x y = lawV S x y := by
  unfold lawV
  rw [a 9 (by omega) (by omega) (by omega), a 214 (by omega) (by omega) (by omega)]
  rcases lo.1 with z | z
  · rw [if_pos z, if_pos z]
  · have := lo.2 z
    rw [if_neg (by omega), if_neg (by omega), evl_aw a hx hy _ _ _ (by omega) (by omega)]
theorem LawOk.aw {S S' : Int → Int} (l : LawOk S) (a : Av S S') : LawOk S' := by
  unfold LawOk at *
  rw [a 9 (by omega) (by omega) (by omega), a 214 (by omega) (by omega) (by omega)]
  refine ⟨l.1, fun z => ?_⟩
  obtain ⟨l1, l2, l3⟩ := l.2 z
  exact ⟨l1, l2, by rw [tyr_aw a _ _ _ (by omega) (by omega)]; exact l3⟩
theorem Gd.aw {S S' : Int → Int} (g : Gd S) (a : Av S S') : Gd S' := g.cg (fun k h1 h2 h3 h4 => a k (by omega) (by omega) (by omega))
theorem WV.aw {h : Hp} {w : Nat} {S S' : Int → Int} (v : WV h w S) (a : Av S S') (g : GdW S) : WV h w S' := by
  have g1 := g.1
  have g2 := g.2.1
  obtain ⟨v1, v2, v3⟩ := v
  have b : ∀ k, 0 ≤ k → k < 59 → S' k = S k := fun k k0 k1 => a k k0 (by omega) (by omega)
  refine ⟨v1, ?_, v3.cg (by omega) (by omega) (b 1 (by omega) (by omega)) (b 2 (by omega) (by omega)) (fun k k0 k1 => b k (by omega) (by omega)) (fun _ _ _ _ => rfl)⟩
  unfold WVf at *
  rw [b 1 (by omega) (by omega), b 2 (by omega) (by omega), b 3 (by omega) (by omega), b 4 (by omega) (by omega), b 5 (by omega) (by omega), b 6 (by omega) (by omega), b 7 (by omega) (by omega), b 8 (by omega) (by omega), b 10 (by omega) (by omega), b 0 (by omega) (by omega)]
  exact v2
theorem RV.aw {h : Hp} {w : Nat} {S S' : Int → Int} (v : RV h w S) (a : Av S S') (g : GdW S) (lo : LawOk S) : RV h w S' := by
  intro k hk r h0 h1
  have g1 := g.1
  have g2 := g.2.1
  rw [a 1 (by omega) (by omega) (by omega)] at hk
  rw [a 2 (by omega) (by omega) (by omega)] at h1
  rw [lawV_aw a lo (by omega) (by omega)]
  exact v k hk r h0 h1
theorem HV.aw {h : Hp} {w : Nat} {S S' : Int → Int} (v : HV h w S) (a : Av S S') : HV h w S' := v.cg (p := fun _ _ => False) Fr.rf (fun _ => id) (fun _ => id) (fun k k0 k1 => a k (by omega) (by omega) (by omega))
theorem imR_im {S : Int → Int} {i : Int} (hi : 0 ≤ i ∧ i ≤ 1) : Av S (imR (imS S i) i) := fun k k0 k1 _ => by
  unfold imR imS
  rw [if_pos ⟨k0, k1⟩, if_pos (by omega), show 1115 * (i + 1) + k - 1115 * (i + 1) = k by omega]
theorem imS_aw {S : Int → Int} {i : Int} (hi : 0 ≤ i ∧ i ≤ 1) : ∀ k, k < 1115 → imS S i k = S k := fun k k1 => by
  unfold imS
  rw [if_neg (by omega)]
theorem imR_o {S : Int → Int} {i j : Int} (hi : 0 ≤ i ∧ i ≤ 1) (hj : 0 ≤ j ∧ j ≤ 1) (h : ¬ j = i) : imR (imS S i) j = imR S j := by
  funext k
  unfold imR imS
  by_cases c : 0 ≤ k ∧ k < 1115
  · rw [if_pos c, if_pos c, if_neg (by omega)]
  · rw [if_neg c, if_neg c]
/-- what images may write -/
def pIm (a _k : Nat) : Prop := 43 ≤ a ∧ a ≤ 59
theorem cc_image_ok {d w : Nat} {h : Hp} {S G T rs rm nb : Int → Int} {n fk fp : Int} (cb : CB h w S G T rs rm nb n fk fp) (g : Gd S) (lo : LawOk S) {i : Int} (hi : 0 ≤ i ∧ i ≤ 1) : ∃ h', cal (d+3) m_Hook_image [.inr (.inr (6)), .inl (i)] (h) = some (.inl 0, h') ∧ CB h' w (imS S i) (up G i 1) T rs rm nb n fk fp ∧ Fr pIm h h' := by
  obtain ⟨hc, wv, rv, hv, hs, kj⟩ := cb.1
  obtain ⟨b1, b2, b3, b4, b5⟩ := cb.2.1
  have ci := cb.2.2
  have wd := hc.wd
  obtain ⟨i', rfl⟩ := Int.eq_ofNat_of_zero_le hi.1
  have ix' : (((i' : Nat) : Int)).toNat = i' := by omega
  have i2 : i' = 0 ∨ i' = 1 := by omega
  have wa : ∀ {h : Hp}, CR h w → WinAt h (44 + 8 * i') := fun c => by rcases i2 with e | e <;> subst e; exact c.w44; exact c.w52
  have hg : ∀ {h : Hp}, CR h w → HangAt h (50 + 8 * i') := fun c => by rcases i2 with e | e <;> subst e; exact c.2.2.2.2.2.2.2.1.2.2.1; exact c.2.2.2.2.2.2.2.1.2.2.2
  have r41 : ∀ {h : Hp}, CR h w → hR h 41 i' = 44 + 8 * i' := fun c => by rcases i2 with e | e <;> subst e; exact c.r41_0; exact c.r41_1
  have r42 : ∀ {h : Hp}, CR h w → hR h 42 i' = 50 + 8 * i' := fun c => by rcases i2 with e | e <;> subst e; exact c.r42_0; exact c.r42_1
  obtain ⟨h1, e1, wv1, rv1, f1⟩ := c_winTake (d := d + 1) (wa hc) wv rv g.1 (by omega)
  have hc1 := hc.fr f1
  have hvA := hv.fr f1 (by omega) (by omega)
  obtain ⟨h2, e2, hv2, f2⟩ := c_takeFrom (d := d + 1) (hg hc1) hvA (by omega)
  have hc2 := hc1.fr f2
  have f3 : Fr (fun a k => a = 43 ∧ k = i') h2 (pI h2 43 i' 1) := Fr.pI Fr.rf ⟨rfl, rfl⟩
  have F : Fr (fun a k => (44 + 8 * i' ≤ a ∧ a ≤ 51 + 8 * i') ∨ (a = 43 ∧ k = i')) h (pI h2 43 i' 1) := ((f1.mo (fun a k z => by omega)).tr (f2.mo (fun a k z => by omega))).tr (f3.mo (fun a k z => by omega))
  have aw := imS_aw (S := S) hi
  have awS : Av S (imS S i') := fun k _ k1 _ => aw k k1
  refine ⟨pI h2 43 i' 1, ?_, ⟨⟨hc2.fr f3, (wv.fr F (fun c k c1 c2 => by omega)).aw awS g.1, (rv.fr F (fun k => by omega)).aw awS g.1 lo, (hv.fr F (by omega) (by omega)).aw awS, (hs.fr F (by omega) (by omega)).cg (fun k k0 k1 => aw k (by omega)), (kj.fr F (fun a k z => by omega)).as (fun k hk => aw k (by omega)) g⟩, ⟨b1.fr F (by omega), fun k hk => by rw [F.I (by omega)]; exact b2 k hk, by rw [F.I (show ¬ ((44 + 8 * i' ≤ 6 ∧ 6 ≤ 51 + 8 * i') ∨ (6 = 43 ∧ 1 = i')) by omega), F.I (show ¬ ((44 + 8 * i' ≤ 6 ∧ 6 ≤ 51 + 8 * i') ∨ (6 = 43 ∧ 3 = i')) by omega), F.I (show ¬ ((44 + 8 * i' ≤ 6 ∧ 6 ≤ 51 + 8 * i') ∨ (6 = 43 ∧ 4 = i')) by omega)]; exact b3, by rw [F.I (by omega)]; exact b4, b5.fr F (by omega)⟩, fun j hj => ?_⟩, F.mo (fun a k z => by unfold pIm; omega)⟩
  · show EX (d+2) m_Hook_image 0 [(0, .inr (.inr (6))), (1, .inl ((i' : Int)))] [] (h) = _
    have wk := wv.1.k
    have wak := (wa hc).k
    have hgk := (hg hc1).k
    have hAk := hvA.1.k
    have q1 := r41 hc
    have q2 := r42 hc1
    simp (disch := omega) only [Hook_image_0, Hook_image_4, Hook_image_12, wr_id, ix_id, okx, if_pos, if_neg, Int.toNat_of_nonneg, bak_v, bak_n, wr_b01, wr_bt, b01_or, b01_0, b01_1, lc_lt0, lc_gt0, lc_eq0, wl_wr, wr_wr, wl_id, true_and, and_true, true_or, or_true, not_true_eq_false, not_false_eq_true, nc0, nc1, nc2, nc3, nc4, nc5, nc6, nc7, nc8, nc9, nc10, nc11, nc12, nc13, nc14, nc15, nc16, nc17, nc18, nc19, nc20, nc21, nc22, nc23, nc35, nc47, nc59, nc60, nc61, nc73, nc74, nc214, nc215, nc1115, nc2230, nc3345, if_true, if_false, Int.reduceToNat, hc.k6, hc.r5, hc.r11, hc.k41, hc.n41, ix', q1, wk, wak, e1]
    simp (disch := omega) only [Hook_image_25, wr_id, ix_id, okx, if_pos, if_neg, Int.toNat_of_nonneg, bak_v, bak_n, wr_b01, wr_bt, b01_or, b01_0, b01_1, lc_lt0, lc_gt0, lc_eq0, wl_wr, wr_wr, wl_id, true_and, and_true, true_or, or_true, not_true_eq_false, not_false_eq_true, nc0, nc1, nc2, nc3, nc4, nc5, nc6, nc7, nc8, nc9, nc10, nc11, nc12, nc13, nc14, nc15, nc16, nc17, nc18, nc19, nc20, nc21, nc22, nc23, nc35, nc47, nc59, nc60, nc61, nc73, nc74, nc214, nc215, nc1115, nc2230, nc3345, if_true, if_false, Int.reduceToNat, hc1.k6, hc1.r7, hc1.r12, hc1.k42, hc1.n42, ix', q2, hgk, hAk, e2]
    simp (disch := omega) only [Hook_image_38, Hook_image_45, wr_id, ix_id, okx, if_pos, if_neg, Int.toNat_of_nonneg, bak_v, bak_n, wr_b01, wr_bt, b01_or, b01_0, b01_1, lc_lt0, lc_gt0, lc_eq0, wl_wr, wr_wr, wl_id, true_and, and_true, true_or, or_true, not_true_eq_false, not_false_eq_true, nc0, nc1, nc2, nc3, nc4, nc5, nc6, nc7, nc8, nc9, nc10, nc11, nc12, nc13, nc14, nc15, nc16, nc17, nc18, nc19, nc20, nc21, nc22, nc23, nc35, nc47, nc59, nc60, nc61, nc73, nc74, nc214, nc215, nc1115, nc2230, nc3345, if_true, if_false, Int.reduceToNat, hc2.k6, hc2.r13, hc2.k43, hc2.n43, ix', or_true, and_true]
  · by_cases c : j = i'
    · subst c
      have ai := imR_im (S := S) hi
      refine ⟨by rw [hI_pI, if_pos ⟨rfl, rfl⟩, up_same], fun _ => ⟨?_, ?_, ?_⟩⟩
      · exact ((wv1.fr f2 (fun c k c1 c2 => by omega)).fr f3 (fun c k c1 c2 => by omega)).aw ai g.1
      · exact ((rv1.fr f2 (fun k => by omega)).fr f3 (fun k => by omega)).aw ai g.1 lo
      · exact (hv2.fr f3 (by omega) (by omega)).aw ai
    · obtain ⟨j1, j2⟩ := ci j hj
      rw [imR_o hi (by omega) (show ¬ (j : Int) = (i' : Int) by omega), up_ne (show ¬ (j : Int) = (i' : Int) by omega)]
      refine ⟨by rw [F.I (by omega)]; exact j1, fun z => ?_⟩
      obtain ⟨k1, k2, k3⟩ := j2 z
      exact ⟨k1.fr F (fun c k c1 c2 => by omega), k2.fr F (fun k => by omega), k3.fr F (by omega) (by omega)⟩
theorem cc_image_no {d w : Nat} {h : Hp} {S G T rs rm nb : Int → Int} {n fk fp : Int} (_cb : CB h w S G T rs rm nb n fk fp) {i : Int} (ri : -2147483648 ≤ i ∧ i ≤ 2147483647) (hi : ¬ (0 ≤ i ∧ i ≤ 1)) : cal (d+3) m_Hook_image [.inr (.inr (6)), .inl (i)] (h) = some (.inl (-2), h) := by
  show EX (d+2) m_Hook_image 0 [(0, .inr (.inr (6))), (1, .inl (i))] [] (h) = _
  by_cases c : i < 0
  · simp (disch := omega) only [Hook_image_0, Hook_image_9, wr_id, ix_id, okx, if_pos, if_neg, Int.toNat_of_nonneg, bak_v, bak_n, wr_b01, wr_bt, b01_or, b01_0, b01_1, lc_lt0, lc_gt0, lc_eq0, wl_wr, wr_wr, wl_id, true_and, and_true, true_or, or_true, not_true_eq_false, not_false_eq_true, nc0, nc1, nc2, nc3, nc4, nc5, nc6, nc7, nc8, nc9, nc10, nc11, nc12, nc13, nc14, nc15, nc16, nc17, nc18, nc19, nc20, nc21, nc22, nc23, nc35, nc47, nc59, nc60, nc61, nc73, nc74, nc214, nc215, nc1115, nc2230, nc3345, if_true, if_false, Int.reduceToNat]
  · simp (disch := omega) only [Hook_image_0, Hook_image_4, Hook_image_9, wr_id, ix_id, okx, if_pos, if_neg, Int.toNat_of_nonneg, bak_v, bak_n, wr_b01, wr_bt, b01_or, b01_0, b01_1, lc_lt0, lc_gt0, lc_eq0, wl_wr, wr_wr, wl_id, true_and, and_true, true_or, or_true, not_true_eq_false, not_false_eq_true, nc0, nc1, nc2, nc3, nc4, nc5, nc6, nc7, nc8, nc9, nc10, nc11, nc12, nc13, nc14, nc15, nc16, nc17, nc18, nc19, nc20, nc21, nc22, nc23, nc35, nc47, nc59, nc60, nc61, nc73, nc74, nc214, nc215, nc1115, nc2230, nc3345, if_true, if_false, Int.reduceToNat]
theorem c_hForget {d w : Nat} {h : Hp} (hc : CR h w) : cal (d+1) m_History_forget [.inr (.inr (30))] (h) = some (.inl 0, pI h 30 2 0) := by
  have k := hc.2.2.2.2.2.2.2.2.1
  show EX (d) m_History_forget 0 [(0, .inr (.inr (30)))] [] (h) = _
  simp (disch := omega) only [History_forget_0, History_forget_5, wr_id, ix_id, okx, if_pos, if_neg, Int.toNat_of_nonneg, bak_v, bak_n, wr_b01, wr_bt, b01_or, b01_0, b01_1, lc_lt0, lc_gt0, lc_eq0, wl_wr, wr_wr, wl_id, true_and, and_true, true_or, or_true, not_true_eq_false, not_false_eq_true, nc0, nc1, nc2, nc3, nc4, nc5, nc6, nc7, nc8, nc9, nc10, nc11, nc12, nc13, nc14, nc15, nc16, nc17, nc18, nc19, nc20, nc21, nc22, nc23, nc35, nc47, nc59, nc60, nc61, nc73, nc74, nc214, nc215, nc1115, nc2230, nc3345, if_true, if_false, Int.reduceToNat, k]
theorem c_jForget {d w : Nat} {h : Hp} (hc : CR h w) : cal (d+1) m_Joinings_forget [.inr (.inr (60))] (h) = some (.inl 0, pI (pI h 60 3 0) 60 7 0) := by
  show EX (d) m_Joinings_forget 0 [(0, .inr (.inr (60)))] [] (h) = _
  simp (disch := omega) only [Joinings_forget_0, Joinings_forget_5, Joinings_forget_10, wr_id, ix_id, okx, if_pos, if_neg, Int.toNat_of_nonneg, bak_v, bak_n, wr_b01, wr_bt, b01_or, b01_0, b01_1, lc_lt0, lc_gt0, lc_eq0, wl_wr, wr_wr, wl_id, true_and, and_true, true_or, or_true, not_true_eq_false, not_false_eq_true, nc0, nc1, nc2, nc3, nc4, nc5, nc6, nc7, nc8, nc9, nc10, nc11, nc12, nc13, nc14, nc15, nc16, nc17, nc18, nc19, nc20, nc21, nc22, nc23, nc35, nc47, nc59, nc60, nc61, nc73, nc74, nc214, nc215, nc1115, nc2230, nc3345, if_true, if_false, Int.reduceToNat, hc.k60, sK_pI]
theorem HisV.z {h : Hp} {S S' : Int → Int} (v : HisV h S) (h0 : S' 73 = 0) : HisV (pI h 30 2 0) S' := by
  obtain ⟨v1, v2, v3, v4, v5⟩ := v
  refine ⟨⟨v1.1, v1.2.1, v1.2.2⟩, by rw [hI_pI, if_pos ⟨rfl, rfl⟩, h0], by omega, by rw [hI_pI, if_neg (by omega)]; exact v4, fun j j0 j1 => by omega⟩
theorem reS_im {S : Int → Int} {i : Int} : Av (imR S i) (reS S i) := fun k k0 k1 k2 => by
  unfold imR reS
  rw [if_neg k2, if_pos ⟨k0, k1⟩, if_pos ⟨k0, k1⟩]
theorem imR_re {S : Int → Int} {i j : Int} (hj : 0 ≤ j ∧ j ≤ 1) : imR (reS S i) j = imR S j := by
  funext k
  unfold imR reS
  by_cases c : 0 ≤ k ∧ k < 1115
  · rw [if_pos c, if_pos c, if_neg (by omega), if_neg (by omega)]
  · rw [if_neg c, if_neg c]
/-- what a restored image may write -/
def pRs (w a k : Nat) : Prop := (w ≤ a ∧ a ≤ w + 5) ∨ a = 26 ∨ a = 27 ∨ a = 30 ∨ (a = 60 ∧ (k = 3 ∨ k = 7))
theorem cc_restore {d w : Nat} {h : Hp} {S G T rs rm nb : Int → Int} {n fk fp : Int} (cb : CB h w S G T rs rm nb n fk fp) (hG : ∀ i : Nat, i < 2 → (G i = 0 ∨ G i = 1) ∧ (G i = 1 → Gd (imR S i) ∧ LawOk (imR S i))) {i : Int} (ri : -2147483648 ≤ i ∧ i ≤ 2147483647) : ∃ h', cal (d+3) m_Hook_restore [.inr (.inr (6)), .inl (i)] (h) = some (.inl (ansRe G i), h') ∧ CB h' w (rowRe S G i) G T rs rm nb n fk fp ∧ Fr (pRs w) h h' := by
  obtain ⟨hc, wv, rv, hv, hs, kj⟩ := cb.1
  obtain ⟨b1, b2, b3, b4, b5⟩ := cb.2.1
  have ci := cb.2.2
  have wd := hc.wd
  show ∃ h', EX (d+2) m_Hook_restore 0 [(0, .inr (.inr (6))), (1, .inl (i))] [] (h) = _ ∧ _
  unfold ansRe rowRe
  by_cases hi : 0 ≤ i ∧ i ≤ 1
  · have ni : ¬ ¬ (0 ≤ i ∧ i ≤ 1) := fun z => z hi
    simp only [if_neg ni]
    obtain ⟨i', rfl⟩ := Int.eq_ofNat_of_zero_le hi.1
    have ix' : (((i' : Nat) : Int)).toNat = i' := by omega
    have i2 : i' = 0 ∨ i' = 1 := by omega
    obtain ⟨g43, gi⟩ := ci i' (by omega)
    obtain ⟨gg, gk⟩ := hG i' (by omega)
    by_cases c0 : G i' = 0
    · simp only [if_pos c0]
      refine ⟨h, ?_, cb, Fr.rf⟩
      rw [c0] at g43
      simp (disch := omega) only [Hook_restore_0, Hook_restore_4, Hook_restore_12, Hook_restore_21, wr_id, ix_id, okx, if_pos, if_neg, Int.toNat_of_nonneg, bak_v, bak_n, wr_b01, wr_bt, b01_or, b01_0, b01_1, lc_lt0, lc_gt0, lc_eq0, wl_wr, wr_wr, wl_id, true_and, and_true, true_or, or_true, not_true_eq_false, not_false_eq_true, nc0, nc1, nc2, nc3, nc4, nc5, nc6, nc7, nc8, nc9, nc10, nc11, nc12, nc13, nc14, nc15, nc16, nc17, nc18, nc19, nc20, nc21, nc22, nc23, nc35, nc47, nc59, nc60, nc61, nc73, nc74, nc214, nc215, nc1115, nc2230, nc3345, if_true, if_false, Int.reduceToNat, hc.k6, hc.r13, hc.k43, hc.n43, ix', g43]
    · simp only [if_neg c0]
      have c1 : G i' = 1 := by omega
      obtain ⟨wi, ri', hi'⟩ := gi c1
      obtain ⟨gd, lo⟩ := gk c1
      have r41 : hR h 41 i' = 44 + 8 * i' := by rcases i2 with e | e <;> subst e; exact hc.r41_0; exact hc.r41_1
      obtain ⟨h1, e1, wv1, rv1, f1⟩ := c_winTake (d := d + 1) (hc.ww) wi ri' gd.1 (by omega)
      have hc1 := hc.fr f1
      have hi1 := hi'.fr f1 (by omega) (by omega)
      have r42 : hR h1 42 i' = 50 + 8 * i' := by rcases i2 with e | e <;> subst e; exact hc1.r42_0; exact hc1.r42_1
      obtain ⟨h2, e2, hv2, f2⟩ := c_takeFrom (d := d + 1) (hv.1.fr f1) hi1 (by omega)
      have hc2 := hc1.fr f2
      have e3 := c_hForget (d := d + 1) hc2
      have f3 : Fr (fun a k => a = 30) h2 (pI h2 30 2 0) := Fr.pI Fr.rf rfl
      have hc3 := hc2.fr f3
      have e4 := c_jForget (d := d + 1) hc3
      have f4 : Fr (fun a k => a = 60 ∧ (k = 3 ∨ k = 7)) (pI h2 30 2 0) (pI (pI (pI h2 30 2 0) 60 3 0) 60 7 0) := Fr.pI (Fr.pI Fr.rf (by omega)) (by omega)
      have hc4 := hc3.fr f4
      have F : Fr (pRs w) h (pI (pI (pI h2 30 2 0) 60 3 0) 60 7 0) := (((f1.mo (fun a k z => Or.inl z)).tr (f2.mo (fun a k z => by omega))).tr (f3.mo (fun a k z => by omega))).tr (f4.mo (fun a k z => by omega))
      have aw := reS_im (S := S) (i := i')
      have np : ∀ a k, ¬ ((w ≤ a ∧ a ≤ w + 5) ∨ a = 26 ∨ a = 27 ∨ a = 30 ∨ (a = 60 ∧ (k = 3 ∨ k = 7))) → ¬ pRs w a k := fun a k z => z
      refine ⟨_, ?_, ⟨⟨hc4, ((((wv1.fr f2 (fun c k c1 c2 => by omega)).fr f3 (fun c k c1 c2 => by omega)).fr f4 (fun c k c1 c2 => by omega)).aw aw gd.1), ((((rv1.fr f2 (fun k => by omega)).fr f3 (fun k => by omega)).fr f4 (fun k => by omega)).aw aw gd.1 lo), (((hv2.fr f3 (by omega) (by omega)).fr f4 (by omega) (by omega)).aw aw), ?_, ⟨Or.inl (by simp [hI_pI]), Or.inl (by simp [hI_pI])⟩⟩, ⟨b1.fr F (fun a k a0 a1 => np a k (by omega)), fun k hk => by rw [F.I (np _ _ (by omega))]; exact b2 k hk, by rw [F.I (np 6 1 (by omega)), F.I (np 6 3 (by omega)), F.I (np 6 4 (by omega))]; exact b3, by rw [F.I (np _ _ (by omega))]; exact b4, b5.fr F (fun a k z => by unfold pRs at z; omega)⟩, fun j hj => ?_⟩, F⟩
      · have wk := (hc.ww).k
        have wik := wi.1.k
        have a26 := (hv.1.fr f1).k
        have hik := hi1.1.k
        have k30 := hc2.2.2.2.2.2.2.2.2.1
        rw [c1] at g43
        simp (disch := omega) only [Hook_restore_0, Hook_restore_4, Hook_restore_12, Hook_restore_24, wr_id, ix_id, okx, if_pos, if_neg, Int.toNat_of_nonneg, bak_v, bak_n, wr_b01, wr_bt, b01_or, b01_0, b01_1, lc_lt0, lc_gt0, lc_eq0, wl_wr, wr_wr, wl_id, true_and, and_true, true_or, or_true, not_true_eq_false, not_false_eq_true, nc0, nc1, nc2, nc3, nc4, nc5, nc6, nc7, nc8, nc9, nc10, nc11, nc12, nc13, nc14, nc15, nc16, nc17, nc18, nc19, nc20, nc21, nc22, nc23, nc35, nc47, nc59, nc60, nc61, nc73, nc74, nc214, nc215, nc1115, nc2230, nc3345, if_true, if_false, Int.reduceToNat, hc.k6, hc.r5, hc.r11, hc.r13, hc.k41, hc.n41, hc.k43, hc.n43, ix', g43, r41, wk, wik, e1]
        simp (disch := omega) only [Hook_restore_37, wr_id, ix_id, okx, if_pos, if_neg, Int.toNat_of_nonneg, bak_v, bak_n, wr_b01, wr_bt, b01_or, b01_0, b01_1, lc_lt0, lc_gt0, lc_eq0, wl_wr, wr_wr, wl_id, true_and, and_true, true_or, or_true, not_true_eq_false, not_false_eq_true, nc0, nc1, nc2, nc3, nc4, nc5, nc6, nc7, nc8, nc9, nc10, nc11, nc12, nc13, nc14, nc15, nc16, nc17, nc18, nc19, nc20, nc21, nc22, nc23, nc35, nc47, nc59, nc60, nc61, nc73, nc74, nc214, nc215, nc1115, nc2230, nc3345, if_true, if_false, Int.reduceToNat, hc1.k6, hc1.r7, hc1.r12, hc1.k42, hc1.n42, ix', r42, a26, hik, e2]
        simp (disch := omega) only [Hook_restore_50, wr_id, ix_id, okx, if_pos, if_neg, Int.toNat_of_nonneg, bak_v, bak_n, wr_b01, wr_bt, b01_or, b01_0, b01_1, lc_lt0, lc_gt0, lc_eq0, wl_wr, wr_wr, wl_id, true_and, and_true, true_or, or_true, not_true_eq_false, not_false_eq_true, nc0, nc1, nc2, nc3, nc4, nc5, nc6, nc7, nc8, nc9, nc10, nc11, nc12, nc13, nc14, nc15, nc16, nc17, nc18, nc19, nc20, nc21, nc22, nc23, nc35, nc47, nc59, nc60, nc61, nc73, nc74, nc214, nc215, nc1115, nc2230, nc3345, if_true, if_false, Int.reduceToNat, hc2.k6, hc2.r9, k30, e3]
        simp (disch := omega) only [Hook_restore_57, Hook_restore_64, wr_id, ix_id, okx, if_pos, if_neg, Int.toNat_of_nonneg, bak_v, bak_n, wr_b01, wr_bt, b01_or, b01_0, b01_1, lc_lt0, lc_gt0, lc_eq0, wl_wr, wr_wr, wl_id, true_and, and_true, true_or, or_true, not_true_eq_false, not_false_eq_true, nc0, nc1, nc2, nc3, nc4, nc5, nc6, nc7, nc8, nc9, nc10, nc11, nc12, nc13, nc14, nc15, nc16, nc17, nc18, nc19, nc20, nc21, nc22, nc23, nc35, nc47, nc59, nc60, nc61, nc73, nc74, nc214, nc215, nc1115, nc2230, nc3345, if_true, if_false, Int.reduceToNat, hc3.k6, hc3.r14, hc3.k60, e4]
      · have z : reS S i' 73 = 0 := by unfold reS; rw [if_pos rfl]
        exact (((hs.fr f1 (by omega) (by omega)).fr f2 (by omega) (by omega)).z z).fr f4 (by omega) (by omega)
      · obtain ⟨j1, j2⟩ := ci j hj
        rw [imR_re (by omega)]
        refine ⟨by rw [F.I (np _ _ (by omega))]; exact j1, fun z => ?_⟩
        obtain ⟨k1, k2, k3⟩ := j2 z
        exact ⟨k1.fr F (fun c k c1 c2 => np _ _ (by omega)), k2.fr F (fun k => np _ _ (by omega)), k3.fr F (fun k => np _ _ (by omega)) (fun k => np _ _ (by omega))⟩
  · simp only [if_pos hi]
    refine ⟨h, ?_, cb, Fr.rf⟩
    by_cases c : i < 0
    · simp (disch := omega) only [Hook_restore_0, Hook_restore_9, wr_id, ix_id, okx, if_pos, if_neg, Int.toNat_of_nonneg, bak_v, bak_n, wr_b01, wr_bt, b01_or, b01_0, b01_1, lc_lt0, lc_gt0, lc_eq0, wl_wr, wr_wr, wl_id, true_and, and_true, true_or, or_true, not_true_eq_false, not_false_eq_true, nc0, nc1, nc2, nc3, nc4, nc5, nc6, nc7, nc8, nc9, nc10, nc11, nc12, nc13, nc14, nc15, nc16, nc17, nc18, nc19, nc20, nc21, nc22, nc23, nc35, nc47, nc59, nc60, nc61, nc73, nc74, nc214, nc215, nc1115, nc2230, nc3345, if_true, if_false, Int.reduceToNat]
    · simp (disch := omega) only [Hook_restore_0, Hook_restore_4, Hook_restore_9, wr_id, ix_id, okx, if_pos, if_neg, Int.toNat_of_nonneg, bak_v, bak_n, wr_b01, wr_bt, b01_or, b01_0, b01_1, lc_lt0, lc_gt0, lc_eq0, wl_wr, wr_wr, wl_id, true_and, and_true, true_or, or_true, not_true_eq_false, not_false_eq_true, nc0, nc1, nc2, nc3, nc4, nc5, nc6, nc7, nc8, nc9, nc10, nc11, nc12, nc13, nc14, nc15, nc16, nc17, nc18, nc19, nc20, nc21, nc22, nc23, nc35, nc47, nc59, nc60, nc61, nc73, nc74, nc214, nc215, nc1115, nc2230, nc3345, if_true, if_false, Int.reduceToNat]
