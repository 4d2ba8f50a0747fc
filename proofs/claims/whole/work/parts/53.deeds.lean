/-! deeds told in a tray; a day -/
/-- the same but for joins, chair, seconds -/
def Ah (S S' : Int → Int) : Prop := ∀ k, (k < 59 ∨ 73 ≤ k) → S' k = S k
theorem Ah.rf {S : Int → Int} : Ah S S := fun _ _ => rfl
theorem Ah.tr {S S' S'' : Int → Int} (a : Ah S S') (b : Ah S' S'') : Ah S S'' := fun k h => (b k h).trans (a k h)
theorem Ah.ag {S S' : Int → Int} (a : Ah S S') : Ag S S' := fun k _ h => a k (by omega)
theorem goS_ah (S : Int → Int) (r : Int) : Ah S (goS S r) := fun k h => by unfold goS; rw [up_ne (by omega), up_ne (by omega)]
theorem joinS_ah (S : Int → Int) {x y : Int} (hx : 0 ≤ x ∧ x < 12) : Ah S (joinS S x y) := fun k h => by unfold joinS; rw [up_ne (by omega)]; exact goS_ah S y k h
theorem offS_ah (S : Int → Int) {x : Int} (hx : 0 ≤ x ∧ x < 12) : Ah S (offS S x) := fun k h => by unfold offS; rw [up_ne (by omega)]; exact goS_ah S _ k h
def whyD (S : Int → Int) (v : Int) : Int := if 0 ≤ v ∧ v < 144 then whyM S (v / 12) (v % 12) else if 200 ≤ v ∧ v < 212 then offM S (v - 200) else 1
def doD (S : Int → Int) (v : Int) : Int → Int := if v < 200 then joinS S (v / 12) (v % 12) else offS S (v - 200)
def runD (T : Int → Int) : Nat → Int → (Int → Int) → (Int → Int) × Int × Int
  | 0, k, S => (S, k, 0)
  | n + 1, k, S => if whyD S (T k) = 0 then runD T n (k + 1) (doD S (T k)) else (S, k, whyD S (T k))
theorem whyM_rng (S : Int → Int) (x y : Int) : 0 ≤ whyM S x y ∧ whyM S x y ≤ 4 := by
  unfold whyM
  repeat' split
  all_goals omega
theorem offM_rng (S : Int → Int) (x : Int) : 0 ≤ offM S x ∧ offM S x ≤ 2 := by
  unfold offM
  repeat' split
  all_goals omega
theorem whyD_rng (S : Int → Int) (v : Int) : 0 ≤ whyD S v ∧ whyD S v ≤ 4 := by
  have a := whyM_rng S (v / 12) (v % 12)
  have b := offM_rng S (v - 200)
  unfold whyD
  repeat' split
  all_goals omega
theorem whyD_0 {S : Int → Int} {v : Int} (h : whyD S v = 0) : (0 ≤ v ∧ v < 144 ∧ whyM S (v / 12) (v % 12) = 0) ∨ (200 ≤ v ∧ v < 212 ∧ offM S (v - 200) = 0) := by
  unfold whyD at h
  split at h
  · left; omega
  · split at h
    · right; omega
    · omega
theorem doD_ok {S : Int → Int} (g : Gd S) {v : Int} (h : whyD S v = 0) : Gd (doD S v) ∧ Ah S (doD S v) := by
  have ga := g.a
  have gb := g.b
  unfold doD
  rcases whyD_0 h with ⟨h1, h2, h3⟩ | ⟨h1, h2, h3⟩
  · rw [if_pos (by omega)]
    have := whyM_0 g h3
    exact ⟨Gd_join g h3, joinS_ah S (by omega)⟩
  · rw [if_neg (by omega)]
    have := offM_0 h3
    exact ⟨Gd_off g h3, offS_ah S (by omega)⟩
theorem runD_ok (T : Int → Int) : ∀ (n : Nat) (k : Int) (S : Int → Int), Gd S → Gd (runD T n k S).1 ∧ Ah S (runD T n k S).1 ∧ k ≤ (runD T n k S).2.1 ∧ (runD T n k S).2.1 ≤ k + n ∧ 0 ≤ (runD T n k S).2.2 ∧ (runD T n k S).2.2 ≤ 4 ∧ ((runD T n k S).2.2 = 0 ↔ (runD T n k S).2.1 = k + n) := by
  intro n
  induction n with
  | zero => intro k S g; exact ⟨g, Ah.rf, by simp [runD], by simp [runD], by simp [runD], by simp [runD], by simp [runD]⟩
  | succ n ih =>
    intro k S g
    simp only [runD]
    have w := whyD_rng S (T k)
    by_cases c : whyD S (T k) = 0
    · rw [if_pos c]
      obtain ⟨g1, a1⟩ := doD_ok g c
      obtain ⟨q1, q2, q3, q4, q5, q6, q7⟩ := ih (k + 1) (doD S (T k)) g1
      exact ⟨q1, a1.tr q2, by omega, by omega, q5, q6, by rw [q7]; omega⟩
    · rw [if_neg c]
      exact ⟨g, Ah.rf, by simp, by simp; omega, w.1, w.2, by simp [c]; omega⟩
theorem c_isJoinDeed {d : Nat} {h : Hp} {v : Int} (hv : -9223372036854775808 ≤ v ∧ v ≤ 9223372036854775807) : cal (d+1) m_Hanging_isJoinDeed [.inr (.inl (v))] (h) = some (.inl (b01 (0 ≤ v ∧ v < 144)), h) := by
  show EX (d) m_Hanging_isJoinDeed 0 [(0, .inr (.inl (v)))] [] (h) = _
  simp (disch := omega) only [Hanging_isJoinDeed_0, Hanging_isJoinDeed_6, Hanging_isJoinDeed_14, Hanging_isJoinDeed_18, Hanging_isJoinDeed_19, wr_id, ix_id, okx, if_pos, if_neg, Int.toNat_of_nonneg, bak_v, bak_n, wr_b01, wr_bt, b01_or, b01_0, b01_1, lc_lt0, lc_gt0, lc_eq0, wl_wr, wr_wr, wl_id, true_and, and_true, true_or, or_true, not_true_eq_false, not_false_eq_true, nc0, nc1, nc2, nc3, nc4, nc5, nc6, nc7, nc8, nc9, nc10, nc11, nc12, nc13, nc14, nc15, nc16, nc17, nc18, nc19, nc20, nc21, nc22, nc23, nc35, nc47, nc59, nc60, nc61, nc73, nc74, nc214, nc215, nc1115, nc2230, nc3345, if_true, if_false, Int.reduceToNat, b01]
  by_cases h1 : v < 0 <;> by_cases h2 : v < 144 <;> simp [h1, h2] <;> omega
theorem c_isUnhookDeed {d : Nat} {h : Hp} {v : Int} (hv : -9223372036854775808 ≤ v ∧ v ≤ 9223372036854775807) : cal (d+1) m_Hanging_isUnhookDeed [.inr (.inl (v))] (h) = some (.inl (b01 (200 ≤ v ∧ v < 212)), h) := by
  show EX (d) m_Hanging_isUnhookDeed 0 [(0, .inr (.inl (v)))] [] (h) = _
  simp (disch := omega) only [Hanging_isUnhookDeed_0, Hanging_isUnhookDeed_8, Hanging_isUnhookDeed_16, Hanging_isUnhookDeed_20, Hanging_isUnhookDeed_21, wr_id, ix_id, okx, if_pos, if_neg, Int.toNat_of_nonneg, bak_v, bak_n, wr_b01, wr_bt, b01_or, b01_0, b01_1, lc_lt0, lc_gt0, lc_eq0, wl_wr, wr_wr, wl_id, true_and, and_true, true_or, or_true, not_true_eq_false, not_false_eq_true, nc0, nc1, nc2, nc3, nc4, nc5, nc6, nc7, nc8, nc9, nc10, nc11, nc12, nc13, nc14, nc15, nc16, nc17, nc18, nc19, nc20, nc21, nc22, nc23, nc35, nc47, nc59, nc60, nc61, nc73, nc74, nc214, nc215, nc1115, nc2230, nc3345, if_true, if_false, Int.reduceToNat, b01]
  by_cases h1 : v < 200 <;> by_cases h2 : v < 212 <;> simp [h1, h2] <;> omega
theorem c_whyNotDeed {d a w : Nat} {h : Hp} {S : Int → Int} (wv : WV h w S) (hv : HV h a S) (g : Gd S) {v : Int} (rv : -9223372036854775808 ≤ v ∧ v ≤ 9223372036854775807) : cal (d+4) m_Hanging_whyNotDeed [.inr (.inr (a)), .inr (.inr (w)), .inr (.inl (v))] (h) = some (.inl (whyD S v), h) := by
  have ha := hv.1
  show EX (d+3) m_Hanging_whyNotDeed 0 [(0, .inr (.inr (a))), (1, .inr (.inr (w))), (2, .inr (.inl (v)))] [] (h) = _
  unfold whyD
  by_cases c1 : 0 ≤ v ∧ v < 144
  · simp (disch := omega) only [Hanging_whyNotDeed_0, Hanging_whyNotDeed_4, Hanging_whyNotDeed_7, Hanging_whyNotDeed_22, Hanging_whyNotDeed_23, Hanging_whyNotDeed_27, Hanging_whyNotDeed_30, Hanging_whyNotDeed_41, Hanging_whyNotDeed_44, Hanging_whyNotDeed_45, wr_id, ix_id, okx, if_pos, if_neg, Int.toNat_of_nonneg, bak_v, bak_n, wr_b01, wr_bt, b01_or, b01_0, b01_1, lc_lt0, lc_gt0, lc_eq0, wl_wr, wr_wr, wl_id, true_and, and_true, true_or, or_true, not_true_eq_false, not_false_eq_true, nc0, nc1, nc2, nc3, nc4, nc5, nc6, nc7, nc8, nc9, nc10, nc11, nc12, nc13, nc14, nc15, nc16, nc17, nc18, nc19, nc20, nc21, nc22, nc23, nc35, nc47, nc59, nc60, nc61, nc73, nc74, nc214, nc215, nc1115, nc2230, nc3345, if_true, if_false, Int.reduceToNat, ha.k, ha.r, ha.k1, ha.n1, c_isJoinDeed, bDiv_e, bRem_e, c_whyNotJoin wv hv g]
  · by_cases c2 : 200 ≤ v ∧ v < 212
    · simp (disch := omega) only [Hanging_whyNotDeed_0, Hanging_whyNotDeed_4, Hanging_whyNotDeed_7, Hanging_whyNotDeed_22, Hanging_whyNotDeed_23, Hanging_whyNotDeed_27, Hanging_whyNotDeed_30, Hanging_whyNotDeed_41, Hanging_whyNotDeed_44, Hanging_whyNotDeed_45, wr_id, ix_id, okx, if_pos, if_neg, Int.toNat_of_nonneg, bak_v, bak_n, wr_b01, wr_bt, b01_or, b01_0, b01_1, lc_lt0, lc_gt0, lc_eq0, wl_wr, wr_wr, wl_id, true_and, and_true, true_or, or_true, not_true_eq_false, not_false_eq_true, nc0, nc1, nc2, nc3, nc4, nc5, nc6, nc7, nc8, nc9, nc10, nc11, nc12, nc13, nc14, nc15, nc16, nc17, nc18, nc19, nc20, nc21, nc22, nc23, nc35, nc47, nc59, nc60, nc61, nc73, nc74, nc214, nc215, nc1115, nc2230, nc3345, if_true, if_false, Int.reduceToNat, ha.k, ha.r, ha.k1, ha.n1, c_isJoinDeed, c_isUnhookDeed, c_whyNotUnhook wv hv g]
    · simp (disch := omega) only [Hanging_whyNotDeed_0, Hanging_whyNotDeed_4, Hanging_whyNotDeed_7, Hanging_whyNotDeed_22, Hanging_whyNotDeed_23, Hanging_whyNotDeed_27, Hanging_whyNotDeed_30, Hanging_whyNotDeed_41, Hanging_whyNotDeed_44, Hanging_whyNotDeed_45, wr_id, ix_id, okx, if_pos, if_neg, Int.toNat_of_nonneg, bak_v, bak_n, wr_b01, wr_bt, b01_or, b01_0, b01_1, lc_lt0, lc_gt0, lc_eq0, wl_wr, wr_wr, wl_id, true_and, and_true, true_or, or_true, not_true_eq_false, not_false_eq_true, nc0, nc1, nc2, nc3, nc4, nc5, nc6, nc7, nc8, nc9, nc10, nc11, nc12, nc13, nc14, nc15, nc16, nc17, nc18, nc19, nc20, nc21, nc22, nc23, nc35, nc47, nc59, nc60, nc61, nc73, nc74, nc214, nc215, nc1115, nc2230, nc3345, if_true, if_false, Int.reduceToNat, ha.k, ha.r, ha.k1, ha.n1, c_isJoinDeed, c_isUnhookDeed]
theorem TV.fr {h h' : Hp} {rs rm nb : Int → Int} (v : TV h rs rm nb) {p : Nat → Nat → Prop} (f : Fr p h h') (hp : ∀ a k, 33 ≤ a → a ≤ 40 → ¬ p a k) : TV h' rs rm nb := by
  intro t ht
  obtain ⟨v1, v2⟩ := v t ht
  refine ⟨fun q => by rw [f.I (hp _ _ (by omega) (by omega))]; exact v1 q, fun q => ?_⟩
  obtain ⟨u1, u2, u3⟩ := v2 q
  exact ⟨by rw [f.I (hp _ _ (by omega) (by omega))]; exact u1, by rw [f.I (hp _ _ (by omega) (by omega))]; exact u2, fun k hk => by rw [f.L (hp _ _ (by omega) (by omega))]; exact u3 k hk⟩
theorem c_doDeeds_l {d a w w0 t : Nat} {rs rm nb : Int → Int} (tg : TG rs rm nb) (ht : t < 4) (hmis : ¬ rs t = -1) (had : a = 26 ∨ a = 28) (hwd : w = 14 ∨ w = 20) : ∀ (n : Nat) (i : Int) (S : Int → Int) (h : Hp), 0 ≤ i → i + n = rm t → CR h w0 → TV h rs rm nb → WV h w S → HV h a S → Gd S → ∃ h', EX (d+5) m_Hanging_doDeeds 2 [(0, .inr (.inr (a))), (1, .inr (.inr (w))), (2, .inr (.inr (33 + 2 * t))), (3, .inl (i))] [] (h) = some (.inl (runD (fun k => nb (40 * t + k)) n i S).2.1, h') ∧ HV h' a (runD (fun k => nb (40 * t + k)) n i S).1 ∧ Fr (fun b _ => b = a ∨ b = a + 1) h h' := by
  have gt := tg.1 t (by omega) (by omega)
  intro n
  induction n with
  | zero =>
    intro i S h h0 hi hc tv wv hv g
    have tk := hc.tk ht
    have v := ((tv t ht).2 hmis).1
    refine ⟨h, ?_, hv, Fr.rf⟩
    rw [Hanging_doDeeds_2]
    simp (disch := omega) only [Hanging_doDeeds_77, wr_id, ix_id, okx, if_pos, if_neg, Int.toNat_of_nonneg, bak_v, bak_n, wr_b01, wr_bt, b01_or, b01_0, b01_1, lc_lt0, lc_gt0, lc_eq0, wl_wr, wr_wr, wl_id, true_and, and_true, true_or, or_true, not_true_eq_false, not_false_eq_true, nc0, nc1, nc2, nc3, nc4, nc5, nc6, nc7, nc8, nc9, nc10, nc11, nc12, nc13, nc14, nc15, nc16, nc17, nc18, nc19, nc20, nc21, nc22, nc23, nc35, nc47, nc59, nc60, nc61, nc73, nc74, nc214, nc215, nc1115, nc2230, nc3345, if_true, if_false, Int.reduceToNat, tk.1, v, runD]
    rw [show rm t = i by omega]
  | succ n ih =>
    intro i S h h0 hi hc tv wv hv g
    have ha := hv.1
    have tk := hc.tk ht
    have v := ((tv t ht).2 hmis).1
    have rn := tg.2 (40 * t + i)
    have wr' := whyD_rng S (nb (40 * t + i))
    have ga := g.a
    have gb := g.b
    rw [Hanging_doDeeds_2]
    simp only [runD]
    by_cases c : whyD S (nb (40 * t + i)) = 0
    · rw [if_pos c]
      obtain ⟨g1, a1⟩ := doD_ok g c
      rcases whyD_0 c with ⟨c1, c2, c3⟩ | ⟨c1, c2, c3⟩
      · have w0 := whyM_0 g c3
        obtain ⟨h1, e1, hv1, f1⟩ := c_attach (d := d + 1) wv hv g (by omega) (x := nb (40 * t + i) / 12) (y := nb (40 * t + i) % 12) (by omega) (by omega)
        have dd : doD S (nb (40 * t + i)) = joinS S (nb (40 * t + i) / 12) (nb (40 * t + i) % 12) := by unfold doD; rw [if_pos (by omega)]
        rw [dd] at g1 a1 ⊢
        obtain ⟨h2, e2, hv2, f2⟩ := ih (i + 1) _ h1 (by omega) (by omega) (hc.fr f1) (tv.fr f1 (fun b k q1 q2 => by omega)) ((wv.fr f1 (fun b k q1 q2 => by omega)).ag a1.ag g.1) hv1 g1
        refine ⟨h2, ?_, hv2, f1.tr f2⟩
        simp (disch := omega) only [Hanging_doDeeds_0, Hanging_doDeeds_10, Hanging_doDeeds_15, Hanging_doDeeds_24, Hanging_doDeeds_27, Hanging_doDeeds_29, Hanging_doDeeds_34, Hanging_doDeeds_37, Hanging_doDeeds_54, Hanging_doDeeds_58, Hanging_doDeeds_70, Hanging_doDeeds_71, Hanging_doDeeds_77, wr_id, ix_id, okx, if_pos, if_neg, Int.toNat_of_nonneg, bak_v, bak_n, wr_b01, wr_bt, b01_or, b01_0, b01_1, lc_lt0, lc_gt0, lc_eq0, wl_wr, wr_wr, wl_id, true_and, and_true, true_or, or_true, not_true_eq_false, not_false_eq_true, nc0, nc1, nc2, nc3, nc4, nc5, nc6, nc7, nc8, nc9, nc10, nc11, nc12, nc13, nc14, nc15, nc16, nc17, nc18, nc19, nc20, nc21, nc22, nc23, nc35, nc47, nc59, nc60, nc61, nc73, nc74, nc214, nc215, nc1115, nc2230, nc3345, if_true, if_false, Int.reduceToNat, ha.k, ha.r, ha.k1, ha.n1, tk.1, v, c_at hc tv tg ht hmis, c_whyNotDeed wv hv g, c, c_isJoinDeed, bDiv_e, bRem_e, e1, e2]
      · have w0 := offM_0 c3
        obtain ⟨h1, e1, hv1, f1⟩ := c_detach (d := d + 1) wv hv g (by omega) (x := nb (40 * t + i) - 200) (by omega) w0.2
        have dd : doD S (nb (40 * t + i)) = offS S (nb (40 * t + i) - 200) := by unfold doD; rw [if_neg (by omega)]
        rw [dd] at g1 a1 ⊢
        obtain ⟨h2, e2, hv2, f2⟩ := ih (i + 1) _ h1 (by omega) (by omega) (hc.fr f1) (tv.fr f1 (fun b k q1 q2 => by omega)) ((wv.fr f1 (fun b k q1 q2 => by omega)).ag a1.ag g.1) hv1 g1
        refine ⟨h2, ?_, hv2, f1.tr f2⟩
        simp (disch := omega) only [Hanging_doDeeds_0, Hanging_doDeeds_10, Hanging_doDeeds_15, Hanging_doDeeds_24, Hanging_doDeeds_27, Hanging_doDeeds_29, Hanging_doDeeds_34, Hanging_doDeeds_37, Hanging_doDeeds_54, Hanging_doDeeds_58, Hanging_doDeeds_70, Hanging_doDeeds_71, Hanging_doDeeds_77, wr_id, ix_id, okx, if_pos, if_neg, Int.toNat_of_nonneg, bak_v, bak_n, wr_b01, wr_bt, b01_or, b01_0, b01_1, lc_lt0, lc_gt0, lc_eq0, wl_wr, wr_wr, wl_id, true_and, and_true, true_or, or_true, not_true_eq_false, not_false_eq_true, nc0, nc1, nc2, nc3, nc4, nc5, nc6, nc7, nc8, nc9, nc10, nc11, nc12, nc13, nc14, nc15, nc16, nc17, nc18, nc19, nc20, nc21, nc22, nc23, nc35, nc47, nc59, nc60, nc61, nc73, nc74, nc214, nc215, nc1115, nc2230, nc3345, if_true, if_false, Int.reduceToNat, ha.k, ha.r, ha.k1, ha.n1, tk.1, v, c_at hc tv tg ht hmis, c_whyNotDeed wv hv g, c, c_isJoinDeed, e1, e2]
    · rw [if_neg c]
      refine ⟨h, ?_, hv, Fr.rf⟩
      simp (disch := omega) only [Hanging_doDeeds_0, Hanging_doDeeds_10, Hanging_doDeeds_15, Hanging_doDeeds_24, Hanging_doDeeds_27, Hanging_doDeeds_29, Hanging_doDeeds_34, Hanging_doDeeds_37, Hanging_doDeeds_54, Hanging_doDeeds_58, Hanging_doDeeds_70, Hanging_doDeeds_71, Hanging_doDeeds_77, wr_id, ix_id, okx, if_pos, if_neg, Int.toNat_of_nonneg, bak_v, bak_n, wr_b01, wr_bt, b01_or, b01_0, b01_1, lc_lt0, lc_gt0, lc_eq0, wl_wr, wr_wr, wl_id, true_and, and_true, true_or, or_true, not_true_eq_false, not_false_eq_true, nc0, nc1, nc2, nc3, nc4, nc5, nc6, nc7, nc8, nc9, nc10, nc11, nc12, nc13, nc14, nc15, nc16, nc17, nc18, nc19, nc20, nc21, nc22, nc23, nc35, nc47, nc59, nc60, nc61, nc73, nc74, nc214, nc215, nc1115, nc2230, nc3345, if_true, if_false, Int.reduceToNat, ha.k, ha.r, ha.k1, ha.n1, tk.1, v, c_at hc tv tg ht hmis, c_whyNotDeed wv hv g]
theorem c_doDeeds {d a w w0 t : Nat} {h : Hp} {S : Int → Int} {rs rm nb : Int → Int} (tg : TG rs rm nb) (ht : t < 4) (hmis : ¬ rs t = -1) (had : a = 26 ∨ a = 28) (hwd : w = 14 ∨ w = 20) (hc : CR h w0) (tv : TV h rs rm nb) (wv : WV h w S) (hv : HV h a S) (g : Gd S) : ∃ h', cal (d+6) m_Hanging_doDeeds [.inr (.inr (a)), .inr (.inr (w)), .inr (.inr (33 + 2 * t))] (h) = some (.inl (runD (fun k => nb (40 * t + k)) (rm t).toNat 0 S).2.1, h') ∧ HV h' a (runD (fun k => nb (40 * t + k)) (rm t).toNat 0 S).1 ∧ Fr (fun b _ => b = a ∨ b = a + 1) h h' := by
  have gt := tg.1 t (by omega) (by omega)
  obtain ⟨h', e, q⟩ := c_doDeeds_l (d := d) tg ht hmis had hwd (rm t).toNat 0 S h (by omega) (by omega) hc tv wv hv g
  refine ⟨h', ?_, q⟩
  show EX (d+5) m_Hanging_doDeeds 0 [(0, .inr (.inr (a))), (1, .inr (.inr (w))), (2, .inr (.inr (33 + 2 * t)))] [] (h) = _
  rw [Hanging_doDeeds_0, e]
/-! days -/
def nxD (x : Int) : Int := 1103515245 * x + 12345
def dayD : Nat → Int → (Int → Int) → Int → (Int → Int) × Int
  | 0, _, S, m => (S, m)
  | n + 1, x, S, m =>
    if ¬ S (61 + bUshr (nxD x) 16 % S 1) = -1 then dayD n (nxD x) (offS S (bUshr (nxD x) 16 % S 1)) (m + 1)
    else if whyM S (bUshr (nxD x) 16 % S 1) (bUshr (nxD (nxD x)) 16 % S 2) = 0 then dayD n (nxD (nxD x)) (joinS S (bUshr (nxD x) 16 % S 1) (bUshr (nxD (nxD x)) 16 % S 2)) (m + 1)
    else dayD n (nxD (nxD x)) S m
theorem bUshr16 (x : Int) : 0 ≤ bUshr x 16 ∧ bUshr x 16 ≤ 65535 := by
  unfold bUshr
  have hn : (x % 4294967296).toNat < 4294967296 := by omega
  have e : Int32.ofInt 16 = nI 16 := rfl
  have h2 : (x % 4294967296).toNat / 2 ^ 16 < 65536 := by omega
  rw [oi_mod x, e, pk_ushrN (by omega) (nI 16) 16 (ush_k 16 (by omega)), nI_toInt (by omega)]
  omega
theorem dayD_ok : ∀ (n : Nat) (x : Int) (S : Int → Int) (m : Int), Gd S → 0 < S 1 → 0 < S 2 → Gd (dayD n x S m).1 ∧ Ah S (dayD n x S m).1 ∧ m ≤ (dayD n x S m).2 ∧ (dayD n x S m).2 ≤ m + n := by
  intro n
  induction n with
  | zero => intro x S m g _ _; exact ⟨g, Ah.rf, by simp [dayD], by simp [dayD]⟩
  | succ n ih =>
    intro x S m g p1 p2
    simp only [dayD]
    have ga := g.a
    have b1 := bUshr16 (nxD x)
    have b2 := bUshr16 (nxD (nxD x))
    have m1 := Int.emod_nonneg (bUshr (nxD x) 16) (show ¬ S 1 = 0 by omega)
    have m2 := Int.emod_lt_of_pos (bUshr (nxD x) 16) p1
    generalize bUshr (nxD x) 16 % S 1 = q at *
    generalize bUshr (nxD (nxD x)) 16 % S 2 = r at *
    split
    · rename_i c
      have o0 : offM S q = 0 := by unfold offM; rw [if_neg (by omega), if_neg c]
      have a1 := offS_ah S (x := q) (by omega)
      obtain ⟨i1, i2, i3, i4⟩ := ih (nxD x) (offS S q) (m + 1) (Gd_off g o0) (by rw [a1 1 (by omega)]; exact p1) (by rw [a1 2 (by omega)]; exact p2)
      exact ⟨i1, a1.tr i2, by omega, by omega⟩
    · split
      · rename_i c
        have a1 := joinS_ah S (x := q) (y := r) (by omega)
        obtain ⟨i1, i2, i3, i4⟩ := ih (nxD (nxD x)) (joinS S q r) (m + 1) (Gd_join g c) (by rw [a1 1 (by omega)]; exact p1) (by rw [a1 2 (by omega)]; exact p2)
        exact ⟨i1, a1.tr i2, by omega, by omega⟩
      · obtain ⟨i1, i2, i3, i4⟩ := ih (nxD (nxD x)) S m g p1 p2
        exact ⟨i1, i2, i3, by omega⟩
theorem c_nextDraw {d : Nat} {h : Hp} (x : Int) : cal (d+1) m_Hanging_nextDraw [.inl (x)] (h) = some (.inl (nxD x), h) := Hanging_nextDraw_0 d x h
theorem c_spendDay_l {d a w : Nat} (hd : a + 1 < w ∨ w + 5 < a) {times : Int} (hti : times ≤ 60) : ∀ (n : Nat) (i x m : Int) (S : Int → Int) (h : Hp), 0 ≤ i → i + n = times → WV h w S → HV h a S → Gd S → 0 < S 1 → 0 < S 2 → ∃ h', EX (d+4) m_Hanging_spendDay 25 [(0, .inr (.inr (a))), (1, .inr (.inr (w))), (3, .inl (times)), (4, .inl (x)), (5, .inl (m)), (6, .inl (i))] [] (h) = some (.inl (dayD n x S m).2, h') ∧ HV h' a (dayD n x S m).1 ∧ Fr (fun b _ => b = a ∨ b = a + 1) h h' := by
  intro n
  induction n with
  | zero =>
    intro i x m S h h0 hi wv hv g p1 p2
    refine ⟨h, ?_, hv, Fr.rf⟩
    rw [Hanging_spendDay_25]
    simp (disch := omega) only [Hanging_spendDay_123, wr_id, ix_id, okx, if_pos, if_neg, Int.toNat_of_nonneg, bak_v, bak_n, wr_b01, wr_bt, b01_or, b01_0, b01_1, lc_lt0, lc_gt0, lc_eq0, wl_wr, wr_wr, wl_id, true_and, and_true, true_or, or_true, not_true_eq_false, not_false_eq_true, nc0, nc1, nc2, nc3, nc4, nc5, nc6, nc7, nc8, nc9, nc10, nc11, nc12, nc13, nc14, nc15, nc16, nc17, nc18, nc19, nc20, nc21, nc22, nc23, nc35, nc47, nc59, nc60, nc61, nc73, nc74, nc214, nc215, nc1115, nc2230, nc3345, if_true, if_false, Int.reduceToNat, dayD]
  | succ n ih =>
    intro i x m S h h0 hi wv hv g p1 p2
    have ha := hv.1
    have hw := wv.1
    have ga := g.a
    have gb := g.b
    have b1 := bUshr16 (nxD x)
    have b2 := bUshr16 (nxD (nxD x))
    have m1 := Int.emod_nonneg (bUshr (nxD x) 16) (show ¬ S 1 = 0 by omega)
    have m2 := Int.emod_lt_of_pos (bUshr (nxD x) 16) p1
    have m3 := Int.emod_nonneg (bUshr (nxD (nxD x)) 16) (show ¬ S 2 = 0 by omega)
    have m4 := Int.emod_lt_of_pos (bUshr (nxD (nxD x)) 16) p2
    have wr' := whyM_rng S (bUshr (nxD x) 16 % S 1) (bUshr (nxD (nxD x)) 16 % S 2)
    rw [Hanging_spendDay_25]
    simp only [dayD]
    by_cases c : ¬ S (61 + bUshr (nxD x) 16 % S 1) = -1
    · rw [if_pos c]
      have o0 : offM S (bUshr (nxD x) 16 % S 1) = 0 := by unfold offM; rw [if_neg (by omega), if_neg c]
      have a1 := offS_ah S (x := bUshr (nxD x) 16 % S 1) (by omega)
      obtain ⟨h1, e1, hv1, f1⟩ := c_detach (d := d) wv hv g hd (x := bUshr (nxD x) 16 % S 1) (by omega) c
      obtain ⟨h2, e2, hv2, f2⟩ := ih (i + 1) (nxD x) (m + 1) _ h1 (by omega) (by omega) ((wv.fr f1 (fun b k q1 q2 => by omega)).ag a1.ag g.1) hv1 (Gd_off g o0) (by rw [a1 1 (by omega)]; exact p1) (by rw [a1 2 (by omega)]; exact p2)
      refine ⟨h2, ?_, hv2, f1.tr f2⟩
      simp (disch := omega) only [Hanging_spendDay_0, Hanging_spendDay_7, Hanging_spendDay_14, Hanging_spendDay_16, Hanging_spendDay_31, Hanging_spendDay_36, Hanging_spendDay_56, Hanging_spendDay_59, Hanging_spendDay_66, Hanging_spendDay_73, Hanging_spendDay_78, Hanging_spendDay_101, Hanging_spendDay_104, Hanging_spendDay_113, Hanging_spendDay_117, Hanging_spendDay_123, wr_id, ix_id, okx, if_pos, if_neg, Int.toNat_of_nonneg, bak_v, bak_n, wr_b01, wr_bt, b01_or, b01_0, b01_1, lc_lt0, lc_gt0, lc_eq0, wl_wr, wr_wr, wl_id, true_and, and_true, true_or, or_true, not_true_eq_false, not_false_eq_true, nc0, nc1, nc2, nc3, nc4, nc5, nc6, nc7, nc8, nc9, nc10, nc11, nc12, nc13, nc14, nc15, nc16, nc17, nc18, nc19, nc20, nc21, nc22, nc23, nc35, nc47, nc59, nc60, nc61, nc73, nc74, nc214, nc215, nc1115, nc2230, nc3345, if_true, if_false, Int.reduceToNat, ha.k, ha.r, ha.k1, ha.n1, hw.k, hw.r0, hw.r1, hw.r2, hw.r3, hw.r4, hw.k1, hw.k2, hw.k3, hw.k4, hw.k5, hw.n1, hw.n2, hw.n3, hw.n4, hw.n5, wv.f5, wv.f6, wv.f7, wv.f8, wv.f9, wv.f10, wv.f11, wv.f12, wv.f13, wv.f14, wv.pk, wv.qk, wv.hk, wv.rk, c_nextDraw, bRem_e, c_isJoined' hv g, e1, e2]
    · rw [if_neg c]
      by_cases c2 : whyM S (bUshr (nxD x) 16 % S 1) (bUshr (nxD (nxD x)) 16 % S 2) = 0
      · rw [if_pos c2]
        have a1 := joinS_ah S (x := bUshr (nxD x) 16 % S 1) (y := bUshr (nxD (nxD x)) 16 % S 2) (by omega)
        obtain ⟨h1, e1, hv1, f1⟩ := c_attach (d := d) wv hv g hd (x := bUshr (nxD x) 16 % S 1) (y := bUshr (nxD (nxD x)) 16 % S 2) (by omega) (by omega)
        obtain ⟨h2, e2, hv2, f2⟩ := ih (i + 1) (nxD (nxD x)) (m + 1) _ h1 (by omega) (by omega) ((wv.fr f1 (fun b k q1 q2 => by omega)).ag a1.ag g.1) hv1 (Gd_join g c2) (by rw [a1 1 (by omega)]; exact p1) (by rw [a1 2 (by omega)]; exact p2)
        refine ⟨h2, ?_, hv2, f1.tr f2⟩
        simp (disch := omega) only [Hanging_spendDay_0, Hanging_spendDay_7, Hanging_spendDay_14, Hanging_spendDay_16, Hanging_spendDay_31, Hanging_spendDay_36, Hanging_spendDay_56, Hanging_spendDay_59, Hanging_spendDay_66, Hanging_spendDay_73, Hanging_spendDay_78, Hanging_spendDay_101, Hanging_spendDay_104, Hanging_spendDay_113, Hanging_spendDay_117, Hanging_spendDay_123, wr_id, ix_id, okx, if_pos, if_neg, Int.toNat_of_nonneg, bak_v, bak_n, wr_b01, wr_bt, b01_or, b01_0, b01_1, lc_lt0, lc_gt0, lc_eq0, wl_wr, wr_wr, wl_id, true_and, and_true, true_or, or_true, not_true_eq_false, not_false_eq_true, nc0, nc1, nc2, nc3, nc4, nc5, nc6, nc7, nc8, nc9, nc10, nc11, nc12, nc13, nc14, nc15, nc16, nc17, nc18, nc19, nc20, nc21, nc22, nc23, nc35, nc47, nc59, nc60, nc61, nc73, nc74, nc214, nc215, nc1115, nc2230, nc3345, if_true, if_false, Int.reduceToNat, ha.k, ha.r, ha.k1, ha.n1, hw.k, hw.r0, hw.r1, hw.r2, hw.r3, hw.r4, hw.k1, hw.k2, hw.k3, hw.k4, hw.k5, hw.n1, hw.n2, hw.n3, hw.n4, hw.n5, wv.f5, wv.f6, wv.f7, wv.f8, wv.f9, wv.f10, wv.f11, wv.f12, wv.f13, wv.f14, wv.pk, wv.qk, wv.hk, wv.rk, c_nextDraw, bRem_e, c_isJoined' hv g, c_whyNotJoin wv hv g, c2, e1, e2]
      · rw [if_neg c2]
        obtain ⟨h2, e2, hv2, f2⟩ := ih (i + 1) (nxD (nxD x)) m S h (by omega) (by omega) wv hv g p1 p2
        refine ⟨h2, ?_, hv2, f2⟩
        simp (disch := omega) only [Hanging_spendDay_0, Hanging_spendDay_7, Hanging_spendDay_14, Hanging_spendDay_16, Hanging_spendDay_31, Hanging_spendDay_36, Hanging_spendDay_56, Hanging_spendDay_59, Hanging_spendDay_66, Hanging_spendDay_73, Hanging_spendDay_78, Hanging_spendDay_101, Hanging_spendDay_104, Hanging_spendDay_113, Hanging_spendDay_117, Hanging_spendDay_123, wr_id, ix_id, okx, if_pos, if_neg, Int.toNat_of_nonneg, bak_v, bak_n, wr_b01, wr_bt, b01_or, b01_0, b01_1, lc_lt0, lc_gt0, lc_eq0, wl_wr, wr_wr, wl_id, true_and, and_true, true_or, or_true, not_true_eq_false, not_false_eq_true, nc0, nc1, nc2, nc3, nc4, nc5, nc6, nc7, nc8, nc9, nc10, nc11, nc12, nc13, nc14, nc15, nc16, nc17, nc18, nc19, nc20, nc21, nc22, nc23, nc35, nc47, nc59, nc60, nc61, nc73, nc74, nc214, nc215, nc1115, nc2230, nc3345, if_true, if_false, Int.reduceToNat, ha.k, ha.r, ha.k1, ha.n1, hw.k, hw.r0, hw.r1, hw.r2, hw.r3, hw.r4, hw.k1, hw.k2, hw.k3, hw.k4, hw.k5, hw.n1, hw.n2, hw.n3, hw.n4, hw.n5, wv.f5, wv.f6, wv.f7, wv.f8, wv.f9, wv.f10, wv.f11, wv.f12, wv.f13, wv.f14, wv.pk, wv.qk, wv.hk, wv.rk, c_nextDraw, bRem_e, c_isJoined' hv g, c_whyNotJoin wv hv g, e2]
theorem c_spendDay {d a w : Nat} {h : Hp} {S : Int → Int} (hd : a + 1 < w ∨ w + 5 < a) {seed times : Int} (hti : 1 ≤ times ∧ times ≤ 60) (wv : WV h w S) (hv : HV h a S) (g : Gd S) (p1 : 0 < S 1) (p2 : 0 < S 2) : ∃ h', cal (d+5) m_Hanging_spendDay [.inr (.inr (a)), .inr (.inr (w)), .inl (seed), .inl (times)] (h) = some (.inl (dayD times.toNat seed S 0).2, h') ∧ HV h' a (dayD times.toNat seed S 0).1 ∧ Fr (fun b _ => b = a ∨ b = a + 1) h h' := by
  have hw := wv.1
  have ga := g.a
  have gb := g.b
  obtain ⟨h', e, q⟩ := c_spendDay_l (d := d) hd hti.2 times.toNat 0 seed 0 S h (by omega) (by omega) wv hv g p1 p2
  refine ⟨h', ?_, q⟩
  show EX (d+4) m_Hanging_spendDay 0 [(0, .inr (.inr (a))), (1, .inr (.inr (w))), (2, .inl (seed)), (3, .inl (times))] [] (h) = _
  simp (disch := omega) only [Hanging_spendDay_0, Hanging_spendDay_7, Hanging_spendDay_16, wr_id, ix_id, okx, if_pos, if_neg, Int.toNat_of_nonneg, bak_v, bak_n, wr_b01, wr_bt, b01_or, b01_0, b01_1, lc_lt0, lc_gt0, lc_eq0, wl_wr, wr_wr, wl_id, true_and, and_true, true_or, or_true, not_true_eq_false, not_false_eq_true, nc0, nc1, nc2, nc3, nc4, nc5, nc6, nc7, nc8, nc9, nc10, nc11, nc12, nc13, nc14, nc15, nc16, nc17, nc18, nc19, nc20, nc21, nc22, nc23, nc35, nc47, nc59, nc60, nc61, nc73, nc74, nc214, nc215, nc1115, nc2230, nc3345, if_true, if_false, Int.reduceToNat, hw.k, hw.r0, hw.r1, hw.r2, hw.r3, hw.r4, hw.k1, hw.k2, hw.k3, hw.k4, hw.k5, hw.n1, hw.n2, hw.n3, hw.n4, hw.n5, wv.f5, wv.f6, wv.f7, wv.f8, wv.f9, wv.f10, wv.f11, wv.f12, wv.f13, wv.f14, wv.pk, wv.qk, wv.hk, wv.rk, e]
