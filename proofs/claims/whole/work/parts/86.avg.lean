/-! averages: upper numbers, both sides -/
/-- r hooks in groups of n -/
def avF (S : Int → Int) (n w r : Int) : Int := (r / n) * gpU S n w + gpU S (r % n) w
theorem avF_0 {S : Int → Int} {n w : Int} (hn : 1 ≤ n) : avF S n w 0 = 0 := by
  unfold avF
  rw [Int.zero_ediv, Int.zero_emod, Int.zero_mul, Int.zero_add]
  unfold gpU
  rw [if_pos rfl]
theorem avF_lt {S : Int → Int} {n w r : Int} (h0 : 0 ≤ r) (h : r < n) : avF S n w r = gpU S r w := by
  unfold avF
  rw [Int.ediv_eq_zero_of_lt h0 h, Int.emod_eq_of_lt h0 h, Int.zero_mul, Int.zero_add]
theorem avF_s {S : Int → Int} {n w r : Int} (hn : 1 ≤ n) (h : n ≤ r) : avF S n w r = gpU S n w + avF S n w (r - n) := by
  unfold avF
  have e1 : r / n = (r - n) / n + 1 := by
    have : r = (r - n) + 1 * n := by omega
    conv => lhs; rw [this]
    rw [Int.add_mul_ediv_right _ _ (by omega)]
  have e2 : r % n = (r - n) % n := by
    have : r = (r - n) + 1 * n := by omega
    conv => lhs; rw [this]
    rw [Int.add_mul_emod_self_right]
  rw [e1, e2, Int.add_mul, Int.one_mul]
  omega
theorem c_avU_l {d w : Nat} {h : Hp} {S : Int → Int} (wv : WV h w S) (g : Gd S) {n : Int} (hn : 1 ≤ n ∧ n ≤ 12) : ∀ (m : Nat) (f acc : Int), 0 ≤ f → f ≤ 24 → S 1 - f ≤ m → EX (d+2) m_Reckoner_averageUpper 12 [(0, .inr (.inr (w))), (2, .inr (.inl (acc))), (4, .inl (n)), (5, .inl (f))] [] (h) = some (.inr (.inl (acc + avF S n 12 (if f < S 1 then S 1 - f else 0))), h) := by
  have hw := wv.1
  have ga := g.a
  intro m
  induction m with
  | zero =>
    intro f acc h0 h1 h2
    rw [Reckoner_averageUpper_12, if_neg (show ¬ f < S 1 by omega), avF_0 hn.1, Int.add_zero]
    simp (disch := omega) only [Reckoner_averageUpper_50, wr_id, ix_id, okx, if_pos, if_neg, Int.toNat_of_nonneg, bak_v, bak_n, wr_b01, wr_bt, b01_or, b01_0, b01_1, lc_lt0, lc_gt0, lc_eq0, wl_wr, wr_wr, wl_id, true_and, and_true, true_or, or_true, not_true_eq_false, not_false_eq_true, nc0, nc1, nc2, nc3, nc4, nc5, nc6, nc7, nc8, nc9, nc10, nc11, nc12, nc13, nc14, nc15, nc16, nc17, nc18, nc19, nc20, nc21, nc22, nc23, nc35, nc47, nc59, nc60, nc61, nc73, nc74, nc214, nc215, nc1115, nc2230, nc3345, if_true, if_false, Int.reduceToNat, hw.k, hw.r0, hw.r1, hw.r2, hw.r3, hw.r4, hw.k1, hw.k2, hw.k3, hw.k4, hw.k5, hw.n1, hw.n2, hw.n3, hw.n4, hw.n5, wv.f5, wv.f6, wv.f7, wv.f8, wv.f9, wv.f10, wv.f11, wv.f12, wv.f13, wv.f14, wv.pk, wv.qk, wv.hk, wv.rk]
  | succ m ih =>
    intro f acc h0 h1 h2
    by_cases c : f < S 1
    · rw [Reckoner_averageUpper_12, if_pos c]
      by_cases c2 : n ≤ S 1 - f
      · have e := c_upperOfGroup (d := d) wv g.1 (k := n) hn
        have e2 := ih (f + n) (acc + gpU S n 12) (by omega) (by omega) (by omega)
        simp (disch := omega) only [Reckoner_averageUpper_21, Reckoner_averageUpper_35, Reckoner_averageUpper_38, wr_id, ix_id, okx, if_pos, if_neg, Int.toNat_of_nonneg, bak_v, bak_n, wr_b01, wr_bt, b01_or, b01_0, b01_1, lc_lt0, lc_gt0, lc_eq0, wl_wr, wr_wr, wl_id, true_and, and_true, true_or, or_true, not_true_eq_false, not_false_eq_true, nc0, nc1, nc2, nc3, nc4, nc5, nc6, nc7, nc8, nc9, nc10, nc11, nc12, nc13, nc14, nc15, nc16, nc17, nc18, nc19, nc20, nc21, nc22, nc23, nc35, nc47, nc59, nc60, nc61, nc73, nc74, nc214, nc215, nc1115, nc2230, nc3345, if_true, if_false, Int.reduceToNat, hw.k, hw.r0, hw.r1, hw.r2, hw.r3, hw.r4, hw.k1, hw.k2, hw.k3, hw.k4, hw.k5, hw.n1, hw.n2, hw.n3, hw.n4, hw.n5, wv.f5, wv.f6, wv.f7, wv.f8, wv.f9, wv.f10, wv.f11, wv.f12, wv.f13, wv.f14, wv.pk, wv.qk, wv.hk, wv.rk, min_s, e]
        refine e2.trans ?_
        rw [avF_s hn.1 c2]
        by_cases c3 : f + n < S 1
        · rw [if_pos c3, show S 1 - f - n = S 1 - (f + n) by omega, Int.add_assoc]
        · rw [if_neg c3, show S 1 - f - n = 0 by omega, Int.add_assoc]
      · have e := c_upperOfGroup (d := d) wv g.1 (k := S 1 - f) (by omega)
        have e2 := ih (f + n) (acc + gpU S (S 1 - f) 12) (by omega) (by omega) (by omega)
        simp (disch := omega) only [Reckoner_averageUpper_21, Reckoner_averageUpper_35, Reckoner_averageUpper_38, wr_id, ix_id, okx, if_pos, if_neg, Int.toNat_of_nonneg, bak_v, bak_n, wr_b01, wr_bt, b01_or, b01_0, b01_1, lc_lt0, lc_gt0, lc_eq0, wl_wr, wr_wr, wl_id, true_and, and_true, true_or, or_true, not_true_eq_false, not_false_eq_true, nc0, nc1, nc2, nc3, nc4, nc5, nc6, nc7, nc8, nc9, nc10, nc11, nc12, nc13, nc14, nc15, nc16, nc17, nc18, nc19, nc20, nc21, nc22, nc23, nc35, nc47, nc59, nc60, nc61, nc73, nc74, nc214, nc215, nc1115, nc2230, nc3345, if_true, if_false, Int.reduceToNat, hw.k, hw.r0, hw.r1, hw.r2, hw.r3, hw.r4, hw.k1, hw.k2, hw.k3, hw.k4, hw.k5, hw.n1, hw.n2, hw.n3, hw.n4, hw.n5, wv.f5, wv.f6, wv.f7, wv.f8, wv.f9, wv.f10, wv.f11, wv.f12, wv.f13, wv.f14, wv.pk, wv.qk, wv.hk, wv.rk, min_s, e]
        refine e2.trans ?_
        rw [avF_lt (r := S 1 - f) (by omega) (by omega), if_neg (by omega), avF_0 hn.1, Int.add_zero]
    · rw [Reckoner_averageUpper_12, if_neg c, avF_0 hn.1, Int.add_zero]
      simp (disch := omega) only [Reckoner_averageUpper_50, wr_id, ix_id, okx, if_pos, if_neg, Int.toNat_of_nonneg, bak_v, bak_n, wr_b01, wr_bt, b01_or, b01_0, b01_1, lc_lt0, lc_gt0, lc_eq0, wl_wr, wr_wr, wl_id, true_and, and_true, true_or, or_true, not_true_eq_false, not_false_eq_true, nc0, nc1, nc2, nc3, nc4, nc5, nc6, nc7, nc8, nc9, nc10, nc11, nc12, nc13, nc14, nc15, nc16, nc17, nc18, nc19, nc20, nc21, nc22, nc23, nc35, nc47, nc59, nc60, nc61, nc73, nc74, nc214, nc215, nc1115, nc2230, nc3345, if_true, if_false, Int.reduceToNat, hw.k, hw.r0, hw.r1, hw.r2, hw.r3, hw.r4, hw.k1, hw.k2, hw.k3, hw.k4, hw.k5, hw.n1, hw.n2, hw.n3, hw.n4, hw.n5, wv.f5, wv.f6, wv.f7, wv.f8, wv.f9, wv.f10, wv.f11, wv.f12, wv.f13, wv.f14, wv.pk, wv.qk, wv.hk, wv.rk]
theorem c_averageUpper {d w : Nat} {h : Hp} {S : Int → Int} (wv : WV h w S) (g : Gd S) {n : Int} (hn : 1 ≤ n ∧ n ≤ 12) : cal (d+3) m_Reckoner_averageUpper [.inr (.inr (w)), .inl (n)] (h) = some (.inr (.inl (avF S n 12 (S 1))), h) := by
  have hw := wv.1
  have ga := g.a
  have e := c_avU_l (d := d) wv g hn (S 1).toNat 0 0 (by omega) (by omega) (by omega)
  have e1 : (if 0 < S 1 then S 1 - 0 else 0) = S 1 := by split <;> omega
  rw [e1, Int.zero_add] at e
  show EX (d+2) m_Reckoner_averageUpper 0 [(0, .inr (.inr (w))), (1, .inl (n))] [] (h) = _
  have em : (if n < 1 then (1 : Int) else n) = n := by split <;> omega
  simp (disch := omega) only [Reckoner_averageUpper_0, wr_id, ix_id, okx, if_pos, if_neg, Int.toNat_of_nonneg, bak_v, bak_n, wr_b01, wr_bt, b01_or, b01_0, b01_1, lc_lt0, lc_gt0, lc_eq0, wl_wr, wr_wr, wl_id, true_and, and_true, true_or, or_true, not_true_eq_false, not_false_eq_true, nc0, nc1, nc2, nc3, nc4, nc5, nc6, nc7, nc8, nc9, nc10, nc11, nc12, nc13, nc14, nc15, nc16, nc17, nc18, nc19, nc20, nc21, nc22, nc23, nc35, nc47, nc59, nc60, nc61, nc73, nc74, nc214, nc215, nc1115, nc2230, nc3345, if_true, if_false, Int.reduceToNat, max_s]
  by_cases c : 1 < n
  · simp (disch := omega) only [Reckoner_averageUpper_7, wr_id, ix_id, okx, if_pos, if_neg, Int.toNat_of_nonneg, bak_v, bak_n, wr_b01, wr_bt, b01_or, b01_0, b01_1, lc_lt0, lc_gt0, lc_eq0, wl_wr, wr_wr, wl_id, true_and, and_true, true_or, or_true, not_true_eq_false, not_false_eq_true, nc0, nc1, nc2, nc3, nc4, nc5, nc6, nc7, nc8, nc9, nc10, nc11, nc12, nc13, nc14, nc15, nc16, nc17, nc18, nc19, nc20, nc21, nc22, nc23, nc35, nc47, nc59, nc60, nc61, nc73, nc74, nc214, nc215, nc1115, nc2230, nc3345, if_true, if_false, Int.reduceToNat]
    exact e
  · have : n = 1 := by omega
    subst this
    simp (disch := omega) only [Reckoner_averageUpper_7, wr_id, ix_id, okx, if_pos, if_neg, Int.toNat_of_nonneg, bak_v, bak_n, wr_b01, wr_bt, b01_or, b01_0, b01_1, lc_lt0, lc_gt0, lc_eq0, wl_wr, wr_wr, wl_id, true_and, and_true, true_or, or_true, not_true_eq_false, not_false_eq_true, nc0, nc1, nc2, nc3, nc4, nc5, nc6, nc7, nc8, nc9, nc10, nc11, nc12, nc13, nc14, nc15, nc16, nc17, nc18, nc19, nc20, nc21, nc22, nc23, nc35, nc47, nc59, nc60, nc61, nc73, nc74, nc214, nc215, nc1115, nc2230, nc3345, if_true, if_false, Int.reduceToNat]
    exact e
theorem c_averageLower {d w : Nat} {h : Hp} {S : Int → Int} (wv : WV h w S) (g : Gd S) : cal (d+2) m_Reckoner_averageLower [.inr (.inr (w))] (h) = some (.inr (.inl (pwK (10 - S 7) 12)), h) := by
  have hw := wv.1
  have g7 := g.1.2.2.2.2.2.2.1
  show EX (d+1) m_Reckoner_averageLower 0 [(0, .inr (.inr (w)))] [] (h) = _
  simp (disch := omega) only [Reckoner_averageLower_0, Reckoner_averageLower_13, wr_id, ix_id, okx, if_pos, if_neg, Int.toNat_of_nonneg, bak_v, bak_n, wr_b01, wr_bt, b01_or, b01_0, b01_1, lc_lt0, lc_gt0, lc_eq0, wl_wr, wr_wr, wl_id, true_and, and_true, true_or, or_true, not_true_eq_false, not_false_eq_true, nc0, nc1, nc2, nc3, nc4, nc5, nc6, nc7, nc8, nc9, nc10, nc11, nc12, nc13, nc14, nc15, nc16, nc17, nc18, nc19, nc20, nc21, nc22, nc23, nc35, nc47, nc59, nc60, nc61, nc73, nc74, nc214, nc215, nc1115, nc2230, nc3345, if_true, if_false, Int.reduceToNat, hw.k, hw.r0, hw.r1, hw.r2, hw.r3, hw.r4, hw.k1, hw.k2, hw.k3, hw.k4, hw.k5, hw.n1, hw.n2, hw.n3, hw.n4, hw.n5, wv.f5, wv.f6, wv.f7, wv.f8, wv.f9, wv.f10, wv.f11, wv.f12, wv.f13, wv.f14, wv.pk, wv.qk, wv.hk, wv.rk, c_power]
theorem m_averageBy {d : Nat} {h : Hp} {S : Int → Int} (ms : MS h S) (g : Gd S) {n w : Int} (hn : 1 ≤ n ∧ n ≤ w) (hw : w ≤ 12) : cal (d+3) m_Mod_averageBy [.inr (.inr (72)), .inl (n), .inl (w)] (h) = some (.inr (.inl (avF S n w (S 1))), h) := by
  have hm := ms.1
  have ga := g.a
  have e1 := m_hungAtOnce (d := d) ms g.1 (k := n) (w := w) (by omega) hw
  have r0 : 0 ≤ S 1 % n := Int.emod_nonneg _ (by omega)
  have r1 : S 1 % n < n := Int.emod_lt_of_pos _ (by omega)
  have e2 := m_hungAtOnce (d := d) ms g.1 (k := S 1 % n) (w := w) (by omega) hw
  have q0 : 0 ≤ S 1 / n := Int.ediv_nonneg (by omega) (by omega)
  have q1 : S 1 / n ≤ S 1 := Int.ediv_le_self _ (by omega)
  have ed : bDiv (S 1) n = S 1 / n := by
    unfold bDiv
    rw [wr_id (by omega) (by omega), wr_id (by omega) (by omega), Int.tdiv_eq_ediv_of_nonneg (by omega)]
  have er : bRem (S 1) n = S 1 % n := bRem_e (by omega) (by omega)
  show EX (d+2) m_Mod_averageBy 0 [(0, .inr (.inr (72))), (1, .inl (n)), (2, .inl (w))] [] (h) = _
  simp (disch := omega) only [Mod_averageBy_0, Mod_averageBy_15, Mod_averageBy_29, wr_id, ix_id, okx, if_pos, if_neg, Int.toNat_of_nonneg, bak_v, bak_n, wr_b01, wr_bt, b01_or, b01_0, b01_1, lc_lt0, lc_gt0, lc_eq0, wl_wr, wr_wr, wl_id, true_and, and_true, true_or, or_true, not_true_eq_false, not_false_eq_true, nc0, nc1, nc2, nc3, nc4, nc5, nc6, nc7, nc8, nc9, nc10, nc11, nc12, nc13, nc14, nc15, nc16, nc17, nc18, nc19, nc20, nc21, nc22, nc23, nc35, nc47, nc59, nc60, nc61, nc73, nc74, nc214, nc215, nc1115, nc2230, nc3345, if_true, if_false, Int.reduceToNat, hm.k, hm.r1, hm.r2, hm.r3, hm.r4, hm.r15, hm.r16, hm.r19, hm.r23, hm.r24, hm.r25, hm.r26, hm.r29, hm.r30, hm.r31, hm.r33, hm.r34, hm.r35, hm.k73, hm.k74, hm.k75, hm.k76, hm.k77, hm.k78, hm.k79, hm.k80, hm.k81, hm.k82, hm.k83, hm.k84, hm.k85, hm.k86, hm.k87, hm.k88, hm.k89, hm.n73, hm.n74, hm.n75, hm.n76, hm.n77, hm.n78, hm.n79, hm.n80, hm.n81, hm.n82, hm.n83, hm.n84, hm.n85, hm.n86, hm.n87, hm.n88, hm.n89, ms.2, ed, er, e1, e2]
  rfl
