/-! the class: Hanging, questions -/
theorem HV.f1 {h : Hp} {a : Nat} {S : Int → Int} (v : HV h a S) : hI h a 1 = S 59 := v.2.1
theorem HV.f2 {h : Hp} {a : Nat} {S : Int → Int} (v : HV h a S) : hI h a 2 = S 60 := v.2.2.1
theorem HV.rk {h : Hp} {a : Nat} {S : Int → Int} (v : HV h a S) : ∀ k : Nat, k < 12 → hI h (a + 1) k = S (61 + k) := v.2.2.2

theorem c_isJoined {d a : Nat} {h : Hp} {S : Int → Int} (hv : HV h a S) (g : Gd S) {i : Int} (h0 : -2147483648 ≤ i ∧ i ≤ 2147483647) : cal (d+1) m_Hanging_isJoined [.inr (.inr (a)), .inl (i)] (h) = some (.inl (b01 (0 ≤ i ∧ i < 12 ∧ ¬ S (61 + i) = -1)), h) := by
  have ha := hv.1
  show EX (d) m_Hanging_isJoined 0 [(0, .inr (.inr (a))), (1, .inl (i))] [] (h) = _
  by_cases c1 : 0 ≤ i ∧ i < 12
  · have gr := g.rg c1.1 c1.2
    have gb := g.b
    simp (disch := omega) only [Hanging_isJoined_0, Hanging_isJoined_4, Hanging_isJoined_10, Hanging_isJoined_20, Hanging_isJoined_24, Hanging_isJoined_25, wr_id, ix_id, okx, if_pos, if_neg, Int.toNat_of_nonneg, bak_v, bak_n, wr_b01, wr_bt, b01_or, b01_0, b01_1, lc_lt0, lc_gt0, lc_eq0, wl_wr, wr_wr, wl_id, true_and, and_true, true_or, or_true, not_true_eq_false, not_false_eq_true, nc0, nc1, nc2, nc3, nc4, nc5, nc6, nc7, nc8, nc9, nc10, nc11, nc12, nc13, nc14, nc15, nc16, nc17, nc18, nc19, nc20, nc21, nc22, nc23, nc35, nc47, nc59, nc60, nc61, nc73, nc74, nc214, nc215, nc1115, nc2230, nc3345, if_true, if_false, Int.reduceToNat, ha.k, ha.r, ha.k1, ha.n1, hv.f1, hv.f2, hv.rk, b01]
    by_cases c2 : S (61 + i) = -1 <;> simp [c1, c2]
  · by_cases c2 : i < 0
    · simp (disch := omega) only [Hanging_isJoined_0, Hanging_isJoined_4, Hanging_isJoined_24, Hanging_isJoined_25, wr_id, ix_id, okx, if_pos, if_neg, Int.toNat_of_nonneg, bak_v, bak_n, wr_b01, wr_bt, b01_or, b01_0, b01_1, lc_lt0, lc_gt0, lc_eq0, wl_wr, wr_wr, wl_id, true_and, and_true, true_or, or_true, not_true_eq_false, not_false_eq_true, nc0, nc1, nc2, nc3, nc4, nc5, nc6, nc7, nc8, nc9, nc10, nc11, nc12, nc13, nc14, nc15, nc16, nc17, nc18, nc19, nc20, nc21, nc22, nc23, nc35, nc47, nc59, nc60, nc61, nc73, nc74, nc214, nc215, nc1115, nc2230, nc3345, if_true, if_false, Int.reduceToNat, b01]
    · simp (disch := omega) only [Hanging_isJoined_0, Hanging_isJoined_4, Hanging_isJoined_24, Hanging_isJoined_25, wr_id, ix_id, okx, if_pos, if_neg, Int.toNat_of_nonneg, bak_v, bak_n, wr_b01, wr_bt, b01_or, b01_0, b01_1, lc_lt0, lc_gt0, lc_eq0, wl_wr, wr_wr, wl_id, true_and, and_true, true_or, or_true, not_true_eq_false, not_false_eq_true, nc0, nc1, nc2, nc3, nc4, nc5, nc6, nc7, nc8, nc9, nc10, nc11, nc12, nc13, nc14, nc15, nc16, nc17, nc18, nc19, nc20, nc21, nc22, nc23, nc35, nc47, nc59, nc60, nc61, nc73, nc74, nc214, nc215, nc1115, nc2230, nc3345, if_true, if_false, Int.reduceToNat, b01]
theorem c_isJoined' {d a : Nat} {h : Hp} {S : Int → Int} (hv : HV h a S) (g : Gd S) {i : Int} (h0 : 0 ≤ i) (h1 : i < 12) : cal (d+1) m_Hanging_isJoined [.inr (.inr (a)), .inl (i)] (h) = some (.inl (b01 (¬ S (61 + i) = -1)), h) := by
  rw [c_isJoined hv g (by omega)]
  simp [h0, h1, b01]
theorem c_isRightlyJoined {d a w : Nat} {h : Hp} {S : Int → Int} (wv : WV h w S) (rv : RV h w S) (hv : HV h a S) (g : Gd S) {i : Int} (h0 : 0 ≤ i) (h1 : i < S 1) : cal (d+3) m_Hanging_isRightlyJoined [.inr (.inr (a)), .inr (.inr (w)), .inl (i)] (h) = some (.inl (b01 (¬ S (61 + i) = -1 ∧ lawV S i (S (61 + i)) = 1)), h) := by
  have ha := hv.1
  have hw := wv.1
  have ga := g.a
  have gb := g.b
  have gr := g.rg h0 (by omega)
  show EX (d+2) m_Hanging_isRightlyJoined 0 [(0, .inr (.inr (a))), (1, .inr (.inr (w))), (2, .inl (i))] [] (h) = _
  simp (disch := omega) only [Hanging_isRightlyJoined_0, Hanging_isRightlyJoined_5, Hanging_isRightlyJoined_8, Hanging_isRightlyJoined_19, Hanging_isRightlyJoined_22, Hanging_isRightlyJoined_26, Hanging_isRightlyJoined_27, wr_id, ix_id, okx, if_pos, if_neg, Int.toNat_of_nonneg, bak_v, bak_n, wr_b01, wr_bt, b01_or, b01_0, b01_1, lc_lt0, lc_gt0, lc_eq0, wl_wr, wr_wr, wl_id, true_and, and_true, true_or, or_true, not_true_eq_false, not_false_eq_true, nc0, nc1, nc2, nc3, nc4, nc5, nc6, nc7, nc8, nc9, nc10, nc11, nc12, nc13, nc14, nc15, nc16, nc17, nc18, nc19, nc20, nc21, nc22, nc23, nc35, nc47, nc59, nc60, nc61, nc73, nc74, nc214, nc215, nc1115, nc2230, nc3345, if_true, if_false, Int.reduceToNat, ha.k, ha.r, ha.k1, ha.n1, hw.k, hw.r0, hw.r1, hw.r2, hw.r3, hw.r4, hw.k1, hw.k2, hw.k3, hw.k4, hw.k5, hw.n1, hw.n2, hw.n3, hw.n4, hw.n5, hv.f1, hv.f2, hv.rk, c_isJoined' hv g, c_isRight wv rv g, b01]
  by_cases c1 : S (61 + i) = -1
  · simp [c1]
  · by_cases c2 : lawV S i (S (61 + i)) = 1 <;> simp [c1, c2, h0, h1] <;> omega
theorem c_hookOn_l {d a w : Nat} {h : Hp} {S : Int → Int} (wv : WV h w S) (hv : HV h a S) (g : Gd S) {r : Int} (hr : -2147483648 ≤ r ∧ r ≤ 2147483647) : ∀ i, 0 ≤ i → i ≤ 12 → EX (d) m_Hanging_hookOn 2 [(0, .inr (.inr (a))), (1, .inr (.inr (w))), (2, .inl (r)), (3, .inl (i))] [] (h) = some (.inl (ff (fun k => decide (S (61 + k) = r)) i (S 1)), h) := by
  have ha := hv.1
  have hw := wv.1
  have ga := g.a
  have gb := g.b
  refine up_ind (hi := S 1) ?_ ?_
  · intro i hi h0 h1
    rw [Hanging_hookOn_2]
    simp (disch := omega) only [Hanging_hookOn_0, Hanging_hookOn_10, Hanging_hookOn_20, Hanging_hookOn_22, Hanging_hookOn_28, wr_id, ix_id, okx, if_pos, if_neg, Int.toNat_of_nonneg, bak_v, bak_n, wr_b01, wr_bt, b01_or, b01_0, b01_1, lc_lt0, lc_gt0, lc_eq0, wl_wr, wr_wr, wl_id, true_and, and_true, true_or, or_true, not_true_eq_false, not_false_eq_true, nc0, nc1, nc2, nc3, nc4, nc5, nc6, nc7, nc8, nc9, nc10, nc11, nc12, nc13, nc14, nc15, nc16, nc17, nc18, nc19, nc20, nc21, nc22, nc23, nc35, nc47, nc59, nc60, nc61, nc73, nc74, nc214, nc215, nc1115, nc2230, nc3345, if_true, if_false, Int.reduceToNat, ha.k, ha.r, ha.k1, ha.n1, hw.k, hw.r0, hw.r1, hw.r2, hw.r3, hw.r4, hw.k1, hw.k2, hw.k3, hw.k4, hw.k5, hw.n1, hw.n2, hw.n3, hw.n4, hw.n5, hv.f1, hv.f2, hv.rk, wv.f5, wv.f6, wv.f7, wv.f8, wv.f9, wv.f10, wv.f11, wv.f12, wv.f13, wv.f14, wv.pk, wv.qk, wv.hk, wv.rk, ff_stop]
  · intro i hi ih h0 h1
    have gr := g.rg h0 (by omega)
    rw [Hanging_hookOn_2]
    simp (disch := omega) only [Hanging_hookOn_0, Hanging_hookOn_10, Hanging_hookOn_20, Hanging_hookOn_22, Hanging_hookOn_28, wr_id, ix_id, okx, if_pos, if_neg, Int.toNat_of_nonneg, bak_v, bak_n, wr_b01, wr_bt, b01_or, b01_0, b01_1, lc_lt0, lc_gt0, lc_eq0, wl_wr, wr_wr, wl_id, true_and, and_true, true_or, or_true, not_true_eq_false, not_false_eq_true, nc0, nc1, nc2, nc3, nc4, nc5, nc6, nc7, nc8, nc9, nc10, nc11, nc12, nc13, nc14, nc15, nc16, nc17, nc18, nc19, nc20, nc21, nc22, nc23, nc35, nc47, nc59, nc60, nc61, nc73, nc74, nc214, nc215, nc1115, nc2230, nc3345, if_true, if_false, Int.reduceToNat, ha.k, ha.r, ha.k1, ha.n1, hw.k, hw.r0, hw.r1, hw.r2, hw.r3, hw.r4, hw.k1, hw.k2, hw.k3, hw.k4, hw.k5, hw.n1, hw.n2, hw.n3, hw.n4, hw.n5, hv.f1, hv.f2, hv.rk, wv.f5, wv.f6, wv.f7, wv.f8, wv.f9, wv.f10, wv.f11, wv.f12, wv.f13, wv.f14, wv.pk, wv.qk, wv.hk, wv.rk, ff_step hi, ih]
    by_cases c : S (61 + i) = r <;> simp [c]
theorem c_hookOn {d a w : Nat} {h : Hp} {S : Int → Int} (wv : WV h w S) (hv : HV h a S) (g : Gd S) {r : Int} (hr : -2147483648 ≤ r ∧ r ≤ 2147483647) : cal (d+1) m_Hanging_hookOn [.inr (.inr (a)), .inr (.inr (w)), .inl (r)] (h) = some (.inl (hookM S r), h) := by
  show EX (d) m_Hanging_hookOn 0 [(0, .inr (.inr (a))), (1, .inr (.inr (w))), (2, .inl (r))] [] (h) = _
  rw [Hanging_hookOn_0, c_hookOn_l wv hv g hr 0 (by omega) (by omega)]
  rfl
theorem c_joinedBehind_l {d a w : Nat} {h : Hp} {S : Int → Int} (wv : WV h w S) (hv : HV h a S) (g : Gd S) : ∀ i, 0 ≤ i → i ≤ 13 → EX (d+1) m_Hanging_joinedBehind 4 [(0, .inr (.inr (a))), (1, .inr (.inr (w))), (3, .inl (i))] [] (h) = some (.inl (ff (Jn S) i (S 1)), h) := by
  have ha := hv.1
  have hw := wv.1
  have ga := g.a
  refine up_ind (hi := S 1) ?_ ?_
  · intro i hi h0 h1
    rw [Hanging_joinedBehind_4]
    simp (disch := omega) only [Hanging_joinedBehind_0, Hanging_joinedBehind_12, Hanging_joinedBehind_17, Hanging_joinedBehind_20, Hanging_joinedBehind_22, Hanging_joinedBehind_28, wr_id, ix_id, okx, if_pos, if_neg, Int.toNat_of_nonneg, bak_v, bak_n, wr_b01, wr_bt, b01_or, b01_0, b01_1, lc_lt0, lc_gt0, lc_eq0, wl_wr, wr_wr, wl_id, true_and, and_true, true_or, or_true, not_true_eq_false, not_false_eq_true, nc0, nc1, nc2, nc3, nc4, nc5, nc6, nc7, nc8, nc9, nc10, nc11, nc12, nc13, nc14, nc15, nc16, nc17, nc18, nc19, nc20, nc21, nc22, nc23, nc35, nc47, nc59, nc60, nc61, nc73, nc74, nc214, nc215, nc1115, nc2230, nc3345, if_true, if_false, Int.reduceToNat, ha.k, ha.r, ha.k1, ha.n1, hw.k, hw.r0, hw.r1, hw.r2, hw.r3, hw.r4, hw.k1, hw.k2, hw.k3, hw.k4, hw.k5, hw.n1, hw.n2, hw.n3, hw.n4, hw.n5, hv.f1, hv.f2, hv.rk, wv.f5, wv.f6, wv.f7, wv.f8, wv.f9, wv.f10, wv.f11, wv.f12, wv.f13, wv.f14, wv.pk, wv.qk, wv.hk, wv.rk, ff_stop]
  · intro i hi ih h0 h1
    rw [Hanging_joinedBehind_4]
    simp (disch := omega) only [Hanging_joinedBehind_0, Hanging_joinedBehind_12, Hanging_joinedBehind_17, Hanging_joinedBehind_20, Hanging_joinedBehind_22, Hanging_joinedBehind_28, wr_id, ix_id, okx, if_pos, if_neg, Int.toNat_of_nonneg, bak_v, bak_n, wr_b01, wr_bt, b01_or, b01_0, b01_1, lc_lt0, lc_gt0, lc_eq0, wl_wr, wr_wr, wl_id, true_and, and_true, true_or, or_true, not_true_eq_false, not_false_eq_true, nc0, nc1, nc2, nc3, nc4, nc5, nc6, nc7, nc8, nc9, nc10, nc11, nc12, nc13, nc14, nc15, nc16, nc17, nc18, nc19, nc20, nc21, nc22, nc23, nc35, nc47, nc59, nc60, nc61, nc73, nc74, nc214, nc215, nc1115, nc2230, nc3345, if_true, if_false, Int.reduceToNat, ha.k, ha.r, ha.k1, ha.n1, hw.k, hw.r0, hw.r1, hw.r2, hw.r3, hw.r4, hw.k1, hw.k2, hw.k3, hw.k4, hw.k5, hw.n1, hw.n2, hw.n3, hw.n4, hw.n5, hv.f1, hv.f2, hv.rk, wv.f5, wv.f6, wv.f7, wv.f8, wv.f9, wv.f10, wv.f11, wv.f12, wv.f13, wv.f14, wv.pk, wv.qk, wv.hk, wv.rk, ff_step hi, ih, c_isJoined' hv g]
    by_cases c : S (61 + i) = -1 <;> simp [c, Jn]
theorem c_joinedBehind {d a w : Nat} {h : Hp} {S : Int → Int} (wv : WV h w S) (hv : HV h a S) (g : Gd S) {i : Int} (h0 : -1 ≤ i) (h1 : i ≤ 12) : cal (d+2) m_Hanging_joinedBehind [.inr (.inr (a)), .inr (.inr (w)), .inl (i)] (h) = some (.inl (ff (Jn S) (i + 1) (S 1)), h) := by
  show EX (d+1) m_Hanging_joinedBehind 0 [(0, .inr (.inr (a))), (1, .inr (.inr (w))), (2, .inl (i))] [] (h) = _
  rw [Hanging_joinedBehind_0, c_joinedBehind_l wv hv g _ (by omega) (by omega)]
theorem c_joinedAhead_l {d a : Nat} {h : Hp} {S : Int → Int} (hv : HV h a S) (g : Gd S) : ∀ i, -1 ≤ i → i < 12 → EX (d+1) m_Hanging_joinedAhead 4 [(0, .inr (.inr (a))), (2, .inl (i))] [] (h) = some (.inl (fl (Jn S) (i + 1)), h) := by
  have ha := hv.1
  refine dn_ind (lo := 0) ?_ ?_
  · intro i hi h0 h1
    rw [Hanging_joinedAhead_4]
    simp (disch := omega) only [Hanging_joinedAhead_0, Hanging_joinedAhead_8, Hanging_joinedAhead_13, Hanging_joinedAhead_16, Hanging_joinedAhead_18, Hanging_joinedAhead_24, wr_id, ix_id, okx, if_pos, if_neg, Int.toNat_of_nonneg, bak_v, bak_n, wr_b01, wr_bt, b01_or, b01_0, b01_1, lc_lt0, lc_gt0, lc_eq0, wl_wr, wr_wr, wl_id, true_and, and_true, true_or, or_true, not_true_eq_false, not_false_eq_true, nc0, nc1, nc2, nc3, nc4, nc5, nc6, nc7, nc8, nc9, nc10, nc11, nc12, nc13, nc14, nc15, nc16, nc17, nc18, nc19, nc20, nc21, nc22, nc23, nc35, nc47, nc59, nc60, nc61, nc73, nc74, nc214, nc215, nc1115, nc2230, nc3345, if_true, if_false, Int.reduceToNat, fl_stop]
  · intro i hi ih h0 h1
    rw [Hanging_joinedAhead_4]
    have ih := ih (by omega) (by omega)
    rw [show i - 1 = i + -1 by omega] at ih
    have e : fl (Jn S) (i + 1) = if Jn S i = true then i else fl (Jn S) i := by
      rw [fl_step (by omega), show i + 1 - 1 = i by omega]
    rw [show i + -1 + 1 = i by omega] at ih
    simp (disch := omega) only [Hanging_joinedAhead_0, Hanging_joinedAhead_8, Hanging_joinedAhead_13, Hanging_joinedAhead_16, Hanging_joinedAhead_18, Hanging_joinedAhead_24, wr_id, ix_id, okx, if_pos, if_neg, Int.toNat_of_nonneg, bak_v, bak_n, wr_b01, wr_bt, b01_or, b01_0, b01_1, lc_lt0, lc_gt0, lc_eq0, wl_wr, wr_wr, wl_id, true_and, and_true, true_or, or_true, not_true_eq_false, not_false_eq_true, nc0, nc1, nc2, nc3, nc4, nc5, nc6, nc7, nc8, nc9, nc10, nc11, nc12, nc13, nc14, nc15, nc16, nc17, nc18, nc19, nc20, nc21, nc22, nc23, nc35, nc47, nc59, nc60, nc61, nc73, nc74, nc214, nc215, nc1115, nc2230, nc3345, if_true, if_false, Int.reduceToNat, ha.k, ha.r, ha.k1, ha.n1, hv.f1, hv.f2, hv.rk, e, ih, c_isJoined' hv g]
    by_cases c : S (61 + i) = -1 <;> simp [c, Jn]
theorem c_joinedAhead {d a : Nat} {h : Hp} {S : Int → Int} (hv : HV h a S) (g : Gd S) {i : Int} (h0 : 0 ≤ i) (h1 : i ≤ 12) : cal (d+2) m_Hanging_joinedAhead [.inr (.inr (a)), .inl (i)] (h) = some (.inl (fl (Jn S) i), h) := by
  show EX (d+1) m_Hanging_joinedAhead 0 [(0, .inr (.inr (a))), (1, .inl (i))] [] (h) = _
  rw [Hanging_joinedAhead_0, c_joinedAhead_l hv g _ (by omega) (by omega)]
  rw [show i - 1 + 1 = i by omega]
theorem c_sagOf {d a w : Nat} {h : Hp} {S : Int → Int} (wv : WV h w S) (hv : HV h a S) (g : Gd S) {i : Int} (h0 : 0 ≤ i) (h1 : i < S 1) : cal (d+3) m_Hanging_sagOf [.inr (.inr (a)), .inr (.inr (w)), .inl (i)] (h) = some (.inl (sagJ S i), h) := by
  have ha := hv.1
  have hw := wv.1
  have ga := g.a
  have gb := g.b
  have gr := g.rg h0 (by omega)
  have f2 := ff_spec (p := Jn S) (N := S 1) (i + 1)
  show EX (d+2) m_Hanging_sagOf 0 [(0, .inr (.inr (a))), (1, .inr (.inr (w))), (2, .inl (i))] [] (h) = _
  unfold sagJ
  by_cases c1 : S (61 + i) = -1
  · simp (disch := omega) only [Hanging_sagOf_0, Hanging_sagOf_6, Hanging_sagOf_12, Hanging_sagOf_15, Hanging_sagOf_20, Hanging_sagOf_22, Hanging_sagOf_40, wr_id, ix_id, okx, if_pos, if_neg, Int.toNat_of_nonneg, bak_v, bak_n, wr_b01, wr_bt, b01_or, b01_0, b01_1, lc_lt0, lc_gt0, lc_eq0, wl_wr, wr_wr, wl_id, true_and, and_true, true_or, or_true, not_true_eq_false, not_false_eq_true, nc0, nc1, nc2, nc3, nc4, nc5, nc6, nc7, nc8, nc9, nc10, nc11, nc12, nc13, nc14, nc15, nc16, nc17, nc18, nc19, nc20, nc21, nc22, nc23, nc35, nc47, nc59, nc60, nc61, nc73, nc74, nc214, nc215, nc1115, nc2230, nc3345, if_true, if_false, Int.reduceToNat, ha.k, ha.r, ha.k1, ha.n1, hw.k, hw.r0, hw.r1, hw.r2, hw.r3, hw.r4, hw.k1, hw.k2, hw.k3, hw.k4, hw.k5, hw.n1, hw.n2, hw.n3, hw.n4, hw.n5, hv.f1, hv.f2, hv.rk, c_joinedBehind wv hv g, c_isJoined' hv g]
  · by_cases c2 : ff (Jn S) (i + 1) (S 1) = -1
    · simp (disch := omega) only [Hanging_sagOf_0, Hanging_sagOf_6, Hanging_sagOf_12, Hanging_sagOf_15, Hanging_sagOf_20, Hanging_sagOf_22, Hanging_sagOf_40, wr_id, ix_id, okx, if_pos, if_neg, Int.toNat_of_nonneg, bak_v, bak_n, wr_b01, wr_bt, b01_or, b01_0, b01_1, lc_lt0, lc_gt0, lc_eq0, wl_wr, wr_wr, wl_id, true_and, and_true, true_or, or_true, not_true_eq_false, not_false_eq_true, nc0, nc1, nc2, nc3, nc4, nc5, nc6, nc7, nc8, nc9, nc10, nc11, nc12, nc13, nc14, nc15, nc16, nc17, nc18, nc19, nc20, nc21, nc22, nc23, nc35, nc47, nc59, nc60, nc61, nc73, nc74, nc214, nc215, nc1115, nc2230, nc3345, if_true, if_false, Int.reduceToNat, ha.k, ha.r, ha.k1, ha.n1, hw.k, hw.r0, hw.r1, hw.r2, hw.r3, hw.r4, hw.k1, hw.k2, hw.k3, hw.k4, hw.k5, hw.n1, hw.n2, hw.n3, hw.n4, hw.n5, hv.f1, hv.f2, hv.rk, c_joinedBehind wv hv g, c_isJoined' hv g]
    · have f3 := nxt_facts g (by omega) h1 c2
      have ord := g.2.2.2 i (ff (Jn S) (i + 1) (S 1)) (by omega) (by omega) (by omega) c1 (by omega)
      simp (disch := omega) only [Hanging_sagOf_0, Hanging_sagOf_6, Hanging_sagOf_12, Hanging_sagOf_15, Hanging_sagOf_20, Hanging_sagOf_22, Hanging_sagOf_40, wr_id, ix_id, okx, if_pos, if_neg, Int.toNat_of_nonneg, bak_v, bak_n, wr_b01, wr_bt, b01_or, b01_0, b01_1, lc_lt0, lc_gt0, lc_eq0, wl_wr, wr_wr, wl_id, true_and, and_true, true_or, or_true, not_true_eq_false, not_false_eq_true, nc0, nc1, nc2, nc3, nc4, nc5, nc6, nc7, nc8, nc9, nc10, nc11, nc12, nc13, nc14, nc15, nc16, nc17, nc18, nc19, nc20, nc21, nc22, nc23, nc35, nc47, nc59, nc60, nc61, nc73, nc74, nc214, nc215, nc1115, nc2230, nc3345, if_true, if_false, Int.reduceToNat, ha.k, ha.r, ha.k1, ha.n1, hw.k, hw.r0, hw.r1, hw.r2, hw.r3, hw.r4, hw.k1, hw.k2, hw.k3, hw.k4, hw.k5, hw.n1, hw.n2, hw.n3, hw.n4, hw.n5, hv.f1, hv.f2, hv.rk, c_joinedBehind wv hv g, c_isJoined' hv g, c_sag wv ga.2 gb.2]
theorem c_joinedIn_l {d a w : Nat} {h : Hp} {S : Int → Int} (wv : WV h w S) (hv : HV h a S) (g : Gd S) : ∀ i, 0 ≤ i → i ≤ 12 → ∀ f, EX (d+1) m_Hanging_joinedIn 4 [(0, .inr (.inr (a))), (1, .inr (.inr (w))), (2, .inl (f)), (3, .inl (i))] [] (h) = some (.inl (f + sm (fun k => b01 (¬ S (61 + k) = -1)) i (S 1)), h) := by
  have ha := hv.1
  have hw := wv.1
  have ga := g.a
  refine up_ind (hi := S 1) ?_ ?_
  · intro i hi h0 h1 f
    rw [Hanging_joinedIn_4]
    simp (disch := omega) only [Hanging_joinedIn_0, Hanging_joinedIn_12, Hanging_joinedIn_17, Hanging_joinedIn_20, Hanging_joinedIn_23, Hanging_joinedIn_29, wr_id, ix_id, okx, if_pos, if_neg, Int.toNat_of_nonneg, bak_v, bak_n, wr_b01, wr_bt, b01_or, b01_0, b01_1, lc_lt0, lc_gt0, lc_eq0, wl_wr, wr_wr, wl_id, true_and, and_true, true_or, or_true, not_true_eq_false, not_false_eq_true, nc0, nc1, nc2, nc3, nc4, nc5, nc6, nc7, nc8, nc9, nc10, nc11, nc12, nc13, nc14, nc15, nc16, nc17, nc18, nc19, nc20, nc21, nc22, nc23, nc35, nc47, nc59, nc60, nc61, nc73, nc74, nc214, nc215, nc1115, nc2230, nc3345, if_true, if_false, Int.reduceToNat, hw.k, hw.r0, hw.r1, hw.r2, hw.r3, hw.r4, hw.k1, hw.k2, hw.k3, hw.k4, hw.k5, hw.n1, hw.n2, hw.n3, hw.n4, hw.n5, wv.f5, wv.f6, wv.f7, wv.f8, wv.f9, wv.f10, wv.f11, wv.f12, wv.f13, wv.f14, wv.pk, wv.qk, wv.hk, wv.rk, sm_stop, Int.add_zero]
  · intro i hi ih h0 h1 f
    rw [Hanging_joinedIn_4]
    simp (disch := omega) only [Hanging_joinedIn_0, Hanging_joinedIn_12, Hanging_joinedIn_17, Hanging_joinedIn_20, Hanging_joinedIn_23, Hanging_joinedIn_29, wr_id, ix_id, okx, if_pos, if_neg, Int.toNat_of_nonneg, bak_v, bak_n, wr_b01, wr_bt, b01_or, b01_0, b01_1, lc_lt0, lc_gt0, lc_eq0, wl_wr, wr_wr, wl_id, true_and, and_true, true_or, or_true, not_true_eq_false, not_false_eq_true, nc0, nc1, nc2, nc3, nc4, nc5, nc6, nc7, nc8, nc9, nc10, nc11, nc12, nc13, nc14, nc15, nc16, nc17, nc18, nc19, nc20, nc21, nc22, nc23, nc35, nc47, nc59, nc60, nc61, nc73, nc74, nc214, nc215, nc1115, nc2230, nc3345, if_true, if_false, Int.reduceToNat, ha.k, ha.r, ha.k1, ha.n1, hw.k, hw.r0, hw.r1, hw.r2, hw.r3, hw.r4, hw.k1, hw.k2, hw.k3, hw.k4, hw.k5, hw.n1, hw.n2, hw.n3, hw.n4, hw.n5, wv.f5, wv.f6, wv.f7, wv.f8, wv.f9, wv.f10, wv.f11, wv.f12, wv.f13, wv.f14, wv.pk, wv.qk, wv.hk, wv.rk, sm_step hi, c_isJoined' hv g]
    by_cases c : S (61 + i) = -1
    · simp [c, b01, ih (by omega) (by omega)]
    · simp [c, b01, ih (by omega) (by omega), Int.add_assoc]
/-- how many are joined -/
def jnM (S : Int → Int) : Int := sm (fun k => b01 (¬ S (61 + k) = -1)) 0 (S 1)
theorem c_joinedIn {d a w : Nat} {h : Hp} {S : Int → Int} (wv : WV h w S) (hv : HV h a S) (g : Gd S) : cal (d+2) m_Hanging_joinedIn [.inr (.inr (a)), .inr (.inr (w))] (h) = some (.inl (jnM S), h) := by
  show EX (d+1) m_Hanging_joinedIn 0 [(0, .inr (.inr (a))), (1, .inr (.inr (w)))] [] (h) = _
  rw [Hanging_joinedIn_0, c_joinedIn_l wv hv g 0 (by omega) (by omega), Int.zero_add]
  rfl
/-- is hook k joined rightly -/
def rtJ (S : Int → Int) (k : Int) : Int := b01 (¬ S (61 + k) = -1 ∧ lawV S k (S (61 + k)) = 1)
theorem c_rightIn_l {d a w : Nat} {h : Hp} {S : Int → Int} (wv : WV h w S) (rv : RV h w S) (hv : HV h a S) (g : Gd S) : ∀ i, 0 ≤ i → i ≤ 12 → ∀ f, EX (d+3) m_Hanging_rightIn 4 [(0, .inr (.inr (a))), (1, .inr (.inr (w))), (2, .inl (f)), (3, .inl (i))] [] (h) = some (.inl (f + sm (rtJ S) i (S 1)), h) := by
  have ha := hv.1
  have hw := wv.1
  have ga := g.a
  refine up_ind (hi := S 1) ?_ ?_
  · intro i hi h0 h1 f
    rw [Hanging_rightIn_4]
    simp (disch := omega) only [Hanging_rightIn_0, Hanging_rightIn_12, Hanging_rightIn_18, Hanging_rightIn_21, Hanging_rightIn_24, Hanging_rightIn_30, wr_id, ix_id, okx, if_pos, if_neg, Int.toNat_of_nonneg, bak_v, bak_n, wr_b01, wr_bt, b01_or, b01_0, b01_1, lc_lt0, lc_gt0, lc_eq0, wl_wr, wr_wr, wl_id, true_and, and_true, true_or, or_true, not_true_eq_false, not_false_eq_true, nc0, nc1, nc2, nc3, nc4, nc5, nc6, nc7, nc8, nc9, nc10, nc11, nc12, nc13, nc14, nc15, nc16, nc17, nc18, nc19, nc20, nc21, nc22, nc23, nc35, nc47, nc59, nc60, nc61, nc73, nc74, nc214, nc215, nc1115, nc2230, nc3345, if_true, if_false, Int.reduceToNat, hw.k, hw.r0, hw.r1, hw.r2, hw.r3, hw.r4, hw.k1, hw.k2, hw.k3, hw.k4, hw.k5, hw.n1, hw.n2, hw.n3, hw.n4, hw.n5, wv.f5, wv.f6, wv.f7, wv.f8, wv.f9, wv.f10, wv.f11, wv.f12, wv.f13, wv.f14, wv.pk, wv.qk, wv.hk, wv.rk, sm_stop, Int.add_zero]
  · intro i hi ih h0 h1 f
    rw [Hanging_rightIn_4]
    simp (disch := omega) only [Hanging_rightIn_0, Hanging_rightIn_12, Hanging_rightIn_18, Hanging_rightIn_21, Hanging_rightIn_24, Hanging_rightIn_30, wr_id, ix_id, okx, if_pos, if_neg, Int.toNat_of_nonneg, bak_v, bak_n, wr_b01, wr_bt, b01_or, b01_0, b01_1, lc_lt0, lc_gt0, lc_eq0, wl_wr, wr_wr, wl_id, true_and, and_true, true_or, or_true, not_true_eq_false, not_false_eq_true, nc0, nc1, nc2, nc3, nc4, nc5, nc6, nc7, nc8, nc9, nc10, nc11, nc12, nc13, nc14, nc15, nc16, nc17, nc18, nc19, nc20, nc21, nc22, nc23, nc35, nc47, nc59, nc60, nc61, nc73, nc74, nc214, nc215, nc1115, nc2230, nc3345, if_true, if_false, Int.reduceToNat, ha.k, ha.r, ha.k1, ha.n1, hw.k, hw.r0, hw.r1, hw.r2, hw.r3, hw.r4, hw.k1, hw.k2, hw.k3, hw.k4, hw.k5, hw.n1, hw.n2, hw.n3, hw.n4, hw.n5, wv.f5, wv.f6, wv.f7, wv.f8, wv.f9, wv.f10, wv.f11, wv.f12, wv.f13, wv.f14, wv.pk, wv.qk, wv.hk, wv.rk, sm_step hi, c_isRightlyJoined wv rv hv g]
    unfold rtJ b01 at *
    by_cases c : ¬ S (61 + i) = -1 ∧ lawV S i (S (61 + i)) = 1
    · simp [c, ih (by omega) (by omega), Int.add_assoc]
    · simp only [c, if_false, not_false_eq_true, if_true, ih (by omega) (by omega), Int.zero_add]
theorem c_rightIn {d a w : Nat} {h : Hp} {S : Int → Int} (wv : WV h w S) (rv : RV h w S) (hv : HV h a S) (g : Gd S) : cal (d+4) m_Hanging_rightIn [.inr (.inr (a)), .inr (.inr (w))] (h) = some (.inl (sm (rtJ S) 0 (S 1)), h) := by
  show EX (d+3) m_Hanging_rightIn 0 [(0, .inr (.inr (a))), (1, .inr (.inr (w)))] [] (h) = _
  rw [Hanging_rightIn_0, c_rightIn_l wv rv hv g 0 (by omega) (by omega), Int.zero_add]
