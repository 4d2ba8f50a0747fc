/-! powers, groups: both sides -/
def pwK (c k : Int) : Int := c ^ k.toNat
theorem pwK_s {c k : Int} (h : 0 ≤ k) : pwK c (k + 1) = pwK c k * c := by
  unfold pwK
  rw [show (k + 1).toNat = k.toNat + 1 by omega, Int.pow_succ]
theorem pwK_0 (c : Int) : pwK c 0 = 1 := by
  unfold pwK
  rw [show (0 : Int).toNat = 0 from rfl, Int.pow_zero]
theorem m_power_l {d : Nat} {h : Hp} {c n : Int} (hn : 0 ≤ n ∧ n ≤ 12) : ∀ k, 0 ≤ k → k ≤ 12 → k ≤ n → EX (d) m_Mod_power 5 [(0, .inr (.inl (c))), (2, .inl (n)), (3, .inr (.inl (pwK c k))), (5, .inl (k))] [] (h) = some (.inr (.inl (pwK c n)), h) := by
  refine up_ind (hi := n) ?_ ?_
  · intro k hk h0 h1 hq
    have : k = n := by omega
    rw [Mod_power_5, ← this]
    simp (disch := omega) only [Mod_power_21, wr_id, ix_id, okx, if_pos, if_neg, Int.toNat_of_nonneg, bak_v, bak_n, wr_b01, wr_bt, b01_or, b01_0, b01_1, lc_lt0, lc_gt0, lc_eq0, wl_wr, wr_wr, wl_id, true_and, and_true, true_or, or_true, not_true_eq_false, not_false_eq_true, nc0, nc1, nc2, nc3, nc4, nc5, nc6, nc7, nc8, nc9, nc10, nc11, nc12, nc13, nc14, nc15, nc16, nc17, nc18, nc19, nc20, nc21, nc22, nc23, nc35, nc47, nc59, nc60, nc61, nc73, nc74, nc214, nc215, nc1115, nc2230, nc3345, if_true, if_false, Int.reduceToNat]
  · intro k hk ih h0 h1 hq
    have e := ih (by omega) (by omega) (by omega)
    rw [pwK_s h0] at e
    rw [Mod_power_5]
    simp (disch := omega) only [Mod_power_11, wr_id, ix_id, okx, if_pos, if_neg, Int.toNat_of_nonneg, bak_v, bak_n, wr_b01, wr_bt, b01_or, b01_0, b01_1, lc_lt0, lc_gt0, lc_eq0, wl_wr, wr_wr, wl_id, true_and, and_true, true_or, or_true, not_true_eq_false, not_false_eq_true, nc0, nc1, nc2, nc3, nc4, nc5, nc6, nc7, nc8, nc9, nc10, nc11, nc12, nc13, nc14, nc15, nc16, nc17, nc18, nc19, nc20, nc21, nc22, nc23, nc35, nc47, nc59, nc60, nc61, nc73, nc74, nc214, nc215, nc1115, nc2230, nc3345, if_true, if_false, Int.reduceToNat]
    exact e
theorem m_power {d : Nat} {h : Hp} {c n : Int} (hn : 0 ≤ n ∧ n ≤ 12) : cal (d+1) m_Mod_power [.inr (.inl (c)), .inl (n)] (h) = some (.inr (.inl (pwK c n)), h) := by
  have e := m_power_l (d := d) (h := h) (c := c) hn 0 (by omega) (by omega) (by omega)
  rw [pwK_0] at e
  show EX (d) m_Mod_power 0 [(0, .inr (.inl (c))), (2, .inl (n))] [] (h) = _
  rw [Mod_power_0]
  exact e
theorem c_power_l {d : Nat} {h : Hp} {c n : Int} (hn : 0 ≤ n ∧ n ≤ 12) : ∀ k, 0 ≤ k → k ≤ 12 → k ≤ n → EX (d) m_Reckoner_power 5 [(0, .inr (.inl (c))), (2, .inl (n)), (3, .inr (.inl (pwK c k))), (5, .inl (k))] [] (h) = some (.inr (.inl (pwK c n)), h) := by
  refine up_ind (hi := n) ?_ ?_
  · intro k hk h0 h1 hq
    have : k = n := by omega
    rw [Reckoner_power_5, ← this]
    simp (disch := omega) only [Reckoner_power_21, wr_id, ix_id, okx, if_pos, if_neg, Int.toNat_of_nonneg, bak_v, bak_n, wr_b01, wr_bt, b01_or, b01_0, b01_1, lc_lt0, lc_gt0, lc_eq0, wl_wr, wr_wr, wl_id, true_and, and_true, true_or, or_true, not_true_eq_false, not_false_eq_true, nc0, nc1, nc2, nc3, nc4, nc5, nc6, nc7, nc8, nc9, nc10, nc11, nc12, nc13, nc14, nc15, nc16, nc17, nc18, nc19, nc20, nc21, nc22, nc23, nc35, nc47, nc59, nc60, nc61, nc73, nc74, nc214, nc215, nc1115, nc2230, nc3345, if_true, if_false, Int.reduceToNat]
  · intro k hk ih h0 h1 hq
    have e := ih (by omega) (by omega) (by omega)
    rw [pwK_s h0] at e
    rw [Reckoner_power_5]
    simp (disch := omega) only [Reckoner_power_11, wr_id, ix_id, okx, if_pos, if_neg, Int.toNat_of_nonneg, bak_v, bak_n, wr_b01, wr_bt, b01_or, b01_0, b01_1, lc_lt0, lc_gt0, lc_eq0, wl_wr, wr_wr, wl_id, true_and, and_true, true_or, or_true, not_true_eq_false, not_false_eq_true, nc0, nc1, nc2, nc3, nc4, nc5, nc6, nc7, nc8, nc9, nc10, nc11, nc12, nc13, nc14, nc15, nc16, nc17, nc18, nc19, nc20, nc21, nc22, nc23, nc35, nc47, nc59, nc60, nc61, nc73, nc74, nc214, nc215, nc1115, nc2230, nc3345, if_true, if_false, Int.reduceToNat]
    exact e
theorem c_power {d : Nat} {h : Hp} {c n : Int} (hn : 0 ≤ n ∧ n ≤ 12) : cal (d+1) m_Reckoner_power [.inr (.inl (c)), .inl (n)] (h) = some (.inr (.inl (pwK c n)), h) := by
  have e := c_power_l (d := d) (h := h) (c := c) hn 0 (by omega) (by omega) (by omega)
  rw [pwK_0] at e
  show EX (d) m_Reckoner_power 0 [(0, .inr (.inl (c))), (2, .inl (n))] [] (h) = _
  rw [Reckoner_power_0]
  exact e
/-- a group of k, tried on the average; w: the exponent of the whole -/
def gpU (S : Int → Int) (k w : Int) : Int := if k = 0 then 0 else (k * S 5 + S 8) * pwK 10 k * pwK (10 - S 7) (w - k)
theorem m_hungAtOnce {d : Nat} {h : Hp} {S : Int → Int} (ms : MS h S) (g : GdW S) {k w : Int} (hk : 0 ≤ k ∧ k ≤ w) (hw : w ≤ 12) : cal (d+2) m_Mod_hungAtOnce [.inr (.inr (72)), .inl (k), .inl (w)] (h) = some (.inr (.inl (gpU S k w)), h) := by
  have hm := ms.1
  have g5 := g.2.2.2.2.1
  have g7 := g.2.2.2.2.2.2.1
  have g8 := g.2.2.2.2.2.2.2.1
  show EX (d+1) m_Mod_hungAtOnce 0 [(0, .inr (.inr (72))), (1, .inl (k)), (2, .inl (w))] [] (h) = _
  unfold gpU
  by_cases c : k = 0
  · rw [if_pos c]
    simp (disch := omega) only [Mod_hungAtOnce_0, Mod_hungAtOnce_4, Mod_hungAtOnce_52, wr_id, ix_id, okx, if_pos, if_neg, Int.toNat_of_nonneg, bak_v, bak_n, wr_b01, wr_bt, b01_or, b01_0, b01_1, lc_lt0, lc_gt0, lc_eq0, wl_wr, wr_wr, wl_id, true_and, and_true, true_or, or_true, not_true_eq_false, not_false_eq_true, nc0, nc1, nc2, nc3, nc4, nc5, nc6, nc7, nc8, nc9, nc10, nc11, nc12, nc13, nc14, nc15, nc16, nc17, nc18, nc19, nc20, nc21, nc22, nc23, nc35, nc47, nc59, nc60, nc61, nc73, nc74, nc214, nc215, nc1115, nc2230, nc3345, if_true, if_false, Int.reduceToNat, c]
  · rw [if_neg c]
    have p1 : 0 ≤ k * S 5 := Int.mul_nonneg hk.1 (by omega)
    have p2 : k * S 5 ≤ 12 * 99 := Int.mul_le_mul (by omega) (by omega) (by omega) (by omega)
    simp (disch := omega) only [Mod_hungAtOnce_0, Mod_hungAtOnce_8, Mod_hungAtOnce_32, Mod_hungAtOnce_51, Mod_hungAtOnce_52, wr_id, ix_id, okx, if_pos, if_neg, Int.toNat_of_nonneg, bak_v, bak_n, wr_b01, wr_bt, b01_or, b01_0, b01_1, lc_lt0, lc_gt0, lc_eq0, wl_wr, wr_wr, wl_id, true_and, and_true, true_or, or_true, not_true_eq_false, not_false_eq_true, nc0, nc1, nc2, nc3, nc4, nc5, nc6, nc7, nc8, nc9, nc10, nc11, nc12, nc13, nc14, nc15, nc16, nc17, nc18, nc19, nc20, nc21, nc22, nc23, nc35, nc47, nc59, nc60, nc61, nc73, nc74, nc214, nc215, nc1115, nc2230, nc3345, if_true, if_false, Int.reduceToNat, hm.k, hm.r1, hm.r2, hm.r3, hm.r4, hm.r15, hm.r16, hm.r19, hm.r23, hm.r24, hm.r25, hm.r26, hm.r29, hm.r30, hm.r31, hm.r33, hm.r34, hm.r35, hm.k73, hm.k74, hm.k75, hm.k76, hm.k77, hm.k78, hm.k79, hm.k80, hm.k81, hm.k82, hm.k83, hm.k84, hm.k85, hm.k86, hm.k87, hm.k88, hm.k89, hm.n73, hm.n74, hm.n75, hm.n76, hm.n77, hm.n78, hm.n79, hm.n80, hm.n81, hm.n82, hm.n83, hm.n84, hm.n85, hm.n86, hm.n87, hm.n88, hm.n89, ms.2, m_power]
theorem c_upperOfGroup {d w : Nat} {h : Hp} {S : Int → Int} (wv : WV h w S) (g : GdW S) {k : Int} (hk : 1 ≤ k ∧ k ≤ 12) : cal (d+2) m_Reckoner_upperOfGroup [.inr (.inr (w)), .inl (k)] (h) = some (.inr (.inl (gpU S k 12)), h) := by
  have hw := wv.1
  have g5 := g.2.2.2.2.1
  have g7 := g.2.2.2.2.2.2.1
  have g8 := g.2.2.2.2.2.2.2.1
  show EX (d+1) m_Reckoner_upperOfGroup 0 [(0, .inr (.inr (w))), (1, .inl (k))] [] (h) = _
  unfold gpU
  rw [if_neg (by omega)]
  simp (disch := omega) only [Reckoner_upperOfGroup_0, Reckoner_upperOfGroup_23, Reckoner_upperOfGroup_39, wr_id, ix_id, okx, if_pos, if_neg, Int.toNat_of_nonneg, bak_v, bak_n, wr_b01, wr_bt, b01_or, b01_0, b01_1, lc_lt0, lc_gt0, lc_eq0, wl_wr, wr_wr, wl_id, true_and, and_true, true_or, or_true, not_true_eq_false, not_false_eq_true, nc0, nc1, nc2, nc3, nc4, nc5, nc6, nc7, nc8, nc9, nc10, nc11, nc12, nc13, nc14, nc15, nc16, nc17, nc18, nc19, nc20, nc21, nc22, nc23, nc35, nc47, nc59, nc60, nc61, nc73, nc74, nc214, nc215, nc1115, nc2230, nc3345, if_true, if_false, Int.reduceToNat, hw.k, hw.r0, hw.r1, hw.r2, hw.r3, hw.r4, hw.k1, hw.k2, hw.k3, hw.k4, hw.k5, hw.n1, hw.n2, hw.n3, hw.n4, hw.n5, wv.f5, wv.f6, wv.f7, wv.f8, wv.f9, wv.f10, wv.f11, wv.f12, wv.f13, wv.f14, wv.pk, wv.qk, wv.hk, wv.rk, c_power]
