/-! looks: the class -/
def wtB (nb : Int → Int) (t lo hi : Int) : Int → Bool := fun k => decide (¬ (lo ≤ nb (40 * t + k) ∧ nb (40 * t + k) ≤ hi))
/-- a tray that is there -/
def TY (h : Hp) (w t : Nat) (rs rm nb : Int → Int) : Prop := CR h w ∧ TV h rs rm nb ∧ TG rs rm nb ∧ t < 4 ∧ ¬ rs t = -1
theorem TY.fr {h h' : Hp} {w t : Nat} {rs rm nb : Int → Int} (y : TY h w t rs rm nb) {p : Nat → Nat → Prop} (f : Fr p h h') (hp : ∀ a k, p a k → 60 ≤ a) : TY h' w t rs rm nb := ⟨y.1.fr f, y.2.1.fr f (fun a k q1 q2 q => by have := hp a k q; omega), y.2.2.1, y.2.2.2⟩
theorem TY.cells {h : Hp} {w t : Nat} {rs rm nb : Int → Int} (y : TY h w t rs rm nb) : sK h (33 + 2 * t) = 7 ∧ hR h (33 + 2 * t) 0 = 34 + 2 * t ∧ sK h (34 + 2 * t) = 21 ∧ sN h (34 + 2 * t) = 40 ∧ hI h (33 + 2 * t) 2 = rm t ∧ (0 ≤ rm t ∧ rm t ≤ 40) := by
  have tk := y.1.tk y.2.2.2.1
  have g := y.2.2.1.1 t (by omega) (by have := y.2.2.2.1; omega)
  have v := (y.2.1 t y.2.2.2.1).2 y.2.2.2.2
  unfold TrAt at tk
  rw [show 33 + 2 * t + 1 = 34 + 2 * t by omega] at tk
  exact ⟨tk.1, tk.2.1, tk.2.2.1, tk.2.2.2, v.1, g.2.2.1, g.2.2.2⟩
theorem c_isWithin_l {d w t : Nat} {h : Hp} {rs rm nb : Int → Int} (y : TY h w t rs rm nb) {lo hi : Int} (hl : -2147483648 ≤ lo ∧ lo ≤ 2147483647) (hh : -2147483648 ≤ hi ∧ hi ≤ 2147483647) : ∀ k, 0 ≤ k → k ≤ 40 → EX (d) m_Tray_isWithin 3 [(0, .inr (.inr (33 + 2 * t))), (1, .inr (.inl (lo))), (3, .inr (.inl (hi))), (5, .inl (k))] [] (h) = some (.inl (b01 (ff (wtB nb t lo hi) k (rm t) = -1)), h) := by
  obtain ⟨k1, k2, k3, k4, k5, k6⟩ := y.cells
  refine up_ind (hi := rm t) ?_ ?_
  · intro k hk h0 h1
    rw [Tray_isWithin_3, ff_stop hk]
    simp (disch := omega) only [Tray_isWithin_44, wr_id, ix_id, okx, if_pos, if_neg, Int.toNat_of_nonneg, bak_v, bak_n, wr_b01, wr_bt, b01_or, b01_0, b01_1, lc_lt0, lc_gt0, lc_eq0, wl_wr, wr_wr, wl_id, true_and, and_true, true_or, or_true, not_true_eq_false, not_false_eq_true, nc0, nc1, nc2, nc3, nc4, nc5, nc6, nc7, nc8, nc9, nc10, nc11, nc12, nc13, nc14, nc15, nc16, nc17, nc18, nc19, nc20, nc21, nc22, nc23, nc35, nc47, nc59, nc60, nc61, nc73, nc74, nc214, nc215, nc1115, nc2230, nc3345, if_true, if_false, Int.reduceToNat, k1, k5]
    rfl
  · intro k hk ih h0 h1
    have v3 := ((y.2.1 t y.2.2.2.1).2 y.2.2.2.2).2.2 k.toNat (by omega)
    rw [Int.toNat_of_nonneg h0] at v3
    have nr := y.2.2.1.2 (40 * t + k)
    rw [Tray_isWithin_3, ff_step hk]
    by_cases c1 : nb (40 * t + k) < lo
    · have nn : wtB nb t lo hi k = true := by simp only [wtB, decide_eq_true_eq]; omega
      rw [if_pos nn]
      have e0 : b01 (k = -1) = 0 := by unfold b01; rw [if_neg (by omega)]
      rw [e0]
      simp (disch := omega) only [Tray_isWithin_12, Tray_isWithin_36, wr_id, ix_id, okx, if_pos, if_neg, Int.toNat_of_nonneg, bak_v, bak_n, wr_b01, wr_bt, b01_or, b01_0, b01_1, lc_lt0, lc_gt0, lc_eq0, wl_wr, wr_wr, wl_id, true_and, and_true, true_or, or_true, not_true_eq_false, not_false_eq_true, nc0, nc1, nc2, nc3, nc4, nc5, nc6, nc7, nc8, nc9, nc10, nc11, nc12, nc13, nc14, nc15, nc16, nc17, nc18, nc19, nc20, nc21, nc22, nc23, nc35, nc47, nc59, nc60, nc61, nc73, nc74, nc214, nc215, nc1115, nc2230, nc3345, if_true, if_false, Int.reduceToNat, k1, k2, k3, k4, k5, v3]
    · by_cases c2 : hi < nb (40 * t + k)
      · have nn : wtB nb t lo hi k = true := by simp only [wtB, decide_eq_true_eq]; omega
        rw [if_pos nn]
        have e0 : b01 (k = -1) = 0 := by unfold b01; rw [if_neg (by omega)]
        rw [e0]
        simp (disch := omega) only [Tray_isWithin_12, Tray_isWithin_24, Tray_isWithin_36, wr_id, ix_id, okx, if_pos, if_neg, Int.toNat_of_nonneg, bak_v, bak_n, wr_b01, wr_bt, b01_or, b01_0, b01_1, lc_lt0, lc_gt0, lc_eq0, wl_wr, wr_wr, wl_id, true_and, and_true, true_or, or_true, not_true_eq_false, not_false_eq_true, nc0, nc1, nc2, nc3, nc4, nc5, nc6, nc7, nc8, nc9, nc10, nc11, nc12, nc13, nc14, nc15, nc16, nc17, nc18, nc19, nc20, nc21, nc22, nc23, nc35, nc47, nc59, nc60, nc61, nc73, nc74, nc214, nc215, nc1115, nc2230, nc3345, if_true, if_false, Int.reduceToNat, k1, k2, k3, k4, k5, v3]
      · have nn : ¬ wtB nb t lo hi k = true := by simp only [wtB, decide_eq_true_eq]; omega
        rw [if_neg nn]
        simp (disch := omega) only [Tray_isWithin_12, Tray_isWithin_24, Tray_isWithin_38, wr_id, ix_id, okx, if_pos, if_neg, Int.toNat_of_nonneg, bak_v, bak_n, wr_b01, wr_bt, b01_or, b01_0, b01_1, lc_lt0, lc_gt0, lc_eq0, wl_wr, wr_wr, wl_id, true_and, and_true, true_or, or_true, not_true_eq_false, not_false_eq_true, nc0, nc1, nc2, nc3, nc4, nc5, nc6, nc7, nc8, nc9, nc10, nc11, nc12, nc13, nc14, nc15, nc16, nc17, nc18, nc19, nc20, nc21, nc22, nc23, nc35, nc47, nc59, nc60, nc61, nc73, nc74, nc214, nc215, nc1115, nc2230, nc3345, if_true, if_false, Int.reduceToNat, k1, k2, k3, k4, k5, v3]
        exact ih (by omega) (by omega)
theorem c_isWithin {d w t : Nat} {h : Hp} {rs rm nb : Int → Int} (y : TY h w t rs rm nb) {lo hi : Int} (hl : -2147483648 ≤ lo ∧ lo ≤ 2147483647) (hh : -2147483648 ≤ hi ∧ hi ≤ 2147483647) : cal (d+1) m_Tray_isWithin [.inr (.inr (33 + 2 * t)), .inr (.inl (lo)), .inr (.inl (hi))] (h) = some (.inl (b01 (ff (wtB nb t lo hi) 0 (rm t) = -1)), h) := by
  show EX (d) m_Tray_isWithin 0 [(0, .inr (.inr (33 + 2 * t))), (1, .inr (.inl (lo))), (3, .inr (.inl (hi)))] [] (h) = _
  rw [Tray_isWithin_0]
  exact c_isWithin_l y hl hh 0 (by omega) (by omega)
/-- the class's table -/
def lkS (h : Hp) (c : Int → Int) (i j : Int) : Prop := hI h 70 (i * 21 + j).toNat = LK c i j
theorem c_worstWith {d w t : Nat} {h : Hp} {rs rm nb : Int → Int} (y : TY h w t rs rm nb) {u : Int} (hN : rm t ≤ 20) (hc : ∀ k, 0 ≤ k → k < rm t → 0 ≤ lkC nb t u k ∧ lkC nb t u k ≤ 999) (hu : u = 0 ∨ u = 1) {i k j : Int} (hi : 0 ≤ i ∧ i ≤ k) (hk : k < j ∧ j ≤ rm t) (v1 : lkS h (lkC nb t u) i k) (v2 : lkS h (lkC nb t u) (k + 1) j) : cal (d+3) m_Reckoner_worstWith [.inr (.inr (33 + 2 * t)), .inl (u), .inl (i), .inl (k), .inl (j), .inr (.inr (70))] (h) = some (.inl (lkP (lkC nb t u) i j k), h) := by
  have a := LK_rng hc hN (i := i) (j := k) hi.1 (by omega)
  have b := LK_rng hc hN (i := k + 1) (j := j) (by omega) hk.2
  have cc := hc k (by omega) (by omega)
  obtain ⟨q1, q2, q3, q4, q5, q6⟩ := y.cells
  have hc := y.1
  unfold lkS at v1 v2
  have ec : cal (d+2) m_Reckoner_costAt [.inr (.inr (33 + 2 * t)), .inl (k), .inl (u)] (h) = some (.inl (lkC nb t u k), h) := by
    show EX (d+1) m_Reckoner_costAt 0 [(0, .inr (.inr (33 + 2 * t))), (1, .inl (k)), (2, .inl (u))] [] (h) = _
    have ea := c_at (d := d) y.1 y.2.1 y.2.2.1 y.2.2.2.1 y.2.2.2.2 (i := k) (by omega)
    unfold lkC
    rcases hu with e | e <;> subst e
    · rw [if_pos (show (0 : Int) = 0 from rfl)]
      simp (disch := omega) only [Reckoner_costAt_0, Reckoner_costAt_8, Reckoner_costAt_13, Reckoner_costAt_14, wr_id, ix_id, okx, if_pos, if_neg, Int.toNat_of_nonneg, bak_v, bak_n, wr_b01, wr_bt, b01_or, b01_0, b01_1, lc_lt0, lc_gt0, lc_eq0, wl_wr, wr_wr, wl_id, true_and, and_true, true_or, or_true, not_true_eq_false, not_false_eq_true, nc0, nc1, nc2, nc3, nc4, nc5, nc6, nc7, nc8, nc9, nc10, nc11, nc12, nc13, nc14, nc15, nc16, nc17, nc18, nc19, nc20, nc21, nc22, nc23, nc35, nc47, nc59, nc60, nc61, nc73, nc74, nc214, nc215, nc1115, nc2230, nc3345, if_true, if_false, Int.reduceToNat, q1, ea]
    · rw [if_neg (show ¬ (1 : Int) = 0 by omega)]
      simp (disch := omega) only [Reckoner_costAt_0, Reckoner_costAt_4, Reckoner_costAt_14, wr_id, ix_id, okx, if_pos, if_neg, Int.toNat_of_nonneg, bak_v, bak_n, wr_b01, wr_bt, b01_or, b01_0, b01_1, lc_lt0, lc_gt0, lc_eq0, wl_wr, wr_wr, wl_id, true_and, and_true, true_or, or_true, not_true_eq_false, not_false_eq_true, nc0, nc1, nc2, nc3, nc4, nc5, nc6, nc7, nc8, nc9, nc10, nc11, nc12, nc13, nc14, nc15, nc16, nc17, nc18, nc19, nc20, nc21, nc22, nc23, nc35, nc47, nc59, nc60, nc61, nc73, nc74, nc214, nc215, nc1115, nc2230, nc3345, if_true, if_false, Int.reduceToNat]
  have em : lkP (lkC nb t u) i j k = lkC nb t u k + (if LK (lkC nb t u) i k < LK (lkC nb t u) (k + 1) j then LK (lkC nb t u) (k + 1) j else LK (lkC nb t u) i k) := by
    unfold lkP mxx
    repeat' split
    all_goals omega
  rw [em]
  show EX (d+2) m_Reckoner_worstWith 0 [(0, .inr (.inr (33 + 2 * t))), (1, .inl (u)), (2, .inl (i)), (3, .inl (k)), (4, .inl (j)), (5, .inr (.inr (70)))] [] (h) = _
  simp (disch := omega) only [Reckoner_worstWith_0, Reckoner_worstWith_31, Reckoner_worstWith_38, wr_id, ix_id, okx, if_pos, if_neg, Int.toNat_of_nonneg, bak_v, bak_n, wr_b01, wr_bt, b01_or, b01_0, b01_1, lc_lt0, lc_gt0, lc_eq0, wl_wr, wr_wr, wl_id, true_and, and_true, true_or, or_true, not_true_eq_false, not_false_eq_true, nc0, nc1, nc2, nc3, nc4, nc5, nc6, nc7, nc8, nc9, nc10, nc11, nc12, nc13, nc14, nc15, nc16, nc17, nc18, nc19, nc20, nc21, nc22, nc23, nc35, nc47, nc59, nc60, nc61, nc73, nc74, nc214, nc215, nc1115, nc2230, nc3345, if_true, if_false, Int.reduceToNat, hc.k6, hc.r5, hc.r6, hc.r0, hc.r2, hc.r7, hc.r8, hc.r9, hc.r10, hc.r11, hc.r12, hc.r13, hc.r14, hc.r15, hc.r16, hc.r17, hc.r18, hc.r8_0, hc.r8_1, hc.r11_0, hc.r11_1, hc.r60_0, hc.r60_1, hc.r60_4, hc.r64_0, hc.r64_3, hc.r64_4, hc.r68_0, hc.r41_0, hc.r41_1, hc.r42_0, hc.r42_1, hc.k7, hc.k8, hc.k9, hc.k11, hc.k12, hc.k13, hc.k32, hc.k41, hc.k42, hc.k43, hc.k60, hc.k61, hc.k62, hc.k63, hc.k64, hc.k65, hc.k66, hc.k67, hc.k68, hc.k69, hc.k70, hc.k71, hc.n6, hc.n7, hc.n8, hc.n9, hc.n11, hc.n12, hc.n13, hc.n32, hc.n41, hc.n42, hc.n43, hc.n60, hc.n61, hc.n62, hc.n63, hc.n64, hc.n65, hc.n66, hc.n67, hc.n68, hc.n69, hc.n70, hc.n71, v1, v2, ec, max_s]
theorem c_wl_1 {d w t : Nat} {h : Hp} {rs rm nb : Int → Int} (y : TY h w t rs rm nb) {u : Int} (hN : rm t ≤ 20) (hc : ∀ k, 0 ≤ k → k < rm t → 0 ≤ lkC nb t u k ∧ lkC nb t u k ≤ 999) (hu : u = 0 ∨ u = 1) {i j : Int} (hi : 0 ≤ i) (hj : i < j ∧ j ≤ rm t) (ti : ∀ k, i ≤ k → k < j → lkS h (lkC nb t u) i k) (tb : ∀ z, i < z → z ≤ j → lkS h (lkC nb t u) z j) : ∀ k, i ≤ k → k ≤ 20 → ∀ m, (-1 ≤ m ∧ m ≤ 1000000) → EX (d+3) m_Reckoner_worstOfLooks 49 [(0, .inr (.inr (33 + 2 * t))), (1, .inl (u)), (2, .inr (.inr (70))), (3, .inl (rm t)), (4, .inl (i)), (5, .inl (j)), (6, .inl (toF m)), (7, .inl (k))] [] (h) = EX (d+3) m_Reckoner_worstOfLooks 81 [(0, .inr (.inr (33 + 2 * t))), (1, .inl (u)), (2, .inr (.inr (70))), (3, .inl (rm t)), (4, .inl (i)), (5, .inl (j)), (6, .inl (toF (fo (fun k m => mn1 (lkP (lkC nb t u) i j k) m) k j m)))] [] (h) := by
  refine up_ind (hi := j) ?_ ?_
  · intro k hk h0 h1 m hm0
    rw [Reckoner_worstOfLooks_49, fo_stop hk]
    simp (disch := omega) only [wr_id, ix_id, okx, if_pos, if_neg, Int.toNat_of_nonneg, bak_v, bak_n, wr_b01, wr_bt, b01_or, b01_0, b01_1, lc_lt0, lc_gt0, lc_eq0, wl_wr, wr_wr, wl_id, true_and, and_true, true_or, or_true, not_true_eq_false, not_false_eq_true, nc0, nc1, nc2, nc3, nc4, nc5, nc6, nc7, nc8, nc9, nc10, nc11, nc12, nc13, nc14, nc15, nc16, nc17, nc18, nc19, nc20, nc21, nc22, nc23, nc35, nc47, nc59, nc60, nc61, nc73, nc74, nc214, nc215, nc1115, nc2230, nc3345, if_true, if_false, Int.reduceToNat]
  · intro k hk ih h0 h1 m hm0
    have pr := lkP_rng hc hN (i := i) (j := j) (k := k) hi hj.2 ⟨h0, hk⟩
    have e := c_worstWith (d := d) y hN hc hu (i := i) (k := k) (j := j) ⟨hi, h0⟩ ⟨hk, hj.2⟩ (ti k h0 hk) (tb (k + 1) (by omega) (by omega))
    have tm := toF_mn (v := lkP (lkC nb t u) i j k) (m := m) (by omega) (by omega)
    have tv : toF (lkP (lkC nb t u) i j k) = lkP (lkC nb t u) i j k := by unfold toF; rw [if_neg (by omega)]
    have tr := toF_rng (v := m) (by omega)
    rw [tv] at tm
    have mr : -1 ≤ mn1 (lkP (lkC nb t u) i j k) m ∧ mn1 (lkP (lkC nb t u) i j k) m ≤ 1000000 := by unfold mn1; split <;> omega
    have e2 := ih (by omega) (by omega) _ mr
    rw [tm] at e2
    rw [Reckoner_worstOfLooks_49, fo_step hk]
    simp (disch := omega) only [Reckoner_worstOfLooks_56, Reckoner_worstOfLooks_70, Reckoner_worstOfLooks_73, wr_id, ix_id, okx, if_pos, if_neg, Int.toNat_of_nonneg, bak_v, bak_n, wr_b01, wr_bt, b01_or, b01_0, b01_1, lc_lt0, lc_gt0, lc_eq0, wl_wr, wr_wr, wl_id, true_and, and_true, true_or, or_true, not_true_eq_false, not_false_eq_true, nc0, nc1, nc2, nc3, nc4, nc5, nc6, nc7, nc8, nc9, nc10, nc11, nc12, nc13, nc14, nc15, nc16, nc17, nc18, nc19, nc20, nc21, nc22, nc23, nc35, nc47, nc59, nc60, nc61, nc73, nc74, nc214, nc215, nc1115, nc2230, nc3345, if_true, if_false, Int.reduceToNat, e, min_s]
    exact e2
def p70 (a _k : Nat) : Prop := a = 70
theorem p70.ge : ∀ a k, p70 a k → 60 ≤ a := fun a k q => by unfold p70 at q; omega
theorem c_wl_2 {d w t : Nat} {rs rm nb : Int → Int} {u : Int} (hN : 0 ≤ rm t ∧ rm t ≤ 20) (hc : ∀ k, 0 ≤ k → k < rm t → 0 ≤ lkC nb t u k ∧ lkC nb t u k ≤ 999) (hu : u = 0 ∨ u = 1) {i : Int} (hi : 0 ≤ i ∧ i ≤ rm t) : ∀ j, i + 1 ≤ j → j ≤ 21 → ∀ h, TY h w t rs rm nb → (∀ k, i ≤ k → k < j → lkS h (lkC nb t u) i k) → (∀ z j, i < z → z ≤ j → j ≤ rm t → lkS h (lkC nb t u) z j) → ∃ h', EX (d+3) m_Reckoner_worstOfLooks 35 [(0, .inr (.inr (33 + 2 * t))), (1, .inl (u)), (2, .inr (.inr (70))), (3, .inl (rm t)), (4, .inl (i)), (5, .inl (j))] [] (h) = EX (d+3) m_Reckoner_worstOfLooks 99 [(0, .inr (.inr (33 + 2 * t))), (1, .inl (u)), (2, .inr (.inr (70))), (3, .inl (rm t)), (4, .inl (i))] [] (h') ∧ (∀ z j, i ≤ z → z ≤ j → j ≤ rm t → lkS h' (lkC nb t u) z j) ∧ Fr p70 h h' := by
  refine up_ind (hi := rm t + 1) ?_ ?_
  · intro j hj h0 h1 h y ti tb
    refine ⟨h, ?_, fun z j' z0 z1 z2 => ?_, Fr.rf⟩
    · rw [Reckoner_worstOfLooks_35]
      simp (disch := omega) only [wr_id, ix_id, okx, if_pos, if_neg, Int.toNat_of_nonneg, bak_v, bak_n, wr_b01, wr_bt, b01_or, b01_0, b01_1, lc_lt0, lc_gt0, lc_eq0, wl_wr, wr_wr, wl_id, true_and, and_true, true_or, or_true, not_true_eq_false, not_false_eq_true, nc0, nc1, nc2, nc3, nc4, nc5, nc6, nc7, nc8, nc9, nc10, nc11, nc12, nc13, nc14, nc15, nc16, nc17, nc18, nc19, nc20, nc21, nc22, nc23, nc35, nc47, nc59, nc60, nc61, nc73, nc74, nc214, nc215, nc1115, nc2230, nc3345, if_true, if_false, Int.reduceToNat]
    · by_cases c : z = i
      · rw [c]; exact ti j' (by omega) (by omega)
      · exact tb z j' (by omega) z1 z2
  · intro j hj ih h0 h1 h y ti tb
    have lr := LK_rng hc hN.2 (i := i) (j := j) hi.1 (by omega)
    have hcr := y.1
    have f0 : Fr p70 h (pI h 70 (i * 21 + j).toNat (LK (lkC nb t u) i j)) := Fr.pI Fr.rf (by rfl)
    obtain ⟨h2, e2, k2, f2⟩ := ih (by omega) (by omega) _ (y.fr f0 p70.ge) (fun k z0 z1 => by
      unfold lkS
      rw [hI_pI]
      by_cases c : k = j
      · rw [c, if_pos ⟨rfl, rfl⟩]
      · rw [if_neg (by omega)]; exact ti k z0 (by omega)) (fun z j' z0 z1 z2 => by
      unfold lkS
      rw [hI_pI, if_neg (by omega)]
      exact tb z j' z0 z1 z2)
    refine ⟨h2, ?_, k2, f0.tr f2⟩
    have e1 := c_wl_1 (d := d) y hN.2 hc hu (i := i) (j := j) hi.1 (by omega) ti (fun z z0 z1 => tb z j z0 z1 (by omega)) i (by omega) (by omega) (-1) (by omega)
    rw [← LK_s (c := lkC nb t u) (i := i) (j := j) (by omega), show toF (-1) = 536870912 from rfl, show toF (LK (lkC nb t u) i j) = LK (lkC nb t u) i j by unfold toF; rw [if_neg (by omega)]] at e1
    rw [Reckoner_worstOfLooks_35]
    simp (disch := omega) only [Reckoner_worstOfLooks_41, wr_id, ix_id, okx, if_pos, if_neg, Int.toNat_of_nonneg, bak_v, bak_n, wr_b01, wr_bt, b01_or, b01_0, b01_1, lc_lt0, lc_gt0, lc_eq0, wl_wr, wr_wr, wl_id, true_and, and_true, true_or, or_true, not_true_eq_false, not_false_eq_true, nc0, nc1, nc2, nc3, nc4, nc5, nc6, nc7, nc8, nc9, nc10, nc11, nc12, nc13, nc14, nc15, nc16, nc17, nc18, nc19, nc20, nc21, nc22, nc23, nc35, nc47, nc59, nc60, nc61, nc73, nc74, nc214, nc215, nc1115, nc2230, nc3345, if_true, if_false, Int.reduceToNat]
    refine e1.trans ?_
    have hc := hcr
    simp (disch := omega) only [Reckoner_worstOfLooks_81, Reckoner_worstOfLooks_93, wr_id, ix_id, okx, if_pos, if_neg, Int.toNat_of_nonneg, bak_v, bak_n, wr_b01, wr_bt, b01_or, b01_0, b01_1, lc_lt0, lc_gt0, lc_eq0, wl_wr, wr_wr, wl_id, true_and, and_true, true_or, or_true, not_true_eq_false, not_false_eq_true, nc0, nc1, nc2, nc3, nc4, nc5, nc6, nc7, nc8, nc9, nc10, nc11, nc12, nc13, nc14, nc15, nc16, nc17, nc18, nc19, nc20, nc21, nc22, nc23, nc35, nc47, nc59, nc60, nc61, nc73, nc74, nc214, nc215, nc1115, nc2230, nc3345, if_true, if_false, Int.reduceToNat, hc.k6, hc.r5, hc.r6, hc.r0, hc.r2, hc.r7, hc.r8, hc.r9, hc.r10, hc.r11, hc.r12, hc.r13, hc.r14, hc.r15, hc.r16, hc.r17, hc.r18, hc.r8_0, hc.r8_1, hc.r11_0, hc.r11_1, hc.r60_0, hc.r60_1, hc.r60_4, hc.r64_0, hc.r64_3, hc.r64_4, hc.r68_0, hc.r41_0, hc.r41_1, hc.r42_0, hc.r42_1, hc.k7, hc.k8, hc.k9, hc.k11, hc.k12, hc.k13, hc.k32, hc.k41, hc.k42, hc.k43, hc.k60, hc.k61, hc.k62, hc.k63, hc.k64, hc.k65, hc.k66, hc.k67, hc.k68, hc.k69, hc.k70, hc.k71, hc.n6, hc.n7, hc.n8, hc.n9, hc.n11, hc.n12, hc.n13, hc.n32, hc.n41, hc.n42, hc.n43, hc.n60, hc.n61, hc.n62, hc.n63, hc.n64, hc.n65, hc.n66, hc.n67, hc.n68, hc.n69, hc.n70, hc.n71]
    exact e2
theorem c_wl_3 {d w t : Nat} {rs rm nb : Int → Int} {u : Int} (hN : 1 ≤ rm t ∧ rm t ≤ 20) (hc : ∀ k, 0 ≤ k → k < rm t → 0 ≤ lkC nb t u k ∧ lkC nb t u k ≤ 999) (hu : u = 0 ∨ u = 1) : ∀ i, -1 ≤ i → i ≤ rm t → ∀ h, TY h w t rs rm nb → (∀ z j, i < z → z ≤ j → j ≤ rm t → lkS h (lkC nb t u) z j) → ∃ h', EX (d+3) m_Reckoner_worstOfLooks 13 [(0, .inr (.inr (33 + 2 * t))), (1, .inl (u)), (2, .inr (.inr (70))), (3, .inl (rm t)), (4, .inl (i))] [] (h) = some (.inl (LK (lkC nb t u) 0 (rm t)), h') ∧ (∀ z j, 0 ≤ z → z ≤ j → j ≤ rm t → lkS h' (lkC nb t u) z j) ∧ Fr p70 h h' := by
  refine dn_ind (lo := 0) ?_ ?_
  · intro i hi h0 h1 h y tb
    have hcr := y.1
    have e := tb 0 (rm t) (by omega) (by omega) (by omega)
    unfold lkS at e
    rw [show 0 * 21 + rm t = rm t by omega] at e
    refine ⟨h, ?_, fun z j z0 z1 z2 => tb z j (by omega) z1 z2, Fr.rf⟩
    have hc := hcr
    rw [Reckoner_worstOfLooks_13]
    simp (disch := omega) only [Reckoner_worstOfLooks_105, Reckoner_worstOfLooks_109, Reckoner_worstOfLooks_116, wr_id, ix_id, okx, if_pos, if_neg, Int.toNat_of_nonneg, bak_v, bak_n, wr_b01, wr_bt, b01_or, b01_0, b01_1, lc_lt0, lc_gt0, lc_eq0, wl_wr, wr_wr, wl_id, true_and, and_true, true_or, or_true, not_true_eq_false, not_false_eq_true, nc0, nc1, nc2, nc3, nc4, nc5, nc6, nc7, nc8, nc9, nc10, nc11, nc12, nc13, nc14, nc15, nc16, nc17, nc18, nc19, nc20, nc21, nc22, nc23, nc35, nc47, nc59, nc60, nc61, nc73, nc74, nc214, nc215, nc1115, nc2230, nc3345, if_true, if_false, Int.reduceToNat, hc.k6, hc.r5, hc.r6, hc.r0, hc.r2, hc.r7, hc.r8, hc.r9, hc.r10, hc.r11, hc.r12, hc.r13, hc.r14, hc.r15, hc.r16, hc.r17, hc.r18, hc.r8_0, hc.r8_1, hc.r11_0, hc.r11_1, hc.r60_0, hc.r60_1, hc.r60_4, hc.r64_0, hc.r64_3, hc.r64_4, hc.r68_0, hc.r41_0, hc.r41_1, hc.r42_0, hc.r42_1, hc.k7, hc.k8, hc.k9, hc.k11, hc.k12, hc.k13, hc.k32, hc.k41, hc.k42, hc.k43, hc.k60, hc.k61, hc.k62, hc.k63, hc.k64, hc.k65, hc.k66, hc.k67, hc.k68, hc.k69, hc.k70, hc.k71, hc.n6, hc.n7, hc.n8, hc.n9, hc.n11, hc.n12, hc.n13, hc.n32, hc.n41, hc.n42, hc.n43, hc.n60, hc.n61, hc.n62, hc.n63, hc.n64, hc.n65, hc.n66, hc.n67, hc.n68, hc.n69, hc.n70, hc.n71, e]
  · intro i hi ih h0 h1 h y tb
    have hcr := y.1
    have f0 : Fr p70 h (pI h 70 (i * 21 + i).toNat 0) := Fr.pI Fr.rf (by rfl)
    obtain ⟨h1', e1, k1, f1⟩ := c_wl_2 (d := d) (w := w) (rs := rs) ⟨by omega, hN.2⟩ hc hu (i := i) (by omega) (i + 1) (by omega) (by omega) _ (y.fr f0 p70.ge) (fun k z0 z1 => by
      unfold lkS
      rw [hI_pI, show k = i by omega, if_pos ⟨rfl, rfl⟩, LK_0 (by omega)]) (fun z j z0 z1 z2 => by
      unfold lkS
      rw [hI_pI, if_neg (by omega)]
      exact tb z j z0 z1 z2)
    obtain ⟨h2, e2, k2, f2⟩ := ih (by omega) (by omega) h1' ((y.fr f0 p70.ge).fr f1 p70.ge) (fun z j z0 z1 z2 => k1 z j (by omega) z1 z2)
    refine ⟨h2, ?_, k2, (f0.tr f1).tr f2⟩
    have hc := hcr
    rw [Reckoner_worstOfLooks_13]
    simp (disch := omega) only [Reckoner_worstOfLooks_18, Reckoner_worstOfLooks_29, wr_id, ix_id, okx, if_pos, if_neg, Int.toNat_of_nonneg, bak_v, bak_n, wr_b01, wr_bt, b01_or, b01_0, b01_1, lc_lt0, lc_gt0, lc_eq0, wl_wr, wr_wr, wl_id, true_and, and_true, true_or, or_true, not_true_eq_false, not_false_eq_true, nc0, nc1, nc2, nc3, nc4, nc5, nc6, nc7, nc8, nc9, nc10, nc11, nc12, nc13, nc14, nc15, nc16, nc17, nc18, nc19, nc20, nc21, nc22, nc23, nc35, nc47, nc59, nc60, nc61, nc73, nc74, nc214, nc215, nc1115, nc2230, nc3345, if_true, if_false, Int.reduceToNat, hc.k6, hc.r5, hc.r6, hc.r0, hc.r2, hc.r7, hc.r8, hc.r9, hc.r10, hc.r11, hc.r12, hc.r13, hc.r14, hc.r15, hc.r16, hc.r17, hc.r18, hc.r8_0, hc.r8_1, hc.r11_0, hc.r11_1, hc.r60_0, hc.r60_1, hc.r60_4, hc.r64_0, hc.r64_3, hc.r64_4, hc.r68_0, hc.r41_0, hc.r41_1, hc.r42_0, hc.r42_1, hc.k7, hc.k8, hc.k9, hc.k11, hc.k12, hc.k13, hc.k32, hc.k41, hc.k42, hc.k43, hc.k60, hc.k61, hc.k62, hc.k63, hc.k64, hc.k65, hc.k66, hc.k67, hc.k68, hc.k69, hc.k70, hc.k71, hc.n6, hc.n7, hc.n8, hc.n9, hc.n11, hc.n12, hc.n13, hc.n32, hc.n41, hc.n42, hc.n43, hc.n60, hc.n61, hc.n62, hc.n63, hc.n64, hc.n65, hc.n66, hc.n67, hc.n68, hc.n69, hc.n70, hc.n71]
    refine e1.trans ?_
    rw [Reckoner_worstOfLooks_99, show i + -1 = i - 1 by omega]
    exact e2
theorem c_worstOfLooks {d w t : Nat} {h : Hp} {rs rm nb : Int → Int} (y : TY h w t rs rm nb) {u : Int} (hN : 1 ≤ rm t ∧ rm t ≤ 20) (hc : ∀ k, 0 ≤ k → k < rm t → 0 ≤ lkC nb t u k ∧ lkC nb t u k ≤ 999) (hu : u = 0 ∨ u = 1) : ∃ h', cal (d+4) m_Reckoner_worstOfLooks [.inr (.inr (33 + 2 * t)), .inl (u), .inr (.inr (70))] (h) = some (.inl (LK (lkC nb t u) 0 (rm t)), h') ∧ (∀ z j, 0 ≤ z → z ≤ j → j ≤ rm t → lkS h' (lkC nb t u) z j) ∧ Fr p70 h h' := by
  obtain ⟨q1, q2, q3, q4, q5, q6⟩ := y.cells
  obtain ⟨h', e, k, f⟩ := c_wl_3 (d := d) (w := w) (rs := rs) hN hc hu (rm t) (by omega) (by omega) h y (fun z j _ _ _ => by omega)
  refine ⟨h', ?_, k, f⟩
  show EX (d+3) m_Reckoner_worstOfLooks 0 [(0, .inr (.inr (33 + 2 * t))), (1, .inl (u)), (2, .inr (.inr (70)))] [] (h) = _
  simp (disch := omega) only [Reckoner_worstOfLooks_0, Reckoner_worstOfLooks_9, wr_id, ix_id, okx, if_pos, if_neg, Int.toNat_of_nonneg, bak_v, bak_n, wr_b01, wr_bt, b01_or, b01_0, b01_1, lc_lt0, lc_gt0, lc_eq0, wl_wr, wr_wr, wl_id, true_and, and_true, true_or, or_true, not_true_eq_false, not_false_eq_true, nc0, nc1, nc2, nc3, nc4, nc5, nc6, nc7, nc8, nc9, nc10, nc11, nc12, nc13, nc14, nc15, nc16, nc17, nc18, nc19, nc20, nc21, nc22, nc23, nc35, nc47, nc59, nc60, nc61, nc73, nc74, nc214, nc215, nc1115, nc2230, nc3345, if_true, if_false, Int.reduceToNat, q1, q5, min_s]
  exact e
theorem c_firstLook_l {d w t : Nat} {h : Hp} {rs rm nb : Int → Int} (y : TY h w t rs rm nb) (hN : 1 ≤ rm t ∧ rm t ≤ 20) (hc : ∀ k, 0 ≤ k → k < rm t → 0 ≤ lkC nb t 0 k ∧ lkC nb t 0 k ≤ 999) (tb : ∀ z j, 0 ≤ z → z ≤ j → j ≤ rm t → lkS h (lkC nb t 0) z j) : ∀ k, 0 ≤ k → k ≤ 20 → EX (d+3) m_Reckoner_firstLook 12 [(0, .inr (.inr (33 + 2 * t))), (1, .inr (.inr (70))), (2, .inl (rm t)), (3, .inl (k))] [] (h) = some (.inl (ff (lkQ (lkC nb t 0) (rm t)) k (rm t)), h) := by
  have hcr := y.1
  have lr := LK_rng hc hN.2 (i := 0) (j := rm t) (by omega) (by omega)
  have en := tb 0 (rm t) (by omega) (by omega) (by omega)
  unfold lkS at en
  rw [show 0 * 21 + rm t = rm t by omega] at en
  refine up_ind (hi := rm t) ?_ ?_
  · intro k hk h0 h1
    rw [Reckoner_firstLook_12, ff_stop hk]
    simp (disch := omega) only [Reckoner_firstLook_40, wr_id, ix_id, okx, if_pos, if_neg, Int.toNat_of_nonneg, bak_v, bak_n, wr_b01, wr_bt, b01_or, b01_0, b01_1, lc_lt0, lc_gt0, lc_eq0, wl_wr, wr_wr, wl_id, true_and, and_true, true_or, or_true, not_true_eq_false, not_false_eq_true, nc0, nc1, nc2, nc3, nc4, nc5, nc6, nc7, nc8, nc9, nc10, nc11, nc12, nc13, nc14, nc15, nc16, nc17, nc18, nc19, nc20, nc21, nc22, nc23, nc35, nc47, nc59, nc60, nc61, nc73, nc74, nc214, nc215, nc1115, nc2230, nc3345, if_true, if_false, Int.reduceToNat]
  · intro k hk ih h0 h1
    have pr := lkP_rng hc hN.2 (i := 0) (j := rm t) (k := k) (by omega) (by omega) ⟨h0, hk⟩
    have e := c_worstWith (d := d) y hN.2 hc (Or.inl rfl) (i := 0) (k := k) (j := rm t) (by omega) (by omega) (tb 0 k (by omega) h0 (by omega)) (tb (k + 1) (rm t) (by omega) (by omega) (by omega))
    rw [Reckoner_firstLook_12, ff_step hk]
    have hc := hcr
    by_cases c : lkP (lkC nb t 0) 0 (rm t) k = LK (lkC nb t 0) 0 (rm t)
    · have nn : lkQ (lkC nb t 0) (rm t) k = true := by simp [lkQ, c]
      rw [if_pos nn]
      simp (disch := omega) only [Reckoner_firstLook_17, Reckoner_firstLook_26, Reckoner_firstLook_32, wr_id, ix_id, okx, if_pos, if_neg, Int.toNat_of_nonneg, bak_v, bak_n, wr_b01, wr_bt, b01_or, b01_0, b01_1, lc_lt0, lc_gt0, lc_eq0, wl_wr, wr_wr, wl_id, true_and, and_true, true_or, or_true, not_true_eq_false, not_false_eq_true, nc0, nc1, nc2, nc3, nc4, nc5, nc6, nc7, nc8, nc9, nc10, nc11, nc12, nc13, nc14, nc15, nc16, nc17, nc18, nc19, nc20, nc21, nc22, nc23, nc35, nc47, nc59, nc60, nc61, nc73, nc74, nc214, nc215, nc1115, nc2230, nc3345, if_true, if_false, Int.reduceToNat, hc.k6, hc.r5, hc.r6, hc.r0, hc.r2, hc.r7, hc.r8, hc.r9, hc.r10, hc.r11, hc.r12, hc.r13, hc.r14, hc.r15, hc.r16, hc.r17, hc.r18, hc.r8_0, hc.r8_1, hc.r11_0, hc.r11_1, hc.r60_0, hc.r60_1, hc.r60_4, hc.r64_0, hc.r64_3, hc.r64_4, hc.r68_0, hc.r41_0, hc.r41_1, hc.r42_0, hc.r42_1, hc.k7, hc.k8, hc.k9, hc.k11, hc.k12, hc.k13, hc.k32, hc.k41, hc.k42, hc.k43, hc.k60, hc.k61, hc.k62, hc.k63, hc.k64, hc.k65, hc.k66, hc.k67, hc.k68, hc.k69, hc.k70, hc.k71, hc.n6, hc.n7, hc.n8, hc.n9, hc.n11, hc.n12, hc.n13, hc.n32, hc.n41, hc.n42, hc.n43, hc.n60, hc.n61, hc.n62, hc.n63, hc.n64, hc.n65, hc.n66, hc.n67, hc.n68, hc.n69, hc.n70, hc.n71, e, en]
    · have nn : ¬ lkQ (lkC nb t 0) (rm t) k = true := by simp [lkQ, c]
      rw [if_neg nn]
      simp (disch := omega) only [Reckoner_firstLook_17, Reckoner_firstLook_26, Reckoner_firstLook_34, wr_id, ix_id, okx, if_pos, if_neg, Int.toNat_of_nonneg, bak_v, bak_n, wr_b01, wr_bt, b01_or, b01_0, b01_1, lc_lt0, lc_gt0, lc_eq0, wl_wr, wr_wr, wl_id, true_and, and_true, true_or, or_true, not_true_eq_false, not_false_eq_true, nc0, nc1, nc2, nc3, nc4, nc5, nc6, nc7, nc8, nc9, nc10, nc11, nc12, nc13, nc14, nc15, nc16, nc17, nc18, nc19, nc20, nc21, nc22, nc23, nc35, nc47, nc59, nc60, nc61, nc73, nc74, nc214, nc215, nc1115, nc2230, nc3345, if_true, if_false, Int.reduceToNat, hc.k6, hc.r5, hc.r6, hc.r0, hc.r2, hc.r7, hc.r8, hc.r9, hc.r10, hc.r11, hc.r12, hc.r13, hc.r14, hc.r15, hc.r16, hc.r17, hc.r18, hc.r8_0, hc.r8_1, hc.r11_0, hc.r11_1, hc.r60_0, hc.r60_1, hc.r60_4, hc.r64_0, hc.r64_3, hc.r64_4, hc.r68_0, hc.r41_0, hc.r41_1, hc.r42_0, hc.r42_1, hc.k7, hc.k8, hc.k9, hc.k11, hc.k12, hc.k13, hc.k32, hc.k41, hc.k42, hc.k43, hc.k60, hc.k61, hc.k62, hc.k63, hc.k64, hc.k65, hc.k66, hc.k67, hc.k68, hc.k69, hc.k70, hc.k71, hc.n6, hc.n7, hc.n8, hc.n9, hc.n11, hc.n12, hc.n13, hc.n32, hc.n41, hc.n42, hc.n43, hc.n60, hc.n61, hc.n62, hc.n63, hc.n64, hc.n65, hc.n66, hc.n67, hc.n68, hc.n69, hc.n70, hc.n71, e, en]
      exact ih (by omega) (by omega)
theorem c_firstLook {d w t : Nat} {h : Hp} {rs rm nb : Int → Int} (y : TY h w t rs rm nb) (hN : 1 ≤ rm t ∧ rm t ≤ 20) (hc : ∀ k, 0 ≤ k → k < rm t → 0 ≤ lkC nb t 0 k ∧ lkC nb t 0 k ≤ 999) (tb : ∀ z j, 0 ≤ z → z ≤ j → j ≤ rm t → lkS h (lkC nb t 0) z j) : cal (d+4) m_Reckoner_firstLook [.inr (.inr (33 + 2 * t)), .inr (.inr (70))] (h) = some (.inl (ff (lkQ (lkC nb t 0) (rm t)) 0 (rm t)), h) := by
  obtain ⟨q1, q2, q3, q4, q5, q6⟩ := y.cells
  have e := c_firstLook_l (d := d) y hN hc tb 0 (by omega) (by omega)
  show EX (d+3) m_Reckoner_firstLook 0 [(0, .inr (.inr (33 + 2 * t))), (1, .inr (.inr (70)))] [] (h) = _
  simp (disch := omega) only [Reckoner_firstLook_0, Reckoner_firstLook_9, wr_id, ix_id, okx, if_pos, if_neg, Int.toNat_of_nonneg, bak_v, bak_n, wr_b01, wr_bt, b01_or, b01_0, b01_1, lc_lt0, lc_gt0, lc_eq0, wl_wr, wr_wr, wl_id, true_and, and_true, true_or, or_true, not_true_eq_false, not_false_eq_true, nc0, nc1, nc2, nc3, nc4, nc5, nc6, nc7, nc8, nc9, nc10, nc11, nc12, nc13, nc14, nc15, nc16, nc17, nc18, nc19, nc20, nc21, nc22, nc23, nc35, nc47, nc59, nc60, nc61, nc73, nc74, nc214, nc215, nc1115, nc2230, nc3345, if_true, if_false, Int.reduceToNat, q1, q5, min_s]
  exact e
