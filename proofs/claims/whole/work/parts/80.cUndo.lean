/-! undoing: the class -/
theorem c_un_2 {d w : Nat} {h : Hp} {S : Int → Int} (gd : Gd S) (me : ME h w S) {set : Int} (rs : -2147483648 ≤ set ∧ set ≤ 2147483647) (ok : ff (unB S set) 0 32 = -1) {dir : Int} (hd : dir = 0 ∨ dir = 1) : ∀ (m : Nat) (i c t : Int), i + m = S 1 → 0 ≤ i → (0 ≤ c ∧ c ≤ 11) → (0 ≤ t ∧ t ≤ 220 * i) → EX (d+2) m_Hanging_secondsToUnhook 12 [(0, .inr (.inr (26))), (1, .inr (.inr (w))), (2, .inl (set)), (3, .inl (dir)), (4, .inl (c)), (5, .inl (t)), (6, .inl (i))] [] (h) = some (.inl (unU S set dir m i c t), h) := by
  have ga := gd.a
  have gb := gd.b
  have hc := me.1
  have wv := me.2.1
  have hw := wv.1
  have hv := me.2.2.2
  have ha := hv.1
  intro m
  induction m with
  | zero =>
    intro i c t hi h0 hcc ht
    rw [Hanging_secondsToUnhook_12]
    simp (disch := omega) only [Hanging_secondsToUnhook_98, wr_id, ix_id, okx, if_pos, if_neg, Int.toNat_of_nonneg, bak_v, bak_n, wr_b01, wr_bt, b01_or, b01_0, b01_1, lc_lt0, lc_gt0, lc_eq0, wl_wr, wr_wr, wl_id, true_and, and_true, true_or, or_true, not_true_eq_false, not_false_eq_true, nc0, nc1, nc2, nc3, nc4, nc5, nc6, nc7, nc8, nc9, nc10, nc11, nc12, nc13, nc14, nc15, nc16, nc17, nc18, nc19, nc20, nc21, nc22, nc23, nc35, nc47, nc59, nc60, nc61, nc73, nc74, nc214, nc215, nc1115, nc2230, nc3345, if_true, if_false, Int.reduceToNat, hw.k, hw.r0, hw.r1, hw.r2, hw.r3, hw.r4, hw.k1, hw.k2, hw.k3, hw.k4, hw.k5, hw.n1, hw.n2, hw.n3, hw.n4, hw.n5, wv.f5, wv.f6, wv.f7, wv.f8, wv.f9, wv.f10, wv.f11, wv.f12, wv.f13, wv.f14, wv.pk, wv.qk, wv.hk, wv.rk, unU]
  | succ m ih =>
    intro i c t hi h0 hcc ht
    have ho : 0 ≤ orU S dir i ∧ orU S dir i < S 1 := by unfold orU; split <;> omega
    have e39 : EX (d+2) m_Hanging_secondsToUnhook 12 [(0, .inr (.inr (26))), (1, .inr (.inr (w))), (2, .inl (set)), (3, .inl (dir)), (4, .inl (c)), (5, .inl (t)), (6, .inl (i))] [] (h) = EX (d+2) m_Hanging_secondsToUnhook 39 [(0, .inr (.inr (26))), (1, .inr (.inr (w))), (2, .inl (set)), (3, .inl (dir)), (4, .inl (c)), (5, .inl (t)), (6, .inl (i))] [.inl (orU S dir i)] (h) := by
      rw [Hanging_secondsToUnhook_12]
      unfold orU
      rcases hd with e | e <;> subst e
      · rw [if_pos (show (0 : Int) = 0 from rfl)]
        simp (disch := omega) only [Hanging_secondsToUnhook_21, Hanging_secondsToUnhook_37, wr_id, ix_id, okx, if_pos, if_neg, Int.toNat_of_nonneg, bak_v, bak_n, wr_b01, wr_bt, b01_or, b01_0, b01_1, lc_lt0, lc_gt0, lc_eq0, wl_wr, wr_wr, wl_id, true_and, and_true, true_or, or_true, not_true_eq_false, not_false_eq_true, nc0, nc1, nc2, nc3, nc4, nc5, nc6, nc7, nc8, nc9, nc10, nc11, nc12, nc13, nc14, nc15, nc16, nc17, nc18, nc19, nc20, nc21, nc22, nc23, nc35, nc47, nc59, nc60, nc61, nc73, nc74, nc214, nc215, nc1115, nc2230, nc3345, if_true, if_false, Int.reduceToNat, hw.k, hw.r0, hw.r1, hw.r2, hw.r3, hw.r4, hw.k1, hw.k2, hw.k3, hw.k4, hw.k5, hw.n1, hw.n2, hw.n3, hw.n4, hw.n5, wv.f5, wv.f6, wv.f7, wv.f8, wv.f9, wv.f10, wv.f11, wv.f12, wv.f13, wv.f14, wv.pk, wv.qk, wv.hk, wv.rk]
      · rw [if_neg (show ¬ (1 : Int) = 0 by omega)]
        simp (disch := omega) only [Hanging_secondsToUnhook_21, Hanging_secondsToUnhook_25, wr_id, ix_id, okx, if_pos, if_neg, Int.toNat_of_nonneg, bak_v, bak_n, wr_b01, wr_bt, b01_or, b01_0, b01_1, lc_lt0, lc_gt0, lc_eq0, wl_wr, wr_wr, wl_id, true_and, and_true, true_or, or_true, not_true_eq_false, not_false_eq_true, nc0, nc1, nc2, nc3, nc4, nc5, nc6, nc7, nc8, nc9, nc10, nc11, nc12, nc13, nc14, nc15, nc16, nc17, nc18, nc19, nc20, nc21, nc22, nc23, nc35, nc47, nc59, nc60, nc61, nc73, nc74, nc214, nc215, nc1115, nc2230, nc3345, if_true, if_false, Int.reduceToNat, hw.k, hw.r0, hw.r1, hw.r2, hw.r3, hw.r4, hw.k1, hw.k2, hw.k3, hw.k4, hw.k5, hw.n1, hw.n2, hw.n3, hw.n4, hw.n5, wv.f5, wv.f6, wv.f7, wv.f8, wv.f9, wv.f10, wv.f11, wv.f12, wv.f13, wv.f14, wv.pk, wv.qk, wv.hk, wv.rk]
    refine e39.trans ?_
    simp only [unU]
    by_cases q : bt set (orU S dir i) = 0
    · rw [if_pos q]
      simp (disch := omega) only [Hanging_secondsToUnhook_39, Hanging_secondsToUnhook_92, wr_id, ix_id, okx, if_pos, if_neg, Int.toNat_of_nonneg, bak_v, bak_n, wr_b01, wr_bt, b01_or, b01_0, b01_1, lc_lt0, lc_gt0, lc_eq0, wl_wr, wr_wr, wl_id, true_and, and_true, true_or, or_true, not_true_eq_false, not_false_eq_true, nc0, nc1, nc2, nc3, nc4, nc5, nc6, nc7, nc8, nc9, nc10, nc11, nc12, nc13, nc14, nc15, nc16, nc17, nc18, nc19, nc20, nc21, nc22, nc23, nc35, nc47, nc59, nc60, nc61, nc73, nc74, nc214, nc215, nc1115, nc2230, nc3345, if_true, if_false, Int.reduceToNat, bt_s, q]
      exact ih (i + 1) c t (by omega) (by omega) hcc (by omega)
    · rw [if_neg q]
      have b1 := bt_01 set (orU S dir i)
      have rr := un_ok gd ok ho q
      have cr := chF_rng gd.1 (c := c) (r := S (61 + orU S dir i)) hcc.1 (by omega)
      have sr := scA_rng gd.1 (c := c) (r := S (61 + orU S dir i)) (by omega) (by omega)
      have er := hv.2.2.2 (orU S dir i).toNat (by omega)
      rw [show ((orU S dir i).toNat : Int) = orU S dir i by omega] at er
      simp (disch := omega) only [Hanging_secondsToUnhook_39, Hanging_secondsToUnhook_50, Hanging_secondsToUnhook_56, Hanging_secondsToUnhook_59, Hanging_secondsToUnhook_74, Hanging_secondsToUnhook_90, Hanging_secondsToUnhook_92, wr_id, ix_id, okx, if_pos, if_neg, Int.toNat_of_nonneg, bak_v, bak_n, wr_b01, wr_bt, b01_or, b01_0, b01_1, lc_lt0, lc_gt0, lc_eq0, wl_wr, wr_wr, wl_id, true_and, and_true, true_or, or_true, not_true_eq_false, not_false_eq_true, nc0, nc1, nc2, nc3, nc4, nc5, nc6, nc7, nc8, nc9, nc10, nc11, nc12, nc13, nc14, nc15, nc16, nc17, nc18, nc19, nc20, nc21, nc22, nc23, nc35, nc47, nc59, nc60, nc61, nc73, nc74, nc214, nc215, nc1115, nc2230, nc3345, if_true, if_false, Int.reduceToNat, hw.k, hw.r0, hw.r1, hw.r2, hw.r3, hw.r4, hw.k1, hw.k2, hw.k3, hw.k4, hw.k5, hw.n1, hw.n2, hw.n3, hw.n4, hw.n5, wv.f5, wv.f6, wv.f7, wv.f8, wv.f9, wv.f10, wv.f11, wv.f12, wv.f13, wv.f14, wv.pk, wv.qk, wv.hk, wv.rk, ha.k, ha.r, ha.k1, ha.n1, bt_s, c_isJoined' hv gd, er, c_secondsAt wv gd.1, c_chairFor wv gd.1]
      exact ih (i + 1) _ _ (by omega) (by omega) (by omega) (by omega)
theorem c_secondsToUnhook {d w : Nat} {h : Hp} {S : Int → Int} (gd : Gd S) (me : ME h w S) {set : Int} (rs : -2147483648 ≤ set ∧ set ≤ 2147483647) (ok : ff (unB S set) 0 32 = -1) {dir : Int} (hd : dir = 0 ∨ dir = 1) : cal (d+3) m_Hanging_secondsToUnhook [.inr (.inr (26)), .inr (.inr (w)), .inl (set), .inl (dir)] (h) = some (.inl (tmU S set dir), h) := by
  have ga := gd.a
  have g59 := gd.2.1
  have hv := me.2.2.2
  have ha := hv.1
  have e := c_un_2 (d := d) gd me rs ok hd (S 1).toNat 0 (S 59) 0 (by omega) (by omega) (by omega) (by omega)
  show EX (d+2) m_Hanging_secondsToUnhook 0 [(0, .inr (.inr (26))), (1, .inr (.inr (w))), (2, .inl (set)), (3, .inl (dir))] [] (h) = _
  simp (disch := omega) only [Hanging_secondsToUnhook_0, wr_id, ix_id, okx, if_pos, if_neg, Int.toNat_of_nonneg, bak_v, bak_n, wr_b01, wr_bt, b01_or, b01_0, b01_1, lc_lt0, lc_gt0, lc_eq0, wl_wr, wr_wr, wl_id, true_and, and_true, true_or, or_true, not_true_eq_false, not_false_eq_true, nc0, nc1, nc2, nc3, nc4, nc5, nc6, nc7, nc8, nc9, nc10, nc11, nc12, nc13, nc14, nc15, nc16, nc17, nc18, nc19, nc20, nc21, nc22, nc23, nc35, nc47, nc59, nc60, nc61, nc73, nc74, nc214, nc215, nc1115, nc2230, nc3345, if_true, if_false, Int.reduceToNat, ha.k, ha.r, ha.k1, ha.n1, hv.f1]
  exact e
theorem c_un_1 {d w : Nat} {h : Hp} {S : Int → Int} (gd : Gd S) (me : ME h w S) {set : Int} (rs : -2147483648 ≤ set ∧ set ≤ 2147483647) : ∀ k, 0 ≤ k → k ≤ 32 → EX (d+1) m_Hook_undoing 2 [(0, .inr (.inr (6))), (1, .inl (set)), (2, .inl (k))] [] (h) = if ff (unB S set) k 32 = -1 then EX (d+1) m_Hook_undoing 57 [(0, .inr (.inr (6))), (1, .inl (set))] [] (h) else some (.inl (-3), h) := by
  have ga := gd.a
  have gb := gd.b
  have hc := me.1
  have wv := me.2.1
  have hw := wv.1
  have hv := me.2.2.2
  have ha := hv.1
  refine up_ind (hi := 32) ?_ ?_
  · intro k hk h0 h1
    rw [Hook_undoing_2, ff_stop hk]
    simp (disch := omega) only [wr_id, ix_id, okx, if_pos, if_neg, Int.toNat_of_nonneg, bak_v, bak_n, wr_b01, wr_bt, b01_or, b01_0, b01_1, lc_lt0, lc_gt0, lc_eq0, wl_wr, wr_wr, wl_id, true_and, and_true, true_or, or_true, not_true_eq_false, not_false_eq_true, nc0, nc1, nc2, nc3, nc4, nc5, nc6, nc7, nc8, nc9, nc10, nc11, nc12, nc13, nc14, nc15, nc16, nc17, nc18, nc19, nc20, nc21, nc22, nc23, nc35, nc47, nc59, nc60, nc61, nc73, nc74, nc214, nc215, nc1115, nc2230, nc3345, if_true, if_false, Int.reduceToNat]
  · intro k hk ih h0 h1
    have b1 := bt_01 set k
    have eh := c_isHook (d := d) wv ga (x := k) (by omega)
    rw [Hook_undoing_2, ff_step hk]
    by_cases c : bt set k = 0
    · have nb : ¬ unB S set k = true := by simp [unB, c]
      rw [if_neg nb]
      simp (disch := omega) only [Hook_undoing_8, Hook_undoing_20, Hook_undoing_21, Hook_undoing_51, wr_id, ix_id, okx, if_pos, if_neg, Int.toNat_of_nonneg, bak_v, bak_n, wr_b01, wr_bt, b01_or, b01_0, b01_1, lc_lt0, lc_gt0, lc_eq0, wl_wr, wr_wr, wl_id, true_and, and_true, true_or, or_true, not_true_eq_false, not_false_eq_true, nc0, nc1, nc2, nc3, nc4, nc5, nc6, nc7, nc8, nc9, nc10, nc11, nc12, nc13, nc14, nc15, nc16, nc17, nc18, nc19, nc20, nc21, nc22, nc23, nc35, nc47, nc59, nc60, nc61, nc73, nc74, nc214, nc215, nc1115, nc2230, nc3345, if_true, if_false, Int.reduceToNat, hc.k6, hc.r5, hc.r6, hc.r0, hc.r2, hc.r7, hc.r8, hc.r9, hc.r10, hc.r11, hc.r12, hc.r13, hc.r14, hc.r15, hc.r16, hc.r17, hc.r18, hc.r8_0, hc.r8_1, hc.r11_0, hc.r11_1, hc.r60_0, hc.r60_1, hc.r60_4, hc.r64_0, hc.r64_3, hc.r64_4, hc.r68_0, hc.r41_0, hc.r41_1, hc.r42_0, hc.r42_1, hc.k7, hc.k8, hc.k9, hc.k11, hc.k12, hc.k13, hc.k32, hc.k41, hc.k42, hc.k43, hc.k60, hc.k61, hc.k62, hc.k63, hc.k64, hc.k65, hc.k66, hc.k67, hc.k68, hc.k69, hc.k70, hc.k71, hc.n6, hc.n7, hc.n8, hc.n9, hc.n11, hc.n12, hc.n13, hc.n32, hc.n41, hc.n42, hc.n43, hc.n60, hc.n61, hc.n62, hc.n63, hc.n64, hc.n65, hc.n66, hc.n67, hc.n68, hc.n69, hc.n70, hc.n71, bt_s, c]
      exact ih (by omega) (by omega)
    · have c1 : bt set k = 1 := by omega
      by_cases c2 : 0 ≤ k ∧ k < S 1
      · have gr := gd.rg (i := k) h0 (by omega)
        by_cases c3 : S (61 + k) = -1
        · have nb : unB S set k = true := by simp [unB, c1, c3]
          rw [if_pos nb, if_neg (show ¬ k = -1 by omega)]
          simp (disch := omega) only [Hook_undoing_8, Hook_undoing_16, Hook_undoing_21, Hook_undoing_26, Hook_undoing_34, Hook_undoing_37, Hook_undoing_45, Hook_undoing_48, wr_id, ix_id, okx, if_pos, if_neg, Int.toNat_of_nonneg, bak_v, bak_n, wr_b01, wr_bt, b01_or, b01_0, b01_1, lc_lt0, lc_gt0, lc_eq0, wl_wr, wr_wr, wl_id, true_and, and_true, true_or, or_true, not_true_eq_false, not_false_eq_true, nc0, nc1, nc2, nc3, nc4, nc5, nc6, nc7, nc8, nc9, nc10, nc11, nc12, nc13, nc14, nc15, nc16, nc17, nc18, nc19, nc20, nc21, nc22, nc23, nc35, nc47, nc59, nc60, nc61, nc73, nc74, nc214, nc215, nc1115, nc2230, nc3345, if_true, if_false, Int.reduceToNat, hc.k6, hc.r5, hc.r6, hc.r0, hc.r2, hc.r7, hc.r8, hc.r9, hc.r10, hc.r11, hc.r12, hc.r13, hc.r14, hc.r15, hc.r16, hc.r17, hc.r18, hc.r8_0, hc.r8_1, hc.r11_0, hc.r11_1, hc.r60_0, hc.r60_1, hc.r60_4, hc.r64_0, hc.r64_3, hc.r64_4, hc.r68_0, hc.r41_0, hc.r41_1, hc.r42_0, hc.r42_1, hc.k7, hc.k8, hc.k9, hc.k11, hc.k12, hc.k13, hc.k32, hc.k41, hc.k42, hc.k43, hc.k60, hc.k61, hc.k62, hc.k63, hc.k64, hc.k65, hc.k66, hc.k67, hc.k68, hc.k69, hc.k70, hc.k71, hc.n6, hc.n7, hc.n8, hc.n9, hc.n11, hc.n12, hc.n13, hc.n32, hc.n41, hc.n42, hc.n43, hc.n60, hc.n61, hc.n62, hc.n63, hc.n64, hc.n65, hc.n66, hc.n67, hc.n68, hc.n69, hc.n70, hc.n71, hw.k, hw.r0, hw.r1, hw.r2, hw.r3, hw.r4, hw.k1, hw.k2, hw.k3, hw.k4, hw.k5, hw.n1, hw.n2, hw.n3, hw.n4, hw.n5, ha.k, ha.r, ha.k1, ha.n1, bt_s, c1, eh, c_isJoined' hv gd, c3]
        · have nb : ¬ unB S set k = true := by simp [unB, c3, c2]
          rw [if_neg nb]
          simp (disch := omega) only [Hook_undoing_8, Hook_undoing_16, Hook_undoing_21, Hook_undoing_26, Hook_undoing_34, Hook_undoing_37, Hook_undoing_45, Hook_undoing_51, wr_id, ix_id, okx, if_pos, if_neg, Int.toNat_of_nonneg, bak_v, bak_n, wr_b01, wr_bt, b01_or, b01_0, b01_1, lc_lt0, lc_gt0, lc_eq0, wl_wr, wr_wr, wl_id, true_and, and_true, true_or, or_true, not_true_eq_false, not_false_eq_true, nc0, nc1, nc2, nc3, nc4, nc5, nc6, nc7, nc8, nc9, nc10, nc11, nc12, nc13, nc14, nc15, nc16, nc17, nc18, nc19, nc20, nc21, nc22, nc23, nc35, nc47, nc59, nc60, nc61, nc73, nc74, nc214, nc215, nc1115, nc2230, nc3345, if_true, if_false, Int.reduceToNat, hc.k6, hc.r5, hc.r6, hc.r0, hc.r2, hc.r7, hc.r8, hc.r9, hc.r10, hc.r11, hc.r12, hc.r13, hc.r14, hc.r15, hc.r16, hc.r17, hc.r18, hc.r8_0, hc.r8_1, hc.r11_0, hc.r11_1, hc.r60_0, hc.r60_1, hc.r60_4, hc.r64_0, hc.r64_3, hc.r64_4, hc.r68_0, hc.r41_0, hc.r41_1, hc.r42_0, hc.r42_1, hc.k7, hc.k8, hc.k9, hc.k11, hc.k12, hc.k13, hc.k32, hc.k41, hc.k42, hc.k43, hc.k60, hc.k61, hc.k62, hc.k63, hc.k64, hc.k65, hc.k66, hc.k67, hc.k68, hc.k69, hc.k70, hc.k71, hc.n6, hc.n7, hc.n8, hc.n9, hc.n11, hc.n12, hc.n13, hc.n32, hc.n41, hc.n42, hc.n43, hc.n60, hc.n61, hc.n62, hc.n63, hc.n64, hc.n65, hc.n66, hc.n67, hc.n68, hc.n69, hc.n70, hc.n71, hw.k, hw.r0, hw.r1, hw.r2, hw.r3, hw.r4, hw.k1, hw.k2, hw.k3, hw.k4, hw.k5, hw.n1, hw.n2, hw.n3, hw.n4, hw.n5, ha.k, ha.r, ha.k1, ha.n1, bt_s, c1, eh, c_isJoined' hv gd]
          exact ih (by omega) (by omega)
      · have nb : unB S set k = true := by
          unfold unB
          simp only [decide_eq_true_eq]
          exact ⟨c1, fun q => c2 q.1⟩
        rw [if_pos nb, if_neg (show ¬ k = -1 by omega)]
        simp (disch := omega) only [Hook_undoing_8, Hook_undoing_16, Hook_undoing_21, Hook_undoing_26, Hook_undoing_34, Hook_undoing_48, wr_id, ix_id, okx, if_pos, if_neg, Int.toNat_of_nonneg, bak_v, bak_n, wr_b01, wr_bt, b01_or, b01_0, b01_1, lc_lt0, lc_gt0, lc_eq0, wl_wr, wr_wr, wl_id, true_and, and_true, true_or, or_true, not_true_eq_false, not_false_eq_true, nc0, nc1, nc2, nc3, nc4, nc5, nc6, nc7, nc8, nc9, nc10, nc11, nc12, nc13, nc14, nc15, nc16, nc17, nc18, nc19, nc20, nc21, nc22, nc23, nc35, nc47, nc59, nc60, nc61, nc73, nc74, nc214, nc215, nc1115, nc2230, nc3345, if_true, if_false, Int.reduceToNat, hc.k6, hc.r5, hc.r6, hc.r0, hc.r2, hc.r7, hc.r8, hc.r9, hc.r10, hc.r11, hc.r12, hc.r13, hc.r14, hc.r15, hc.r16, hc.r17, hc.r18, hc.r8_0, hc.r8_1, hc.r11_0, hc.r11_1, hc.r60_0, hc.r60_1, hc.r60_4, hc.r64_0, hc.r64_3, hc.r64_4, hc.r68_0, hc.r41_0, hc.r41_1, hc.r42_0, hc.r42_1, hc.k7, hc.k8, hc.k9, hc.k11, hc.k12, hc.k13, hc.k32, hc.k41, hc.k42, hc.k43, hc.k60, hc.k61, hc.k62, hc.k63, hc.k64, hc.k65, hc.k66, hc.k67, hc.k68, hc.k69, hc.k70, hc.k71, hc.n6, hc.n7, hc.n8, hc.n9, hc.n11, hc.n12, hc.n13, hc.n32, hc.n41, hc.n42, hc.n43, hc.n60, hc.n61, hc.n62, hc.n63, hc.n64, hc.n65, hc.n66, hc.n67, hc.n68, hc.n69, hc.n70, hc.n71, hw.k, hw.r0, hw.r1, hw.r2, hw.r3, hw.r4, hw.k1, hw.k2, hw.k3, hw.k4, hw.k5, hw.n1, hw.n2, hw.n3, hw.n4, hw.n5, ha.k, ha.r, ha.k1, ha.n1, bt_s, c1, eh]
theorem cc_undoing {d w : Nat} {h : Hp} {S : Int → Int} (gd : Gd S) (me : ME h w S) {set : Int} (rs : -2147483648 ≤ set ∧ set ≤ 2147483647) : cal (d+4) m_Hook_undoing [.inr (.inr (6)), .inl (set)] (h) = some (.inl (ansUnd S set), h) := by
  have ga := gd.a
  have g59 := gd.2.1
  have hc := me.1
  have wv := me.2.1
  have hw := wv.1
  have hv := me.2.2.2
  have ha := hv.1
  have e1 := c_un_1 (d := d + 2) gd me rs 0 (by omega) (by omega)
  have st : cal (d+4) m_Hook_undoing [.inr (.inr (6)), .inl (set)] (h) = EX (d+3) m_Hook_undoing 2 [(0, .inr (.inr (6))), (1, .inl (set)), (2, .inl (0))] [] (h) := by
    show EX (d+3) m_Hook_undoing 0 [(0, .inr (.inr (6))), (1, .inl (set))] [] (h) = _
    simp (disch := omega) only [Hook_undoing_0, wr_id, ix_id, okx, if_pos, if_neg, Int.toNat_of_nonneg, bak_v, bak_n, wr_b01, wr_bt, b01_or, b01_0, b01_1, lc_lt0, lc_gt0, lc_eq0, wl_wr, wr_wr, wl_id, true_and, and_true, true_or, or_true, not_true_eq_false, not_false_eq_true, nc0, nc1, nc2, nc3, nc4, nc5, nc6, nc7, nc8, nc9, nc10, nc11, nc12, nc13, nc14, nc15, nc16, nc17, nc18, nc19, nc20, nc21, nc22, nc23, nc35, nc47, nc59, nc60, nc61, nc73, nc74, nc214, nc215, nc1115, nc2230, nc3345, if_true, if_false, Int.reduceToNat]
  refine st.trans (e1.trans ?_)
  unfold ansUnd
  by_cases ok : ff (unB S set) 0 32 = -1
  · rw [if_pos ok, if_neg (fun q => q ok)]
    have t0 := unU_rng gd set ok (dir := 0) (S 1).toNat 0 (S 59) 0 (by omega) (by omega) (by omega) (by omega)
    have t1 := unU_rng gd set ok (dir := 1) (S 1).toNat 0 (S 59) 0 (by omega) (by omega) (by omega) (by omega)
    have t0' : 0 ≤ tmU S set 0 ∧ tmU S set 0 ≤ 220 * S 1 := t0
    have t1' : 0 ≤ tmU S set 1 ∧ tmU S set 1 ≤ 220 * S 1 := t1
    have s0 := c_secondsToUnhook (d := d) gd me rs ok (dir := 0) (Or.inl rfl)
    have s1 := c_secondsToUnhook (d := d) gd me rs ok (dir := 1) (Or.inr rfl)
    simp (disch := omega) only [Hook_undoing_57, Hook_undoing_70, Hook_undoing_83, Hook_undoing_86, wr_id, ix_id, okx, if_pos, if_neg, Int.toNat_of_nonneg, bak_v, bak_n, wr_b01, wr_bt, b01_or, b01_0, b01_1, lc_lt0, lc_gt0, lc_eq0, wl_wr, wr_wr, wl_id, true_and, and_true, true_or, or_true, not_true_eq_false, not_false_eq_true, nc0, nc1, nc2, nc3, nc4, nc5, nc6, nc7, nc8, nc9, nc10, nc11, nc12, nc13, nc14, nc15, nc16, nc17, nc18, nc19, nc20, nc21, nc22, nc23, nc35, nc47, nc59, nc60, nc61, nc73, nc74, nc214, nc215, nc1115, nc2230, nc3345, if_true, if_false, Int.reduceToNat, hc.k6, hc.r5, hc.r6, hc.r0, hc.r2, hc.r7, hc.r8, hc.r9, hc.r10, hc.r11, hc.r12, hc.r13, hc.r14, hc.r15, hc.r16, hc.r17, hc.r18, hc.r8_0, hc.r8_1, hc.r11_0, hc.r11_1, hc.r60_0, hc.r60_1, hc.r60_4, hc.r64_0, hc.r64_3, hc.r64_4, hc.r68_0, hc.r41_0, hc.r41_1, hc.r42_0, hc.r42_1, hc.k7, hc.k8, hc.k9, hc.k11, hc.k12, hc.k13, hc.k32, hc.k41, hc.k42, hc.k43, hc.k60, hc.k61, hc.k62, hc.k63, hc.k64, hc.k65, hc.k66, hc.k67, hc.k68, hc.k69, hc.k70, hc.k71, hc.n6, hc.n7, hc.n8, hc.n9, hc.n11, hc.n12, hc.n13, hc.n32, hc.n41, hc.n42, hc.n43, hc.n60, hc.n61, hc.n62, hc.n63, hc.n64, hc.n65, hc.n66, hc.n67, hc.n68, hc.n69, hc.n70, hc.n71, hw.k, hw.r0, hw.r1, hw.r2, hw.r3, hw.r4, hw.k1, hw.k2, hw.k3, hw.k4, hw.k5, hw.n1, hw.n2, hw.n3, hw.n4, hw.n5, ha.k, ha.r, ha.k1, ha.n1, s0, s1, min_s]
  · rw [if_neg ok, if_pos ok]
