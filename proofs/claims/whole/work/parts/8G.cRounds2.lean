/-! rounds: the class's order and call -/
theorem c_or_1 {d w t n : Nat} {h : Hp} {S rs rm nb : Int → Int} (y : RW h w t S rs rm nb) (r : RQ S rm nb t) {g c k L : Int} (hg : 0 ≤ g ∧ g < pw (rm t)) (hc : 0 ≤ c ∧ c < S 2) (hp : pc8 g + n + 1 = rm t) (hk : 0 ≤ k ∧ k ≤ 8) (hL : 0 ≤ L ∧ L ≤ 2000) (tb : ∀ z c, 0 ≤ z → z < pw (rm t) → 0 ≤ c → c < S 2 → tbR h S rm nb t z c) : ∀ i, 0 ≤ i → i ≤ 8 → EX (d+3) m_Reckoner_orderRound 45 [(0, .inr (.inr (w))), (1, .inr (.inr (33 + 2 * t))), (3, .inr (.inr (70))), (4, .inr (.inr (71))), (5, .inl (rm t)), (6, .inl (g)), (7, .inl (c)), (8, .inl (k)), (9, .inl (L)), (10, .inl (-1)), (11, .inl (i))] [] (h) = EX (d+3) m_Reckoner_orderRound 95 [(0, .inr (.inr (w))), (1, .inr (.inr (33 + 2 * t))), (3, .inr (.inr (70))), (4, .inr (.inr (71))), (5, .inl (rm t)), (6, .inl (g)), (7, .inl (c)), (8, .inl (k)), (10, .inl (ff (fun i => decide (rdV S (fun i => nb (40 * t + i)) (rm t) n g c i = L)) i (rm t)))] [] (h) := by
  have gb := r.1.2.1
  have h8 : pw (rm t) ≤ pw 8 := pw_mono r.2.1.2
  have e8 : pw 8 = 256 := by decide
  have rn := r.2.1
  refine up_ind (hi := rm t) ?_ ?_
  · intro i hi i0 i1
    rw [Reckoner_orderRound_45, ff_stop hi]
    simp (disch := omega) only [wr_id, ix_id, okx, if_pos, if_neg, Int.toNat_of_nonneg, bak_v, bak_n, wr_b01, wr_bt, b01_or, b01_0, b01_1, lc_lt0, lc_gt0, lc_eq0, wl_wr, wr_wr, wl_id, true_and, and_true, true_or, or_true, not_true_eq_false, not_false_eq_true, nc0, nc1, nc2, nc3, nc4, nc5, nc6, nc7, nc8, nc9, nc10, nc11, nc12, nc13, nc14, nc15, nc16, nc17, nc18, nc19, nc20, nc21, nc22, nc23, nc35, nc47, nc59, nc60, nc61, nc73, nc74, nc214, nc215, nc1115, nc2230, nc3345, if_true, if_false, Int.reduceToNat]
  · intro i hi ih i0 i1
    rw [Reckoner_orderRound_45, ff_step hi]
    rcases bt_01 g i with cb | cb
    · obtain ⟨ob, a1, a2, a3⟩ := rd_A rn hg ⟨i0, hi⟩ cb
      have qi := r.2.2 i i0 hi
      have cr := chF_rng r.1 (c := c) (r := nb (40 * t + i)) (by omega) (by omega)
      have vr := rdV_rng r.1 r.2.1 r.q (n := n) (g := g) (c := c) (i := i) hp hg.1 hg.2 hc.1 (by omega) i0 hi cb
      have ev : rdV S (fun i => nb (40 * t + i)) (rm t) n g c i = scA S c (nb (40 * t + i)) + rdF S (fun i => nb (40 * t + i)) (rm t) n (g + pw i) (chF S c (nb (40 * t + i))) := by unfold rdV; rw [if_pos cb]
      have pp := (rd_B rn hg).1
      have tv := tb (g + pw i) (chF S c (nb (40 * t + i))) a1 a2 cr.1 (by omega)
      unfold tbR at tv
      rw [show (rm t - pc8 (g + pw i)).toNat = n by omega] at tv
      have e := c_secondsBy (d := d) y r (g := g) (c := c) (i := i) hg (by omega) ⟨i0, hi⟩ cb tv
      rw [← ev] at e
      generalize rdV S (fun i => nb (40 * t + i)) (rm t) n g c i = v at *
      by_cases cv : v = L
      · rw [if_pos (show decide (v = L) = true by simp [cv])]
        by_cases c2 : i + 1 < rm t
        · simp (disch := omega) only [Reckoner_orderRound_52, Reckoner_orderRound_58, Reckoner_orderRound_68, Reckoner_orderRound_80, Reckoner_orderRound_85, Reckoner_orderRound_89, wr_id, ix_id, okx, if_pos, if_neg, Int.toNat_of_nonneg, bak_v, bak_n, wr_b01, wr_bt, b01_or, b01_0, b01_1, lc_lt0, lc_gt0, lc_eq0, wl_wr, wr_wr, wl_id, true_and, and_true, true_or, or_true, not_true_eq_false, not_false_eq_true, nc0, nc1, nc2, nc3, nc4, nc5, nc6, nc7, nc8, nc9, nc10, nc11, nc12, nc13, nc14, nc15, nc16, nc17, nc18, nc19, nc20, nc21, nc22, nc23, nc35, nc47, nc59, nc60, nc61, nc73, nc74, nc214, nc215, nc1115, nc2230, nc3345, if_true, if_false, Int.reduceToNat, bt_s, cb, e]
          rw [Reckoner_orderRound_45]
          simp (disch := omega) only [Reckoner_orderRound_52, wr_id, ix_id, okx, if_pos, if_neg, Int.toNat_of_nonneg, bak_v, bak_n, wr_b01, wr_bt, b01_or, b01_0, b01_1, lc_lt0, lc_gt0, lc_eq0, wl_wr, wr_wr, wl_id, true_and, and_true, true_or, or_true, not_true_eq_false, not_false_eq_true, nc0, nc1, nc2, nc3, nc4, nc5, nc6, nc7, nc8, nc9, nc10, nc11, nc12, nc13, nc14, nc15, nc16, nc17, nc18, nc19, nc20, nc21, nc22, nc23, nc35, nc47, nc59, nc60, nc61, nc73, nc74, nc214, nc215, nc1115, nc2230, nc3345, if_true, if_false, Int.reduceToNat]
        · simp (disch := omega) only [Reckoner_orderRound_52, Reckoner_orderRound_58, Reckoner_orderRound_68, Reckoner_orderRound_80, Reckoner_orderRound_85, Reckoner_orderRound_89, wr_id, ix_id, okx, if_pos, if_neg, Int.toNat_of_nonneg, bak_v, bak_n, wr_b01, wr_bt, b01_or, b01_0, b01_1, lc_lt0, lc_gt0, lc_eq0, wl_wr, wr_wr, wl_id, true_and, and_true, true_or, or_true, not_true_eq_false, not_false_eq_true, nc0, nc1, nc2, nc3, nc4, nc5, nc6, nc7, nc8, nc9, nc10, nc11, nc12, nc13, nc14, nc15, nc16, nc17, nc18, nc19, nc20, nc21, nc22, nc23, nc35, nc47, nc59, nc60, nc61, nc73, nc74, nc214, nc215, nc1115, nc2230, nc3345, if_true, if_false, Int.reduceToNat, bt_s, cb, e]
          rw [Reckoner_orderRound_45]
          simp (disch := omega) only [wr_id, ix_id, okx, if_pos, if_neg, Int.toNat_of_nonneg, bak_v, bak_n, wr_b01, wr_bt, b01_or, b01_0, b01_1, lc_lt0, lc_gt0, lc_eq0, wl_wr, wr_wr, wl_id, true_and, and_true, true_or, or_true, not_true_eq_false, not_false_eq_true, nc0, nc1, nc2, nc3, nc4, nc5, nc6, nc7, nc8, nc9, nc10, nc11, nc12, nc13, nc14, nc15, nc16, nc17, nc18, nc19, nc20, nc21, nc22, nc23, nc35, nc47, nc59, nc60, nc61, nc73, nc74, nc214, nc215, nc1115, nc2230, nc3345, if_true, if_false, Int.reduceToNat]
      · rw [if_neg (show ¬ decide (v = L) = true by simp [cv])]
        simp (disch := omega) only [Reckoner_orderRound_52, Reckoner_orderRound_58, Reckoner_orderRound_68, Reckoner_orderRound_80, Reckoner_orderRound_89, wr_id, ix_id, okx, if_pos, if_neg, Int.toNat_of_nonneg, bak_v, bak_n, wr_b01, wr_bt, b01_or, b01_0, b01_1, lc_lt0, lc_gt0, lc_eq0, wl_wr, wr_wr, wl_id, true_and, and_true, true_or, or_true, not_true_eq_false, not_false_eq_true, nc0, nc1, nc2, nc3, nc4, nc5, nc6, nc7, nc8, nc9, nc10, nc11, nc12, nc13, nc14, nc15, nc16, nc17, nc18, nc19, nc20, nc21, nc22, nc23, nc35, nc47, nc59, nc60, nc61, nc73, nc74, nc214, nc215, nc1115, nc2230, nc3345, if_true, if_false, Int.reduceToNat, bt_s, cb, e]
        exact ih (by omega) (by omega)
    · have ev : rdV S (fun i => nb (40 * t + i)) (rm t) n g c i = -1 := by unfold rdV; rw [if_neg (by omega)]
      rw [ev, if_neg (show ¬ decide (-1 = L) = true by simp; omega)]
      simp (disch := omega) only [Reckoner_orderRound_52, Reckoner_orderRound_58, Reckoner_orderRound_89, wr_id, ix_id, okx, if_pos, if_neg, Int.toNat_of_nonneg, bak_v, bak_n, wr_b01, wr_bt, b01_or, b01_0, b01_1, lc_lt0, lc_gt0, lc_eq0, wl_wr, wr_wr, wl_id, true_and, and_true, true_or, or_true, not_true_eq_false, not_false_eq_true, nc0, nc1, nc2, nc3, nc4, nc5, nc6, nc7, nc8, nc9, nc10, nc11, nc12, nc13, nc14, nc15, nc16, nc17, nc18, nc19, nc20, nc21, nc22, nc23, nc35, nc47, nc59, nc60, nc61, nc73, nc74, nc214, nc215, nc1115, nc2230, nc3345, if_true, if_false, Int.reduceToNat, bt_s, cb]
      exact ih (by omega) (by omega)
def p71 (a _k : Nat) : Prop := a = 71
theorem p71.ge : ∀ a k, p71 a k → 60 ≤ a := fun a k q => by unfold p71 at q; omega
theorem c_or_2 {d w t : Nat} {S rs rm nb : Int → Int} (r : RQ S rm nb t) : ∀ (n : Nat) (k g c : Int) (h : Hp), k + n = rm t → 0 ≤ k → pc8 g = k → 0 ≤ g → g < pw (rm t) → 0 ≤ c → c < S 2 → RW h w t S rs rm nb → (∀ z c, 0 ≤ z → z < pw (rm t) → 0 ≤ c → c < S 2 → tbR h S rm nb t z c) → ∃ h', EX (d+3) m_Reckoner_orderRound 20 [(0, .inr (.inr (w))), (1, .inr (.inr (33 + 2 * t))), (3, .inr (.inr (70))), (4, .inr (.inr (71))), (5, .inl (rm t)), (6, .inl (g)), (7, .inl (c)), (8, .inl (k))] [] (h) = some (.inl 0, h') ∧ (∀ z, 0 ≤ z → z < k → hI h' 71 z.toNat = hI h 71 z.toNat) ∧ (∀ z, k ≤ z → z < rm t → hI h' 71 z.toNat = roF S (fun i => nb (40 * t + i)) (rm t) n g c (z - k)) ∧ Fr p71 h h' := by
  have gb := r.1.2.1
  have h8 : pw (rm t) ≤ pw 8 := pw_mono r.2.1.2
  have e8 : pw 8 = 256 := by decide
  have rn := r.2.1
  intro n
  induction n with
  | zero =>
    intro k g c h hk k0 pg g0 g1 c0 c1 y tb
    refine ⟨h, ?_, fun _ _ _ => rfl, fun z z0 z1 => by omega, Fr.rf⟩
    rw [Reckoner_orderRound_20]
    simp (disch := omega) only [Reckoner_orderRound_142, wr_id, ix_id, okx, if_pos, if_neg, Int.toNat_of_nonneg, bak_v, bak_n, wr_b01, wr_bt, b01_or, b01_0, b01_1, lc_lt0, lc_gt0, lc_eq0, wl_wr, wr_wr, wl_id, true_and, and_true, true_or, or_true, not_true_eq_false, not_false_eq_true, nc0, nc1, nc2, nc3, nc4, nc5, nc6, nc7, nc8, nc9, nc10, nc11, nc12, nc13, nc14, nc15, nc16, nc17, nc18, nc19, nc20, nc21, nc22, nc23, nc35, nc47, nc59, nc60, nc61, nc73, nc74, nc214, nc215, nc1115, nc2230, nc3345, if_true, if_false, Int.reduceToNat]
  | succ n ih =>
    intro k g c h hk k0 pg g0 g1 c0 c1 y tb
    have hcr := y.1.1
    obtain ⟨q1, q2, q3, q4, q5, q6⟩ := y.1.cells
    have rr := rdF_rng r.1 rn r.q (n + 1) g c (by omega) g0 g1 c0 (by omega)
    obtain ⟨i0, i1, i2, i3⟩ := rdI_ok r.1 rn r.q (n := n) (g := g) (c := c) (by omega) g0 g1 c0 (by omega)
    have e1 := c_or_1 (d := d) y r (n := n) (g := g) (c := c) (k := k) (L := rdF S (fun i => nb (40 * t + i)) (rm t) (n + 1) g c) ⟨g0, g1⟩ ⟨c0, c1⟩ (by omega) (by omega) (by omega) tb 0 (by omega) (by omega)
    rw [show ff (fun i => decide (rdV S (fun i => nb (40 * t + i)) (rm t) n g c i = rdF S (fun i => nb (40 * t + i)) (rm t) (n + 1) g c)) 0 (rm t) = rdI S (fun i => nb (40 * t + i)) (rm t) n g c from rfl] at e1
    have tv := tb g c g0 g1 c0 c1
    unfold tbR at tv
    rw [show (rm t - pc8 g).toNat = n + 1 by omega] at tv
    obtain ⟨ob, a1, a2, a3⟩ := rd_A rn ⟨g0, g1⟩ ⟨i0, i1⟩ i2
    have qi := r.2.2 _ i0 i1
    have cr := chF_rng r.1 (c := c) (r := nb (40 * t + rdI S (fun i => nb (40 * t + i)) (rm t) n g c)) (by omega) (by omega)
    have ea := c_at (d := d + 2) y.1.1 y.1.2.1 y.1.2.2.1 y.1.2.2.2.1 y.1.2.2.2.2 (i := rdI S (fun i => nb (40 * t + i)) (rm t) n g c) ⟨i0, i1⟩
    have eR : ∀ z, roF S (fun i => nb (40 * t + i)) (rm t) (n + 1) g c z = roG S (fun i => nb (40 * t + i)) (rm t) n g c (rdI S (fun i => nb (40 * t + i)) (rm t) n g c) z := fun z => rfl
    generalize hI' : rdI S (fun i => nb (40 * t + i)) (rm t) n g c = ii at *
    have f0 : Fr p71 h (pI h 71 k.toNat (nb (40 * t + ii))) := Fr.pI Fr.rf (by rfl)
    have y1 := y.fr f0 p71.ge
    have ec := c_chairFor (d := d + 2) y1.2 r.1 (c := c) (r := nb (40 * t + ii)) (by omega) (by omega)
    obtain ⟨h2, e2, k2, l2, f2⟩ := ih (k + 1) (g + pw ii) (chF S c (nb (40 * t + ii))) _ (by omega) (by omega) (by omega) a1 a2 cr.1 (by omega) y1 (fun z c z0 z1 z2 z3 => by
      unfold tbR
      rw [hI_pI, if_neg (by omega)]
      exact tb z c z0 z1 z2 z3)
    refine ⟨h2, ?_, fun z z0 z1 => ?_, fun z z0 z1 => ?_, f0.tr f2⟩
    · rw [Reckoner_orderRound_20]
      have hc := hcr
      simp (disch := omega) only [Reckoner_orderRound_27, wr_id, ix_id, okx, if_pos, if_neg, Int.toNat_of_nonneg, bak_v, bak_n, wr_b01, wr_bt, b01_or, b01_0, b01_1, lc_lt0, lc_gt0, lc_eq0, wl_wr, wr_wr, wl_id, true_and, and_true, true_or, or_true, not_true_eq_false, not_false_eq_true, nc0, nc1, nc2, nc3, nc4, nc5, nc6, nc7, nc8, nc9, nc10, nc11, nc12, nc13, nc14, nc15, nc16, nc17, nc18, nc19, nc20, nc21, nc22, nc23, nc35, nc47, nc59, nc60, nc61, nc73, nc74, nc214, nc215, nc1115, nc2230, nc3345, if_true, if_false, Int.reduceToNat, hc.k6, hc.r5, hc.r6, hc.r0, hc.r2, hc.r7, hc.r8, hc.r9, hc.r10, hc.r11, hc.r12, hc.r13, hc.r14, hc.r15, hc.r16, hc.r17, hc.r18, hc.r8_0, hc.r8_1, hc.r11_0, hc.r11_1, hc.r60_0, hc.r60_1, hc.r60_4, hc.r64_0, hc.r64_3, hc.r64_4, hc.r68_0, hc.r41_0, hc.r41_1, hc.r42_0, hc.r42_1, hc.k7, hc.k8, hc.k9, hc.k11, hc.k12, hc.k13, hc.k32, hc.k41, hc.k42, hc.k43, hc.k60, hc.k61, hc.k62, hc.k63, hc.k64, hc.k65, hc.k66, hc.k67, hc.k68, hc.k69, hc.k70, hc.k71, hc.n6, hc.n7, hc.n8, hc.n9, hc.n11, hc.n12, hc.n13, hc.n32, hc.n41, hc.n42, hc.n43, hc.n60, hc.n61, hc.n62, hc.n63, hc.n64, hc.n65, hc.n66, hc.n67, hc.n68, hc.n69, hc.n70, hc.n71, tv]
      refine e1.trans ?_
      have hw1 := y1.2.1
      simp (disch := omega) only [Reckoner_orderRound_95, Reckoner_orderRound_102, Reckoner_orderRound_112, wr_id, ix_id, okx, if_pos, if_neg, Int.toNat_of_nonneg, bak_v, bak_n, wr_b01, wr_bt, b01_or, b01_0, b01_1, lc_lt0, lc_gt0, lc_eq0, wl_wr, wr_wr, wl_id, true_and, and_true, true_or, or_true, not_true_eq_false, not_false_eq_true, nc0, nc1, nc2, nc3, nc4, nc5, nc6, nc7, nc8, nc9, nc10, nc11, nc12, nc13, nc14, nc15, nc16, nc17, nc18, nc19, nc20, nc21, nc22, nc23, nc35, nc47, nc59, nc60, nc61, nc73, nc74, nc214, nc215, nc1115, nc2230, nc3345, if_true, if_false, Int.reduceToNat, hc.k6, hc.r5, hc.r6, hc.r0, hc.r2, hc.r7, hc.r8, hc.r9, hc.r10, hc.r11, hc.r12, hc.r13, hc.r14, hc.r15, hc.r16, hc.r17, hc.r18, hc.r8_0, hc.r8_1, hc.r11_0, hc.r11_1, hc.r60_0, hc.r60_1, hc.r60_4, hc.r64_0, hc.r64_3, hc.r64_4, hc.r68_0, hc.r41_0, hc.r41_1, hc.r42_0, hc.r42_1, hc.k7, hc.k8, hc.k9, hc.k11, hc.k12, hc.k13, hc.k32, hc.k41, hc.k42, hc.k43, hc.k60, hc.k61, hc.k62, hc.k63, hc.k64, hc.k65, hc.k66, hc.k67, hc.k68, hc.k69, hc.k70, hc.k71, hc.n6, hc.n7, hc.n8, hc.n9, hc.n11, hc.n12, hc.n13, hc.n32, hc.n41, hc.n42, hc.n43, hc.n60, hc.n61, hc.n62, hc.n63, hc.n64, hc.n65, hc.n66, hc.n67, hc.n68, hc.n69, hc.n70, hc.n71, q1, ea]
      have hwk : sK h w = 9 := y.2.1.k
      simp (disch := omega) only [Reckoner_orderRound_114, wr_id, ix_id, okx, if_pos, if_neg, Int.toNat_of_nonneg, bak_v, bak_n, wr_b01, wr_bt, b01_or, b01_0, b01_1, lc_lt0, lc_gt0, lc_eq0, wl_wr, wr_wr, wl_id, true_and, and_true, true_or, or_true, not_true_eq_false, not_false_eq_true, nc0, nc1, nc2, nc3, nc4, nc5, nc6, nc7, nc8, nc9, nc10, nc11, nc12, nc13, nc14, nc15, nc16, nc17, nc18, nc19, nc20, nc21, nc22, nc23, nc35, nc47, nc59, nc60, nc61, nc73, nc74, nc214, nc215, nc1115, nc2230, nc3345, if_true, if_false, Int.reduceToNat, sK_pI, sN_pI, hc.k6, hc.r5, hc.r6, hc.r0, hc.r2, hc.r7, hc.r8, hc.r9, hc.r10, hc.r11, hc.r12, hc.r13, hc.r14, hc.r15, hc.r16, hc.r17, hc.r18, hc.r8_0, hc.r8_1, hc.r11_0, hc.r11_1, hc.r60_0, hc.r60_1, hc.r60_4, hc.r64_0, hc.r64_3, hc.r64_4, hc.r68_0, hc.r41_0, hc.r41_1, hc.r42_0, hc.r42_1, hc.k7, hc.k8, hc.k9, hc.k11, hc.k12, hc.k13, hc.k32, hc.k41, hc.k42, hc.k43, hc.k60, hc.k61, hc.k62, hc.k63, hc.k64, hc.k65, hc.k66, hc.k67, hc.k68, hc.k69, hc.k70, hc.k71, hc.n6, hc.n7, hc.n8, hc.n9, hc.n11, hc.n12, hc.n13, hc.n32, hc.n41, hc.n42, hc.n43, hc.n60, hc.n61, hc.n62, hc.n63, hc.n64, hc.n65, hc.n66, hc.n67, hc.n68, hc.n69, hc.n70, hc.n71, hI_pI, and_self, hwk, ec, Reckoner_orderRound_134, ob]
      exact e2
    · rw [k2 z z0 (by omega), hI_pI, if_neg (by omega)]
    · rw [eR]
      unfold roG
      by_cases cz : z = k
      · rw [if_pos (show z - k = 0 by omega), cz, k2 k k0 (by omega), hI_pI, if_pos ⟨rfl, rfl⟩]
      · rw [if_neg (show ¬ z - k = 0 by omega), l2 z (by omega) z1, show z - (k + 1) = z - k - 1 by omega]
def p7x (a _k : Nat) : Prop := a = 70 ∨ a = 71
theorem cc_rounds {d w : Nat} {h : Hp} {S rs rm nb : Int → Int} (hc : CR h w) (tv : TV h rs rm nb) (tg : TG rs rm nb) (wv : WV h w S) (hv : HV h 26 S) (g : Gd S) {t u : Int} (rt : -2147483648 ≤ t ∧ t ≤ 2147483647) (ru : -2147483648 ≤ u ∧ u ≤ 2147483647) : ∃ h', cal (d+5) m_Hook_rounds [.inr (.inr (6)), .inl (t), .inl (u)] (h) = some (.inl (ansRnd S rs rm nb t u), h') ∧ Fr p7x h h' := by
  have ga := g.a
  have gb := g.b
  have g59 := g.2.1
  have ha := hv.1
  have hw := wv.1
  unfold ansRnd
  have eu : ∀ e : Nat, cal (e+1) m_Hook_rounds [.inr (.inr (6)), .inl (t), .inl (u)] (h) = EX (e) m_Hook_rounds 17 [(0, .inr (.inr (6))), (1, .inl (t)), (2, .inl (u))] [.inl (b01 (10 ≤ u ∧ u ≤ 17))] (h) := fun e => by
    show EX (e) m_Hook_rounds 0 [(0, .inr (.inr (6))), (1, .inl (t)), (2, .inl (u))] [] (h) = _
    unfold b01
    by_cases c1 : u < 10
    · rw [if_neg (by omega)]
      simp (disch := omega) only [Hook_rounds_0, Hook_rounds_16, wr_id, ix_id, okx, if_pos, if_neg, Int.toNat_of_nonneg, bak_v, bak_n, wr_b01, wr_bt, b01_or, b01_0, b01_1, lc_lt0, lc_gt0, lc_eq0, wl_wr, wr_wr, wl_id, true_and, and_true, true_or, or_true, not_true_eq_false, not_false_eq_true, nc0, nc1, nc2, nc3, nc4, nc5, nc6, nc7, nc8, nc9, nc10, nc11, nc12, nc13, nc14, nc15, nc16, nc17, nc18, nc19, nc20, nc21, nc22, nc23, nc35, nc47, nc59, nc60, nc61, nc73, nc74, nc214, nc215, nc1115, nc2230, nc3345, if_true, if_false, Int.reduceToNat]
    · by_cases c2 : u < 18
      · rw [if_pos (by omega)]
        simp (disch := omega) only [Hook_rounds_0, Hook_rounds_6, Hook_rounds_12, wr_id, ix_id, okx, if_pos, if_neg, Int.toNat_of_nonneg, bak_v, bak_n, wr_b01, wr_bt, b01_or, b01_0, b01_1, lc_lt0, lc_gt0, lc_eq0, wl_wr, wr_wr, wl_id, true_and, and_true, true_or, or_true, not_true_eq_false, not_false_eq_true, nc0, nc1, nc2, nc3, nc4, nc5, nc6, nc7, nc8, nc9, nc10, nc11, nc12, nc13, nc14, nc15, nc16, nc17, nc18, nc19, nc20, nc21, nc22, nc23, nc35, nc47, nc59, nc60, nc61, nc73, nc74, nc214, nc215, nc1115, nc2230, nc3345, if_true, if_false, Int.reduceToNat]
      · rw [if_neg (by omega)]
        simp (disch := omega) only [Hook_rounds_0, Hook_rounds_6, Hook_rounds_16, wr_id, ix_id, okx, if_pos, if_neg, Int.toNat_of_nonneg, bak_v, bak_n, wr_b01, wr_bt, b01_or, b01_0, b01_1, lc_lt0, lc_gt0, lc_eq0, wl_wr, wr_wr, wl_id, true_and, and_true, true_or, or_true, not_true_eq_false, not_false_eq_true, nc0, nc1, nc2, nc3, nc4, nc5, nc6, nc7, nc8, nc9, nc10, nc11, nc12, nc13, nc14, nc15, nc16, nc17, nc18, nc19, nc20, nc21, nc22, nc23, nc35, nc47, nc59, nc60, nc61, nc73, nc74, nc214, nc215, nc1115, nc2230, nc3345, if_true, if_false, Int.reduceToNat]
  by_cases cu : u = 0 ∨ (10 ≤ u ∧ u ≤ 17)
  · rw [if_neg (show ¬ ¬ (u = 0 ∨ (10 ≤ u ∧ u ≤ 17)) by omega)]
    by_cases ht : 0 ≤ t ∧ t < 4
    · have et : ((t.toNat : Nat) : Int) = t := Int.toNat_of_nonneg ht.1
      have em := c_isMissing (d := d + 3) hc tv tg (t := t.toNat) (by omega)
      have e2 := hc.tr (t := t.toNat) (by omega)
      have tk := hc.tk (t := t.toNat) (by omega)
      rw [et] at em
      have eb : b01 (0 ≤ t ∧ t < 4) = 1 := by unfold b01; rw [if_pos ht]
      have st0 : cal (d+5) m_Hook_rounds [.inr (.inr (6)), .inl (t), .inl (u)] (h) = EX (d+4) m_Hook_rounds 36 [(0, .inr (.inr (6))), (1, .inl (t)), (2, .inl (u))] [] (h) := by
        rw [eu (d + 4)]
        by_cases c0 : u = 0
        · simp (disch := omega) only [Hook_rounds_17, Hook_rounds_22, Hook_rounds_25, wr_id, ix_id, okx, if_pos, if_neg, Int.toNat_of_nonneg, bak_v, bak_n, wr_b01, wr_bt, b01_or, b01_0, b01_1, lc_lt0, lc_gt0, lc_eq0, wl_wr, wr_wr, wl_id, true_and, and_true, true_or, or_true, not_true_eq_false, not_false_eq_true, nc0, nc1, nc2, nc3, nc4, nc5, nc6, nc7, nc8, nc9, nc10, nc11, nc12, nc13, nc14, nc15, nc16, nc17, nc18, nc19, nc20, nc21, nc22, nc23, nc35, nc47, nc59, nc60, nc61, nc73, nc74, nc214, nc215, nc1115, nc2230, nc3345, if_true, if_false, Int.reduceToNat, c_isTray, eb, c0]
        · have eb2 : b01 (10 ≤ u ∧ u ≤ 17) = 1 := by unfold b01; rw [if_pos (by omega)]
          simp (disch := omega) only [Hook_rounds_17, Hook_rounds_22, Hook_rounds_25, Hook_rounds_29, wr_id, ix_id, okx, if_pos, if_neg, Int.toNat_of_nonneg, bak_v, bak_n, wr_b01, wr_bt, b01_or, b01_0, b01_1, lc_lt0, lc_gt0, lc_eq0, wl_wr, wr_wr, wl_id, true_and, and_true, true_or, or_true, not_true_eq_false, not_false_eq_true, nc0, nc1, nc2, nc3, nc4, nc5, nc6, nc7, nc8, nc9, nc10, nc11, nc12, nc13, nc14, nc15, nc16, nc17, nc18, nc19, nc20, nc21, nc22, nc23, nc35, nc47, nc59, nc60, nc61, nc73, nc74, nc214, nc215, nc1115, nc2230, nc3345, if_true, if_false, Int.reduceToNat, c_isTray, eb, eb2]
      by_cases cm : rs t = -1
      · have en : noT rs t = -6 := by unfold noT; rw [if_neg (by omega), if_pos cm]
        rw [en]
        refine ⟨h, ?_, Fr.rf⟩
        rw [if_pos (by omega)]
        refine st0.trans ?_
        simp (disch := omega) only [Hook_rounds_36, Hook_rounds_49, Hook_rounds_52, wr_id, ix_id, okx, if_pos, if_neg, Int.toNat_of_nonneg, bak_v, bak_n, wr_b01, wr_bt, b01_or, b01_0, b01_1, lc_lt0, lc_gt0, lc_eq0, wl_wr, wr_wr, wl_id, true_and, and_true, true_or, or_true, not_true_eq_false, not_false_eq_true, nc0, nc1, nc2, nc3, nc4, nc5, nc6, nc7, nc8, nc9, nc10, nc11, nc12, nc13, nc14, nc15, nc16, nc17, nc18, nc19, nc20, nc21, nc22, nc23, nc35, nc47, nc59, nc60, nc61, nc73, nc74, nc214, nc215, nc1115, nc2230, nc3345, if_true, if_false, Int.reduceToNat, hc.k6, hc.r5, hc.r6, hc.r0, hc.r2, hc.r7, hc.r8, hc.r9, hc.r10, hc.r11, hc.r12, hc.r13, hc.r14, hc.r15, hc.r16, hc.r17, hc.r18, hc.r8_0, hc.r8_1, hc.r11_0, hc.r11_1, hc.r60_0, hc.r60_1, hc.r60_4, hc.r64_0, hc.r64_3, hc.r64_4, hc.r68_0, hc.r41_0, hc.r41_1, hc.r42_0, hc.r42_1, hc.k7, hc.k8, hc.k9, hc.k11, hc.k12, hc.k13, hc.k32, hc.k41, hc.k42, hc.k43, hc.k60, hc.k61, hc.k62, hc.k63, hc.k64, hc.k65, hc.k66, hc.k67, hc.k68, hc.k69, hc.k70, hc.k71, hc.n6, hc.n7, hc.n8, hc.n9, hc.n11, hc.n12, hc.n13, hc.n32, hc.n41, hc.n42, hc.n43, hc.n60, hc.n61, hc.n62, hc.n63, hc.n64, hc.n65, hc.n66, hc.n67, hc.n68, hc.n69, hc.n70, hc.n71, e2, tk.1, em, cm]
      · have en : noT rs t = 0 := by unfold noT; rw [if_neg (by omega), if_neg cm]
        have y : TY h w t.toNat rs rm nb := ⟨hc, tv, tg, by omega, by rw [et]; exact cm⟩
        obtain ⟨q1, q2, q3, q4, q5, q6⟩ := y.cells
        rw [et] at q5 q6
        rw [if_neg (fun q => q en)]
        have st : cal (d+5) m_Hook_rounds [.inr (.inr (6)), .inl (t), .inl (u)] (h) = EX (d+4) m_Hook_rounds 55 [(0, .inr (.inr (6))), (2, .inl (u)), (4, .inr (.inr (33 + 2 * t.toNat)))] [] (h) := by
          refine st0.trans ?_
          simp (disch := omega) only [Hook_rounds_36, Hook_rounds_49, wr_id, ix_id, okx, if_pos, if_neg, Int.toNat_of_nonneg, bak_v, bak_n, wr_b01, wr_bt, b01_or, b01_0, b01_1, lc_lt0, lc_gt0, lc_eq0, wl_wr, wr_wr, wl_id, true_and, and_true, true_or, or_true, not_true_eq_false, not_false_eq_true, nc0, nc1, nc2, nc3, nc4, nc5, nc6, nc7, nc8, nc9, nc10, nc11, nc12, nc13, nc14, nc15, nc16, nc17, nc18, nc19, nc20, nc21, nc22, nc23, nc35, nc47, nc59, nc60, nc61, nc73, nc74, nc214, nc215, nc1115, nc2230, nc3345, if_true, if_false, Int.reduceToNat, hc.k6, hc.r5, hc.r6, hc.r0, hc.r2, hc.r7, hc.r8, hc.r9, hc.r10, hc.r11, hc.r12, hc.r13, hc.r14, hc.r15, hc.r16, hc.r17, hc.r18, hc.r8_0, hc.r8_1, hc.r11_0, hc.r11_1, hc.r60_0, hc.r60_1, hc.r60_4, hc.r64_0, hc.r64_3, hc.r64_4, hc.r68_0, hc.r41_0, hc.r41_1, hc.r42_0, hc.r42_1, hc.k7, hc.k8, hc.k9, hc.k11, hc.k12, hc.k13, hc.k32, hc.k41, hc.k42, hc.k43, hc.k60, hc.k61, hc.k62, hc.k63, hc.k64, hc.k65, hc.k66, hc.k67, hc.k68, hc.k69, hc.k70, hc.k71, hc.n6, hc.n7, hc.n8, hc.n9, hc.n11, hc.n12, hc.n13, hc.n32, hc.n41, hc.n42, hc.n43, hc.n60, hc.n61, hc.n62, hc.n63, hc.n64, hc.n65, hc.n66, hc.n67, hc.n68, hc.n69, hc.n70, hc.n71, e2, tk.1, em]
        by_cases cn : 1 ≤ rm t ∧ rm t ≤ 8
        · rw [if_neg (show ¬ ¬ (1 ≤ rm t ∧ rm t ≤ 8) by omega)]
          have ew := c_isWithin (d := d + 3) y (lo := 0) (hi := S 2 - 1) (by omega) (by omega)
          have ex := c_hasTwins (d := d + 3) y
          rw [et] at ew ex
          by_cases cb : ff (rnB S nb t) 0 (rm t) = -1
          · rw [if_neg (fun q => q cb)]
            obtain ⟨cb1, cb2⟩ := rn_iff.mp cb
            have ok := rn_ok cb
            have b1 : b01 (ff (wtB nb t 0 (S 2 - 1)) 0 (rm t) = -1) = 1 := by unfold b01; rw [if_pos cb1]
            have b2 : b01 (¬ ff (twC nb t (rm t)) 0 (rm t) = -1) = 0 := by unfold b01; rw [if_neg (fun q => q cb2)]
            rw [b1] at ew
            rw [b2] at ex
            have st2 : EX (d+4) m_Hook_rounds 55 [(0, .inr (.inr (6))), (2, .inl (u)), (4, .inr (.inr (33 + 2 * t.toNat)))] [] (h) = EX (d+4) m_Hook_rounds 107 [(0, .inr (.inr (6))), (2, .inl (u)), (4, .inr (.inr (33 + 2 * t.toNat)))] [] (h) := by
              simp (disch := omega) only [Hook_rounds_55, Hook_rounds_64, Hook_rounds_77, Hook_rounds_93, Hook_rounds_96, Hook_rounds_101, wr_id, ix_id, okx, if_pos, if_neg, Int.toNat_of_nonneg, bak_v, bak_n, wr_b01, wr_bt, b01_or, b01_0, b01_1, lc_lt0, lc_gt0, lc_eq0, wl_wr, wr_wr, wl_id, true_and, and_true, true_or, or_true, not_true_eq_false, not_false_eq_true, nc0, nc1, nc2, nc3, nc4, nc5, nc6, nc7, nc8, nc9, nc10, nc11, nc12, nc13, nc14, nc15, nc16, nc17, nc18, nc19, nc20, nc21, nc22, nc23, nc35, nc47, nc59, nc60, nc61, nc73, nc74, nc214, nc215, nc1115, nc2230, nc3345, if_true, if_false, Int.reduceToNat, hc.k6, hc.r5, hc.r6, hc.r0, hc.r2, hc.r7, hc.r8, hc.r9, hc.r10, hc.r11, hc.r12, hc.r13, hc.r14, hc.r15, hc.r16, hc.r17, hc.r18, hc.r8_0, hc.r8_1, hc.r11_0, hc.r11_1, hc.r60_0, hc.r60_1, hc.r60_4, hc.r64_0, hc.r64_3, hc.r64_4, hc.r68_0, hc.r41_0, hc.r41_1, hc.r42_0, hc.r42_1, hc.k7, hc.k8, hc.k9, hc.k11, hc.k12, hc.k13, hc.k32, hc.k41, hc.k42, hc.k43, hc.k60, hc.k61, hc.k62, hc.k63, hc.k64, hc.k65, hc.k66, hc.k67, hc.k68, hc.k69, hc.k70, hc.k71, hc.n6, hc.n7, hc.n8, hc.n9, hc.n11, hc.n12, hc.n13, hc.n32, hc.n41, hc.n42, hc.n43, hc.n60, hc.n61, hc.n62, hc.n63, hc.n64, hc.n65, hc.n66, hc.n67, hc.n68, hc.n69, hc.n70, hc.n71, hw.k, hw.r0, hw.r1, hw.r2, hw.r3, hw.r4, hw.k1, hw.k2, hw.k3, hw.k4, hw.k5, hw.n1, hw.n2, hw.n3, hw.n4, hw.n5, wv.f5, wv.f6, wv.f7, wv.f8, wv.f9, wv.f10, wv.f11, wv.f12, wv.f13, wv.f14, wv.pk, wv.qk, wv.hk, wv.rk, q1, q5, ew, ex]
            have r : RQ S rm nb t.toNat := ⟨g.1, by rw [et]; exact cn, fun i i0 i1 => by rw [et] at i1 ⊢; exact (ok i i0 i1).1⟩
            have o0 := (ok 0 (by omega) (by omega)).1
            obtain ⟨h2, e3, k3, f3⟩ := c_fillRounds (d := d) ⟨y, wv⟩ r
            rw [et] at k3
            have y2 : RW h2 w t.toNat S rs rm nb := RW.fr ⟨y, wv⟩ f3 p70.ge
            have hc2 := y2.1.1
            have q52 : hI h2 (33 + 2 * t.toNat) 2 = rm t := by have := y2.1.cells.2.2.2.2.1; rw [et] at this; exact this
            have q12 : sK h2 (33 + 2 * t.toNat) = 7 := y2.1.cells.1
            have pc0 : pc8 0 = 0 := by decide
            have pwp := pw_pos (rm t)
            have hv2 : HV h2 26 S := hv.fr f3 (fun k q => by unfold p70 at q; omega) (fun k q => by unfold p70 at q; omega)
            have ha2 := hv2.1
            have st3 : EX (d+4) m_Hook_rounds 107 [(0, .inr (.inr (6))), (2, .inl (u)), (4, .inr (.inr (33 + 2 * t.toNat)))] [] (h) = EX (d+4) m_Hook_rounds 120 [(0, .inr (.inr (6))), (2, .inl (u)), (4, .inr (.inr (33 + 2 * t.toNat)))] [] (h2) := by
              simp (disch := omega) only [Hook_rounds_107, wr_id, ix_id, okx, if_pos, if_neg, Int.toNat_of_nonneg, bak_v, bak_n, wr_b01, wr_bt, b01_or, b01_0, b01_1, lc_lt0, lc_gt0, lc_eq0, wl_wr, wr_wr, wl_id, true_and, and_true, true_or, or_true, not_true_eq_false, not_false_eq_true, nc0, nc1, nc2, nc3, nc4, nc5, nc6, nc7, nc8, nc9, nc10, nc11, nc12, nc13, nc14, nc15, nc16, nc17, nc18, nc19, nc20, nc21, nc22, nc23, nc35, nc47, nc59, nc60, nc61, nc73, nc74, nc214, nc215, nc1115, nc2230, nc3345, if_true, if_false, Int.reduceToNat, hc.k6, hc.r5, hc.r6, hc.r0, hc.r2, hc.r7, hc.r8, hc.r9, hc.r10, hc.r11, hc.r12, hc.r13, hc.r14, hc.r15, hc.r16, hc.r17, hc.r18, hc.r8_0, hc.r8_1, hc.r11_0, hc.r11_1, hc.r60_0, hc.r60_1, hc.r60_4, hc.r64_0, hc.r64_3, hc.r64_4, hc.r68_0, hc.r41_0, hc.r41_1, hc.r42_0, hc.r42_1, hc.k7, hc.k8, hc.k9, hc.k11, hc.k12, hc.k13, hc.k32, hc.k41, hc.k42, hc.k43, hc.k60, hc.k61, hc.k62, hc.k63, hc.k64, hc.k65, hc.k66, hc.k67, hc.k68, hc.k69, hc.k70, hc.k71, hc.n6, hc.n7, hc.n8, hc.n9, hc.n11, hc.n12, hc.n13, hc.n32, hc.n41, hc.n42, hc.n43, hc.n60, hc.n61, hc.n62, hc.n63, hc.n64, hc.n65, hc.n66, hc.n67, hc.n68, hc.n69, hc.n70, hc.n71, e3]
            by_cases c0 : u = 0
            · rw [if_pos c0]
              refine ⟨h2, ?_, f3.mo (fun a k q => Or.inl q)⟩
              refine st.trans (st2.trans (st3.trans ?_))
              have tv0 := k3 0 (S 59) (by omega) (by omega) (by omega) (by omega)
              unfold tbR at tv0
              rw [et, pc0, show rm t - 0 = rm t by omega, show 0 * 12 + S 59 = S 59 by omega] at tv0
              have hc := hc2
              have es : cal (d+4) m_Reckoner_secondsOfRound [.inl (S 59), .inr (.inr (70))] (h2) = some (.inl (rdF S (fun i => nb (40 * t + i)) (rm t) (rm t).toNat 0 (S 59)), h2) := by
                show EX (d+3) m_Reckoner_secondsOfRound 0 [(0, .inl (S 59)), (1, .inr (.inr (70)))] [] (h2) = _
                simp (disch := omega) only [Reckoner_secondsOfRound_0, Reckoner_secondsOfRound_4, Reckoner_secondsOfRound_10, Reckoner_secondsOfRound_17, wr_id, ix_id, okx, if_pos, if_neg, Int.toNat_of_nonneg, bak_v, bak_n, wr_b01, wr_bt, b01_or, b01_0, b01_1, lc_lt0, lc_gt0, lc_eq0, wl_wr, wr_wr, wl_id, true_and, and_true, true_or, or_true, not_true_eq_false, not_false_eq_true, nc0, nc1, nc2, nc3, nc4, nc5, nc6, nc7, nc8, nc9, nc10, nc11, nc12, nc13, nc14, nc15, nc16, nc17, nc18, nc19, nc20, nc21, nc22, nc23, nc35, nc47, nc59, nc60, nc61, nc73, nc74, nc214, nc215, nc1115, nc2230, nc3345, if_true, if_false, Int.reduceToNat, hc.k6, hc.r5, hc.r6, hc.r0, hc.r2, hc.r7, hc.r8, hc.r9, hc.r10, hc.r11, hc.r12, hc.r13, hc.r14, hc.r15, hc.r16, hc.r17, hc.r18, hc.r8_0, hc.r8_1, hc.r11_0, hc.r11_1, hc.r60_0, hc.r60_1, hc.r60_4, hc.r64_0, hc.r64_3, hc.r64_4, hc.r68_0, hc.r41_0, hc.r41_1, hc.r42_0, hc.r42_1, hc.k7, hc.k8, hc.k9, hc.k11, hc.k12, hc.k13, hc.k32, hc.k41, hc.k42, hc.k43, hc.k60, hc.k61, hc.k62, hc.k63, hc.k64, hc.k65, hc.k66, hc.k67, hc.k68, hc.k69, hc.k70, hc.k71, hc.n6, hc.n7, hc.n8, hc.n9, hc.n11, hc.n12, hc.n13, hc.n32, hc.n41, hc.n42, hc.n43, hc.n60, hc.n61, hc.n62, hc.n63, hc.n64, hc.n65, hc.n66, hc.n67, hc.n68, hc.n69, hc.n70, hc.n71, tv0]
              simp (disch := omega) only [Hook_rounds_120, Hook_rounds_124, Hook_rounds_138, wr_id, ix_id, okx, if_pos, if_neg, Int.toNat_of_nonneg, bak_v, bak_n, wr_b01, wr_bt, b01_or, b01_0, b01_1, lc_lt0, lc_gt0, lc_eq0, wl_wr, wr_wr, wl_id, true_and, and_true, true_or, or_true, not_true_eq_false, not_false_eq_true, nc0, nc1, nc2, nc3, nc4, nc5, nc6, nc7, nc8, nc9, nc10, nc11, nc12, nc13, nc14, nc15, nc16, nc17, nc18, nc19, nc20, nc21, nc22, nc23, nc35, nc47, nc59, nc60, nc61, nc73, nc74, nc214, nc215, nc1115, nc2230, nc3345, if_true, if_false, Int.reduceToNat, hc.k6, hc.r5, hc.r6, hc.r0, hc.r2, hc.r7, hc.r8, hc.r9, hc.r10, hc.r11, hc.r12, hc.r13, hc.r14, hc.r15, hc.r16, hc.r17, hc.r18, hc.r8_0, hc.r8_1, hc.r11_0, hc.r11_1, hc.r60_0, hc.r60_1, hc.r60_4, hc.r64_0, hc.r64_3, hc.r64_4, hc.r68_0, hc.r41_0, hc.r41_1, hc.r42_0, hc.r42_1, hc.k7, hc.k8, hc.k9, hc.k11, hc.k12, hc.k13, hc.k32, hc.k41, hc.k42, hc.k43, hc.k60, hc.k61, hc.k62, hc.k63, hc.k64, hc.k65, hc.k66, hc.k67, hc.k68, hc.k69, hc.k70, hc.k71, hc.n6, hc.n7, hc.n8, hc.n9, hc.n11, hc.n12, hc.n13, hc.n32, hc.n41, hc.n42, hc.n43, hc.n60, hc.n61, hc.n62, hc.n63, hc.n64, hc.n65, hc.n66, hc.n67, hc.n68, hc.n69, hc.n70, hc.n71, c0, ha2.k, hv2.f1, es]
            · rw [if_neg c0]
              by_cases c1 : u - 10 < rm t
              · rw [if_pos c1]
                obtain ⟨h4, e4, k4, l4, f4⟩ := c_or_2 (d := d) (w := w) (rs := rs) r (rm t).toNat 0 0 (S 59) h2 (by rw [et]; omega) (by omega) pc0 (by omega) (by rw [et]; omega) (by omega) (by omega) y2 (by rw [et]; exact k3)
                rw [et] at e4 l4
                have l5 := l4 (u - 10) (by omega) c1
                rw [show u - 10 - 0 = u - 10 by omega] at l5
                have hc4 := hc2.fr f4
                refine ⟨h4, ?_, (f3.mo (fun a k q => Or.inl q)).tr (f4.mo (fun a k q => Or.inr q))⟩
                refine st.trans (st2.trans (st3.trans ?_))
                have eo : cal (d+4) m_Reckoner_orderRound [.inr (.inr (w)), .inr (.inr (33 + 2 * t.toNat)), .inl (S 59), .inr (.inr (70)), .inr (.inr (71))] (h2) = some (.inl 0, h4) := by
                  show EX (d+3) m_Reckoner_orderRound 0 [(0, .inr (.inr (w))), (1, .inr (.inr (33 + 2 * t.toNat))), (2, .inl (S 59)), (3, .inr (.inr (70))), (4, .inr (.inr (71)))] [] (h2) = _
                  simp (disch := omega) only [Reckoner_orderRound_0, Reckoner_orderRound_9, wr_id, ix_id, okx, if_pos, if_neg, Int.toNat_of_nonneg, bak_v, bak_n, wr_b01, wr_bt, b01_or, b01_0, b01_1, lc_lt0, lc_gt0, lc_eq0, wl_wr, wr_wr, wl_id, true_and, and_true, true_or, or_true, not_true_eq_false, not_false_eq_true, nc0, nc1, nc2, nc3, nc4, nc5, nc6, nc7, nc8, nc9, nc10, nc11, nc12, nc13, nc14, nc15, nc16, nc17, nc18, nc19, nc20, nc21, nc22, nc23, nc35, nc47, nc59, nc60, nc61, nc73, nc74, nc214, nc215, nc1115, nc2230, nc3345, if_true, if_false, Int.reduceToNat, q12, q52, min_s]
                  exact e4
                have hc := hc2
                simp (disch := omega) only [Hook_rounds_120, Hook_rounds_139, Hook_rounds_153, wr_id, ix_id, okx, if_pos, if_neg, Int.toNat_of_nonneg, bak_v, bak_n, wr_b01, wr_bt, b01_or, b01_0, b01_1, lc_lt0, lc_gt0, lc_eq0, wl_wr, wr_wr, wl_id, true_and, and_true, true_or, or_true, not_true_eq_false, not_false_eq_true, nc0, nc1, nc2, nc3, nc4, nc5, nc6, nc7, nc8, nc9, nc10, nc11, nc12, nc13, nc14, nc15, nc16, nc17, nc18, nc19, nc20, nc21, nc22, nc23, nc35, nc47, nc59, nc60, nc61, nc73, nc74, nc214, nc215, nc1115, nc2230, nc3345, if_true, if_false, Int.reduceToNat, hc.k6, hc.r5, hc.r6, hc.r0, hc.r2, hc.r7, hc.r8, hc.r9, hc.r10, hc.r11, hc.r12, hc.r13, hc.r14, hc.r15, hc.r16, hc.r17, hc.r18, hc.r8_0, hc.r8_1, hc.r11_0, hc.r11_1, hc.r60_0, hc.r60_1, hc.r60_4, hc.r64_0, hc.r64_3, hc.r64_4, hc.r68_0, hc.r41_0, hc.r41_1, hc.r42_0, hc.r42_1, hc.k7, hc.k8, hc.k9, hc.k11, hc.k12, hc.k13, hc.k32, hc.k41, hc.k42, hc.k43, hc.k60, hc.k61, hc.k62, hc.k63, hc.k64, hc.k65, hc.k66, hc.k67, hc.k68, hc.k69, hc.k70, hc.k71, hc.n6, hc.n7, hc.n8, hc.n9, hc.n11, hc.n12, hc.n13, hc.n32, hc.n41, hc.n42, hc.n43, hc.n60, hc.n61, hc.n62, hc.n63, hc.n64, hc.n65, hc.n66, hc.n67, hc.n68, hc.n69, hc.n70, hc.n71, ha2.k, hv2.f1, q12, q52, eo]
                have hc := hc4
                simp (disch := omega) only [Hook_rounds_177, wr_id, ix_id, okx, if_pos, if_neg, Int.toNat_of_nonneg, bak_v, bak_n, wr_b01, wr_bt, b01_or, b01_0, b01_1, lc_lt0, lc_gt0, lc_eq0, wl_wr, wr_wr, wl_id, true_and, and_true, true_or, or_true, not_true_eq_false, not_false_eq_true, nc0, nc1, nc2, nc3, nc4, nc5, nc6, nc7, nc8, nc9, nc10, nc11, nc12, nc13, nc14, nc15, nc16, nc17, nc18, nc19, nc20, nc21, nc22, nc23, nc35, nc47, nc59, nc60, nc61, nc73, nc74, nc214, nc215, nc1115, nc2230, nc3345, if_true, if_false, Int.reduceToNat, hc.k6, hc.r5, hc.r6, hc.r0, hc.r2, hc.r7, hc.r8, hc.r9, hc.r10, hc.r11, hc.r12, hc.r13, hc.r14, hc.r15, hc.r16, hc.r17, hc.r18, hc.r8_0, hc.r8_1, hc.r11_0, hc.r11_1, hc.r60_0, hc.r60_1, hc.r60_4, hc.r64_0, hc.r64_3, hc.r64_4, hc.r68_0, hc.r41_0, hc.r41_1, hc.r42_0, hc.r42_1, hc.k7, hc.k8, hc.k9, hc.k11, hc.k12, hc.k13, hc.k32, hc.k41, hc.k42, hc.k43, hc.k60, hc.k61, hc.k62, hc.k63, hc.k64, hc.k65, hc.k66, hc.k67, hc.k68, hc.k69, hc.k70, hc.k71, hc.n6, hc.n7, hc.n8, hc.n9, hc.n11, hc.n12, hc.n13, hc.n32, hc.n41, hc.n42, hc.n43, hc.n60, hc.n61, hc.n62, hc.n63, hc.n64, hc.n65, hc.n66, hc.n67, hc.n68, hc.n69, hc.n70, hc.n71, l5]
              · rw [if_neg c1]
                refine ⟨h2, ?_, f3.mo (fun a k q => Or.inl q)⟩
                refine st.trans (st2.trans (st3.trans ?_))
                have hc := hc2
                simp (disch := omega) only [Hook_rounds_120, Hook_rounds_139, Hook_rounds_151, wr_id, ix_id, okx, if_pos, if_neg, Int.toNat_of_nonneg, bak_v, bak_n, wr_b01, wr_bt, b01_or, b01_0, b01_1, lc_lt0, lc_gt0, lc_eq0, wl_wr, wr_wr, wl_id, true_and, and_true, true_or, or_true, not_true_eq_false, not_false_eq_true, nc0, nc1, nc2, nc3, nc4, nc5, nc6, nc7, nc8, nc9, nc10, nc11, nc12, nc13, nc14, nc15, nc16, nc17, nc18, nc19, nc20, nc21, nc22, nc23, nc35, nc47, nc59, nc60, nc61, nc73, nc74, nc214, nc215, nc1115, nc2230, nc3345, if_true, if_false, Int.reduceToNat, hc.k6, hc.r5, hc.r6, hc.r0, hc.r2, hc.r7, hc.r8, hc.r9, hc.r10, hc.r11, hc.r12, hc.r13, hc.r14, hc.r15, hc.r16, hc.r17, hc.r18, hc.r8_0, hc.r8_1, hc.r11_0, hc.r11_1, hc.r60_0, hc.r60_1, hc.r60_4, hc.r64_0, hc.r64_3, hc.r64_4, hc.r68_0, hc.r41_0, hc.r41_1, hc.r42_0, hc.r42_1, hc.k7, hc.k8, hc.k9, hc.k11, hc.k12, hc.k13, hc.k32, hc.k41, hc.k42, hc.k43, hc.k60, hc.k61, hc.k62, hc.k63, hc.k64, hc.k65, hc.k66, hc.k67, hc.k68, hc.k69, hc.k70, hc.k71, hc.n6, hc.n7, hc.n8, hc.n9, hc.n11, hc.n12, hc.n13, hc.n32, hc.n41, hc.n42, hc.n43, hc.n60, hc.n61, hc.n62, hc.n63, hc.n64, hc.n65, hc.n66, hc.n67, hc.n68, hc.n69, hc.n70, hc.n71, q12, q52]
          · rw [if_pos cb]
            refine ⟨h, ?_, Fr.rf⟩
            refine st.trans ?_
            by_cases cb1 : ff (wtB nb t 0 (S 2 - 1)) 0 (rm t) = -1
            · have cb2 : ¬ ff (twC nb t (rm t)) 0 (rm t) = -1 := fun q => cb (rn_iff.mpr ⟨cb1, q⟩)
              have b1 : b01 (ff (wtB nb t 0 (S 2 - 1)) 0 (rm t) = -1) = 1 := by unfold b01; rw [if_pos cb1]
              have b2 : b01 (¬ ff (twC nb t (rm t)) 0 (rm t) = -1) = 1 := by unfold b01; rw [if_pos cb2]
              rw [b1] at ew
              rw [b2] at ex
              simp (disch := omega) only [Hook_rounds_55, Hook_rounds_64, Hook_rounds_77, Hook_rounds_93, Hook_rounds_96, Hook_rounds_101, Hook_rounds_104, wr_id, ix_id, okx, if_pos, if_neg, Int.toNat_of_nonneg, bak_v, bak_n, wr_b01, wr_bt, b01_or, b01_0, b01_1, lc_lt0, lc_gt0, lc_eq0, wl_wr, wr_wr, wl_id, true_and, and_true, true_or, or_true, not_true_eq_false, not_false_eq_true, nc0, nc1, nc2, nc3, nc4, nc5, nc6, nc7, nc8, nc9, nc10, nc11, nc12, nc13, nc14, nc15, nc16, nc17, nc18, nc19, nc20, nc21, nc22, nc23, nc35, nc47, nc59, nc60, nc61, nc73, nc74, nc214, nc215, nc1115, nc2230, nc3345, if_true, if_false, Int.reduceToNat, hc.k6, hc.r5, hc.r6, hc.r0, hc.r2, hc.r7, hc.r8, hc.r9, hc.r10, hc.r11, hc.r12, hc.r13, hc.r14, hc.r15, hc.r16, hc.r17, hc.r18, hc.r8_0, hc.r8_1, hc.r11_0, hc.r11_1, hc.r60_0, hc.r60_1, hc.r60_4, hc.r64_0, hc.r64_3, hc.r64_4, hc.r68_0, hc.r41_0, hc.r41_1, hc.r42_0, hc.r42_1, hc.k7, hc.k8, hc.k9, hc.k11, hc.k12, hc.k13, hc.k32, hc.k41, hc.k42, hc.k43, hc.k60, hc.k61, hc.k62, hc.k63, hc.k64, hc.k65, hc.k66, hc.k67, hc.k68, hc.k69, hc.k70, hc.k71, hc.n6, hc.n7, hc.n8, hc.n9, hc.n11, hc.n12, hc.n13, hc.n32, hc.n41, hc.n42, hc.n43, hc.n60, hc.n61, hc.n62, hc.n63, hc.n64, hc.n65, hc.n66, hc.n67, hc.n68, hc.n69, hc.n70, hc.n71, hw.k, hw.r0, hw.r1, hw.r2, hw.r3, hw.r4, hw.k1, hw.k2, hw.k3, hw.k4, hw.k5, hw.n1, hw.n2, hw.n3, hw.n4, hw.n5, wv.f5, wv.f6, wv.f7, wv.f8, wv.f9, wv.f10, wv.f11, wv.f12, wv.f13, wv.f14, wv.pk, wv.qk, wv.hk, wv.rk, q1, q5, ew, ex]
            · have b1 : b01 (ff (wtB nb t 0 (S 2 - 1)) 0 (rm t) = -1) = 0 := by unfold b01; rw [if_neg cb1]
              rw [b1] at ew
              simp (disch := omega) only [Hook_rounds_55, Hook_rounds_64, Hook_rounds_77, Hook_rounds_93, Hook_rounds_104, wr_id, ix_id, okx, if_pos, if_neg, Int.toNat_of_nonneg, bak_v, bak_n, wr_b01, wr_bt, b01_or, b01_0, b01_1, lc_lt0, lc_gt0, lc_eq0, wl_wr, wr_wr, wl_id, true_and, and_true, true_or, or_true, not_true_eq_false, not_false_eq_true, nc0, nc1, nc2, nc3, nc4, nc5, nc6, nc7, nc8, nc9, nc10, nc11, nc12, nc13, nc14, nc15, nc16, nc17, nc18, nc19, nc20, nc21, nc22, nc23, nc35, nc47, nc59, nc60, nc61, nc73, nc74, nc214, nc215, nc1115, nc2230, nc3345, if_true, if_false, Int.reduceToNat, hc.k6, hc.r5, hc.r6, hc.r0, hc.r2, hc.r7, hc.r8, hc.r9, hc.r10, hc.r11, hc.r12, hc.r13, hc.r14, hc.r15, hc.r16, hc.r17, hc.r18, hc.r8_0, hc.r8_1, hc.r11_0, hc.r11_1, hc.r60_0, hc.r60_1, hc.r60_4, hc.r64_0, hc.r64_3, hc.r64_4, hc.r68_0, hc.r41_0, hc.r41_1, hc.r42_0, hc.r42_1, hc.k7, hc.k8, hc.k9, hc.k11, hc.k12, hc.k13, hc.k32, hc.k41, hc.k42, hc.k43, hc.k60, hc.k61, hc.k62, hc.k63, hc.k64, hc.k65, hc.k66, hc.k67, hc.k68, hc.k69, hc.k70, hc.k71, hc.n6, hc.n7, hc.n8, hc.n9, hc.n11, hc.n12, hc.n13, hc.n32, hc.n41, hc.n42, hc.n43, hc.n60, hc.n61, hc.n62, hc.n63, hc.n64, hc.n65, hc.n66, hc.n67, hc.n68, hc.n69, hc.n70, hc.n71, hw.k, hw.r0, hw.r1, hw.r2, hw.r3, hw.r4, hw.k1, hw.k2, hw.k3, hw.k4, hw.k5, hw.n1, hw.n2, hw.n3, hw.n4, hw.n5, wv.f5, wv.f6, wv.f7, wv.f8, wv.f9, wv.f10, wv.f11, wv.f12, wv.f13, wv.f14, wv.pk, wv.qk, wv.hk, wv.rk, q1, q5, ew]
        · rw [if_pos cn]
          refine ⟨h, ?_, Fr.rf⟩
          refine st.trans ?_
          by_cases c1 : rm t < 1
          · simp (disch := omega) only [Hook_rounds_55, Hook_rounds_74, wr_id, ix_id, okx, if_pos, if_neg, Int.toNat_of_nonneg, bak_v, bak_n, wr_b01, wr_bt, b01_or, b01_0, b01_1, lc_lt0, lc_gt0, lc_eq0, wl_wr, wr_wr, wl_id, true_and, and_true, true_or, or_true, not_true_eq_false, not_false_eq_true, nc0, nc1, nc2, nc3, nc4, nc5, nc6, nc7, nc8, nc9, nc10, nc11, nc12, nc13, nc14, nc15, nc16, nc17, nc18, nc19, nc20, nc21, nc22, nc23, nc35, nc47, nc59, nc60, nc61, nc73, nc74, nc214, nc215, nc1115, nc2230, nc3345, if_true, if_false, Int.reduceToNat, hc.k6, hc.r5, hc.r6, hc.r0, hc.r2, hc.r7, hc.r8, hc.r9, hc.r10, hc.r11, hc.r12, hc.r13, hc.r14, hc.r15, hc.r16, hc.r17, hc.r18, hc.r8_0, hc.r8_1, hc.r11_0, hc.r11_1, hc.r60_0, hc.r60_1, hc.r60_4, hc.r64_0, hc.r64_3, hc.r64_4, hc.r68_0, hc.r41_0, hc.r41_1, hc.r42_0, hc.r42_1, hc.k7, hc.k8, hc.k9, hc.k11, hc.k12, hc.k13, hc.k32, hc.k41, hc.k42, hc.k43, hc.k60, hc.k61, hc.k62, hc.k63, hc.k64, hc.k65, hc.k66, hc.k67, hc.k68, hc.k69, hc.k70, hc.k71, hc.n6, hc.n7, hc.n8, hc.n9, hc.n11, hc.n12, hc.n13, hc.n32, hc.n41, hc.n42, hc.n43, hc.n60, hc.n61, hc.n62, hc.n63, hc.n64, hc.n65, hc.n66, hc.n67, hc.n68, hc.n69, hc.n70, hc.n71, q1, q5]
          · simp (disch := omega) only [Hook_rounds_55, Hook_rounds_64, Hook_rounds_74, wr_id, ix_id, okx, if_pos, if_neg, Int.toNat_of_nonneg, bak_v, bak_n, wr_b01, wr_bt, b01_or, b01_0, b01_1, lc_lt0, lc_gt0, lc_eq0, wl_wr, wr_wr, wl_id, true_and, and_true, true_or, or_true, not_true_eq_false, not_false_eq_true, nc0, nc1, nc2, nc3, nc4, nc5, nc6, nc7, nc8, nc9, nc10, nc11, nc12, nc13, nc14, nc15, nc16, nc17, nc18, nc19, nc20, nc21, nc22, nc23, nc35, nc47, nc59, nc60, nc61, nc73, nc74, nc214, nc215, nc1115, nc2230, nc3345, if_true, if_false, Int.reduceToNat, hc.k6, hc.r5, hc.r6, hc.r0, hc.r2, hc.r7, hc.r8, hc.r9, hc.r10, hc.r11, hc.r12, hc.r13, hc.r14, hc.r15, hc.r16, hc.r17, hc.r18, hc.r8_0, hc.r8_1, hc.r11_0, hc.r11_1, hc.r60_0, hc.r60_1, hc.r60_4, hc.r64_0, hc.r64_3, hc.r64_4, hc.r68_0, hc.r41_0, hc.r41_1, hc.r42_0, hc.r42_1, hc.k7, hc.k8, hc.k9, hc.k11, hc.k12, hc.k13, hc.k32, hc.k41, hc.k42, hc.k43, hc.k60, hc.k61, hc.k62, hc.k63, hc.k64, hc.k65, hc.k66, hc.k67, hc.k68, hc.k69, hc.k70, hc.k71, hc.n6, hc.n7, hc.n8, hc.n9, hc.n11, hc.n12, hc.n13, hc.n32, hc.n41, hc.n42, hc.n43, hc.n60, hc.n61, hc.n62, hc.n63, hc.n64, hc.n65, hc.n66, hc.n67, hc.n68, hc.n69, hc.n70, hc.n71, q1, q5]
    · have en : noT rs t = -2 := by unfold noT; rw [if_pos ht]
      have eb : b01 (0 ≤ t ∧ t < 4) = 0 := by unfold b01; rw [if_neg ht]
      rw [en]
      refine ⟨h, ?_, Fr.rf⟩
      rw [if_pos (by omega), eu (d + 4)]
      simp (disch := omega) only [Hook_rounds_17, Hook_rounds_22, Hook_rounds_33, wr_id, ix_id, okx, if_pos, if_neg, Int.toNat_of_nonneg, bak_v, bak_n, wr_b01, wr_bt, b01_or, b01_0, b01_1, lc_lt0, lc_gt0, lc_eq0, wl_wr, wr_wr, wl_id, true_and, and_true, true_or, or_true, not_true_eq_false, not_false_eq_true, nc0, nc1, nc2, nc3, nc4, nc5, nc6, nc7, nc8, nc9, nc10, nc11, nc12, nc13, nc14, nc15, nc16, nc17, nc18, nc19, nc20, nc21, nc22, nc23, nc35, nc47, nc59, nc60, nc61, nc73, nc74, nc214, nc215, nc1115, nc2230, nc3345, if_true, if_false, Int.reduceToNat, c_isTray, eb]
  · rw [if_pos cu]
    refine ⟨h, ?_, Fr.rf⟩
    have eb2 : b01 (10 ≤ u ∧ u ≤ 17) = 0 := by unfold b01; rw [if_neg (by omega)]
    rw [eu (d + 4)]
    by_cases ht : 0 ≤ t ∧ t < 4
    · have eb : b01 (0 ≤ t ∧ t < 4) = 1 := by unfold b01; rw [if_pos ht]
      simp (disch := omega) only [Hook_rounds_17, Hook_rounds_22, Hook_rounds_25, Hook_rounds_29, Hook_rounds_33, wr_id, ix_id, okx, if_pos, if_neg, Int.toNat_of_nonneg, bak_v, bak_n, wr_b01, wr_bt, b01_or, b01_0, b01_1, lc_lt0, lc_gt0, lc_eq0, wl_wr, wr_wr, wl_id, true_and, and_true, true_or, or_true, not_true_eq_false, not_false_eq_true, nc0, nc1, nc2, nc3, nc4, nc5, nc6, nc7, nc8, nc9, nc10, nc11, nc12, nc13, nc14, nc15, nc16, nc17, nc18, nc19, nc20, nc21, nc22, nc23, nc35, nc47, nc59, nc60, nc61, nc73, nc74, nc214, nc215, nc1115, nc2230, nc3345, if_true, if_false, Int.reduceToNat, c_isTray, eb, eb2]
    · have eb : b01 (0 ≤ t ∧ t < 4) = 0 := by unfold b01; rw [if_neg ht]
      simp (disch := omega) only [Hook_rounds_17, Hook_rounds_22, Hook_rounds_33, wr_id, ix_id, okx, if_pos, if_neg, Int.toNat_of_nonneg, bak_v, bak_n, wr_b01, wr_bt, b01_or, b01_0, b01_1, lc_lt0, lc_gt0, lc_eq0, wl_wr, wr_wr, wl_id, true_and, and_true, true_or, or_true, not_true_eq_false, not_false_eq_true, nc0, nc1, nc2, nc3, nc4, nc5, nc6, nc7, nc8, nc9, nc10, nc11, nc12, nc13, nc14, nc15, nc16, nc17, nc18, nc19, nc20, nc21, nc22, nc23, nc35, nc47, nc59, nc60, nc61, nc73, nc74, nc214, nc215, nc1115, nc2230, nc3345, if_true, if_false, Int.reduceToNat, c_isTray, eb]
