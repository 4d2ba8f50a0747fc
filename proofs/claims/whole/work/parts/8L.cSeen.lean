/-! the class's calls: seen, sure -/
def rIA (S nb : Int → Int) (t M x T : Int) : Int := if T = 0 then -8 else if M = 0 then -1 else if ff (fun r => decide (trW S nb t M x r = T)) 0 (S 2) = -1 then (if sm (trW S nb t M x) 0 (S 2) = 0 then -1 else -8) else ff (fun r => decide (trW S nb t M x r = T)) 0 (S 2)
theorem c_rIA_l {d w t : Nat} {h : Hp} {S rs rm nb : Int → Int} (q : SQ S rm nb t) {M x T : Int} (hM : 1 ≤ M ∧ M ≤ 12) (hx : 0 ≤ x ∧ x < S 1) (hT : T = Cw S nb t M (-1) (-1)) (ws : WS h w t S rs rm nb) (v1 : TCw h S nb t M (-1) (S 2 - 1)) (v2 : ∀ r, 0 ≤ r → r < S 2 → rwS h 1728 M x r (fun m => Aw S nb t m x r)) : ∀ r, 0 ≤ r → r ≤ 12 → ∀ j, 0 ≤ j → j + sm (trW S nb t M x) r (S 2) ≤ T → EX (d+1) m_Watcher_ringInAll 30 [(1, .inr (.inr (w))), (2, .inl (x)), (3, .inl (T)), (4, .inl (M)), (5, .inr (.inr (70))), (6, .inl (j)), (7, .inl (r))] [] (h) = some (.inl (if ff (fun r => decide (trW S nb t M x r = T)) r (S 2) = -1 then (if j + sm (trW S nb t M x) r (S 2) = 0 then -1 else -8) else ff (fun r => decide (trW S nb t M x r = T)) r (S 2)), h) := by
  have ga := q.1.a
  have gb := q.1.b
  have hw := ws.1.2.1
  have wv := ws.1.2
  have hc := ws.1.1.1
  have Tr : 0 ≤ T ∧ T ≤ 16777216 := by rw [hT]; exact Ctr_rng q.1 nb (-1) (-1) t M (by omega) (by omega)
  refine up_ind (hi := S 2) ?_ ?_
  · intro r hr r0 r1 j j0 j1
    rw [sm_stop hr, Int.add_zero] at j1
    rw [Watcher_ringInAll_30, ff_stop hr, sm_stop hr, Int.add_zero, if_pos rfl]
    by_cases c : j = 0
    · rw [if_pos c]
      simp (disch := omega) only [Watcher_ringInAll_76, Watcher_ringInAll_81, Watcher_ringInAll_87, wr_id, ix_id, okx, if_pos, if_neg, Int.toNat_of_nonneg, bak_v, bak_n, wr_b01, wr_bt, b01_or, b01_0, b01_1, lc_lt0, lc_gt0, lc_eq0, wl_wr, wr_wr, wl_id, true_and, and_true, true_or, or_true, not_true_eq_false, not_false_eq_true, nc0, nc1, nc2, nc3, nc4, nc5, nc6, nc7, nc8, nc9, nc10, nc11, nc12, nc13, nc14, nc15, nc16, nc17, nc18, nc19, nc20, nc21, nc22, nc23, nc35, nc47, nc59, nc60, nc61, nc73, nc74, nc214, nc215, nc1115, nc2230, nc3345, if_true, if_false, Int.reduceToNat, hw.k, hw.r0, hw.r1, hw.r2, hw.r3, hw.r4, hw.k1, hw.k2, hw.k3, hw.k4, hw.k5, hw.n1, hw.n2, hw.n3, hw.n4, hw.n5, wv.f5, wv.f6, wv.f7, wv.f8, wv.f9, wv.f10, wv.f11, wv.f12, wv.f13, wv.f14, wv.pk, wv.qk, wv.hk, wv.rk, c]
    · rw [if_neg c]
      simp (disch := omega) only [Watcher_ringInAll_76, Watcher_ringInAll_85, Watcher_ringInAll_87, wr_id, ix_id, okx, if_pos, if_neg, Int.toNat_of_nonneg, bak_v, bak_n, wr_b01, wr_bt, b01_or, b01_0, b01_1, lc_lt0, lc_gt0, lc_eq0, wl_wr, wr_wr, wl_id, true_and, and_true, true_or, or_true, not_true_eq_false, not_false_eq_true, nc0, nc1, nc2, nc3, nc4, nc5, nc6, nc7, nc8, nc9, nc10, nc11, nc12, nc13, nc14, nc15, nc16, nc17, nc18, nc19, nc20, nc21, nc22, nc23, nc35, nc47, nc59, nc60, nc61, nc73, nc74, nc214, nc215, nc1115, nc2230, nc3345, if_true, if_false, Int.reduceToNat, hw.k, hw.r0, hw.r1, hw.r2, hw.r3, hw.r4, hw.k1, hw.k2, hw.k3, hw.k4, hw.k5, hw.n1, hw.n2, hw.n3, hw.n4, hw.n5, wv.f5, wv.f6, wv.f7, wv.f8, wv.f9, wv.f10, wv.f11, wv.f12, wv.f13, wv.f14, wv.pk, wv.qk, wv.hk, wv.rk]
  · intro r hr ih r0 r1 j j0 j1
    have tn := trW_nn (S := S) (nb := nb) (t := t) (M := M) (x := x) (y := r)
    have tl := tr_one (S := S) (nb := nb) (t := t) (M := M) hx ⟨r0, hr⟩ (by omega)
    have cr := Ctr_rng q.1 nb x r t M (x := -1) (r := -1) (by omega) (by omega)
    rw [← hT] at tl
    have rv1 : rwS h 0 M x r (fun m => Mw S nb t m x r) := (v1 x r hx.1 hx.2 r0 hr).cg (fun m _ _ => by rw [if_pos (by omega)])
    have et := c_wThr (d := d) (S := S) (nb := nb) (t := t) hM (x := x) (r := r) (by omega) (by omega) hc rv1 (v2 r r0 hr)
    rw [sm_step hr] at j1 ⊢
    rw [Watcher_ringInAll_30, ff_step hr]
    by_cases c : trW S nb t M x r = T
    · rw [if_pos (show decide (trW S nb t M x r = T) = true by simp [c]), if_neg (show ¬ r = -1 by omega)]
      simp (disch := omega) only [Watcher_ringInAll_39, Watcher_ringInAll_45, Watcher_ringInAll_52, Watcher_ringInAll_60, wr_id, ix_id, okx, if_pos, if_neg, Int.toNat_of_nonneg, bak_v, bak_n, wr_b01, wr_bt, b01_or, b01_0, b01_1, lc_lt0, lc_gt0, lc_eq0, wl_wr, wr_wr, wl_id, true_and, and_true, true_or, or_true, not_true_eq_false, not_false_eq_true, nc0, nc1, nc2, nc3, nc4, nc5, nc6, nc7, nc8, nc9, nc10, nc11, nc12, nc13, nc14, nc15, nc16, nc17, nc18, nc19, nc20, nc21, nc22, nc23, nc35, nc47, nc59, nc60, nc61, nc73, nc74, nc214, nc215, nc1115, nc2230, nc3345, if_true, if_false, Int.reduceToNat, hw.k, hw.r0, hw.r1, hw.r2, hw.r3, hw.r4, hw.k1, hw.k2, hw.k3, hw.k4, hw.k5, hw.n1, hw.n2, hw.n3, hw.n4, hw.n5, wv.f5, wv.f6, wv.f7, wv.f8, wv.f9, wv.f10, wv.f11, wv.f12, wv.f13, wv.f14, wv.pk, wv.qk, wv.hk, wv.rk, c_rowOf, et]
    · rw [if_neg (show ¬ decide (trW S nb t M x r = T) = true by simp [c])]
      simp (disch := omega) only [Watcher_ringInAll_39, Watcher_ringInAll_45, Watcher_ringInAll_52, Watcher_ringInAll_63, wr_id, ix_id, okx, if_pos, if_neg, Int.toNat_of_nonneg, bak_v, bak_n, wr_b01, wr_bt, b01_or, b01_0, b01_1, lc_lt0, lc_gt0, lc_eq0, wl_wr, wr_wr, wl_id, true_and, and_true, true_or, or_true, not_true_eq_false, not_false_eq_true, nc0, nc1, nc2, nc3, nc4, nc5, nc6, nc7, nc8, nc9, nc10, nc11, nc12, nc13, nc14, nc15, nc16, nc17, nc18, nc19, nc20, nc21, nc22, nc23, nc35, nc47, nc59, nc60, nc61, nc73, nc74, nc214, nc215, nc1115, nc2230, nc3345, if_true, if_false, Int.reduceToNat, hw.k, hw.r0, hw.r1, hw.r2, hw.r3, hw.r4, hw.k1, hw.k2, hw.k3, hw.k4, hw.k5, hw.n1, hw.n2, hw.n3, hw.n4, hw.n5, wv.f5, wv.f6, wv.f7, wv.f8, wv.f9, wv.f10, wv.f11, wv.f12, wv.f13, wv.f14, wv.pk, wv.qk, wv.hk, wv.rk, c_rowOf, et]
      rw [ih (by omega) (by omega) (j + trW S nb t M x r) (by omega) (by omega), Int.add_assoc]
theorem c_ringInAll {d w t : Nat} {h : Hp} {S rs rm nb : Int → Int} (q : SQ S rm nb t) {M x : Int} (hM : 0 ≤ M ∧ M ≤ 12) (hx : 0 ≤ x ∧ x < S 1) (ws : WS h w t S rs rm nb) (hz : 1 ≤ M → TCw h S nb t M (-1) (S 2 - 1) ∧ ∀ k, 1728 ≤ k → k < 3456 → hI h 70 k = 0) : ∃ h', cal (d+5) m_Watcher_ringInAll [.inr (.inr (68)), .inr (.inr (w)), .inl (x), .inl (Cw S nb t M (-1) (-1)), .inl (M), .inr (.inr (70))] (h) = some (.inl (rIA S nb t M x (Cw S nb t M (-1) (-1))), h') ∧ Fr p17 h h' := by
  have ga := q.1.a
  have gb := q.1.b
  have hc := ws.1.1.1
  have Tr : 0 ≤ Cw S nb t M (-1) (-1) ∧ Cw S nb t M (-1) (-1) ≤ 16777216 := Ctr_rng q.1 nb (-1) (-1) t M (by omega) (by omega)
  unfold rIA
  by_cases c0 : Cw S nb t M (-1) (-1) = 0
  · refine ⟨h, ?_, Fr.rf⟩
    rw [if_pos c0, c0]
    show EX (d+4) m_Watcher_ringInAll 0 [(0, .inr (.inr (68))), (1, .inr (.inr (w))), (2, .inl (x)), (3, .inl (0)), (4, .inl (M)), (5, .inr (.inr (70)))] [] (h) = _
    simp (disch := omega) only [Watcher_ringInAll_0, Watcher_ringInAll_4, wr_id, ix_id, okx, if_pos, if_neg, Int.toNat_of_nonneg, bak_v, bak_n, wr_b01, wr_bt, b01_or, b01_0, b01_1, lc_lt0, lc_gt0, lc_eq0, wl_wr, wr_wr, wl_id, true_and, and_true, true_or, or_true, not_true_eq_false, not_false_eq_true, nc0, nc1, nc2, nc3, nc4, nc5, nc6, nc7, nc8, nc9, nc10, nc11, nc12, nc13, nc14, nc15, nc16, nc17, nc18, nc19, nc20, nc21, nc22, nc23, nc35, nc47, nc59, nc60, nc61, nc73, nc74, nc214, nc215, nc1115, nc2230, nc3345, if_true, if_false, Int.reduceToNat]
  · rw [if_neg c0]
    by_cases c1 : M = 0
    · refine ⟨h, ?_, Fr.rf⟩
      rw [if_pos c1]
      show EX (d+4) m_Watcher_ringInAll 0 [(0, .inr (.inr (68))), (1, .inr (.inr (w))), (2, .inl (x)), (3, .inl (Cw S nb t M (-1) (-1))), (4, .inl (M)), (5, .inr (.inr (70)))] [] (h) = _
      simp (disch := omega) only [Watcher_ringInAll_0, Watcher_ringInAll_7, Watcher_ringInAll_12, wr_id, ix_id, okx, if_pos, if_neg, Int.toNat_of_nonneg, bak_v, bak_n, wr_b01, wr_bt, b01_or, b01_0, b01_1, lc_lt0, lc_gt0, lc_eq0, wl_wr, wr_wr, wl_id, true_and, and_true, true_or, or_true, not_true_eq_false, not_false_eq_true, nc0, nc1, nc2, nc3, nc4, nc5, nc6, nc7, nc8, nc9, nc10, nc11, nc12, nc13, nc14, nc15, nc16, nc17, nc18, nc19, nc20, nc21, nc22, nc23, nc35, nc47, nc59, nc60, nc61, nc73, nc74, nc214, nc215, nc1115, nc2230, nc3345, if_true, if_false, Int.reduceToNat]
    · rw [if_neg c1]
      obtain ⟨z1, z2⟩ := hz (by omega)
      obtain ⟨h1, e1, k1, f1⟩ := c_wAhead (d := d) (w := w) (rs := rs) q (M := M) (by omega) hx ws z2
      have ws1 := ws.fr f1 p17.ge p17.n8
      have v1 : TCw h1 S nb t M (-1) (S 2 - 1) := fun y s y0 y1 s0 s1 m m0 m1 => by
        rw [f1.I (by unfold p17; omega)]
        exact z1 y s y0 y1 s0 s1 m m0 m1
      have ta := tr_all (S := S) (nb := nb) (t := t) (M := M) hx (by omega)
      have cr := Ctr_rng q.1 nb x (-1) t M (x := -1) (r := -1) (by omega) (by omega)
      have e2 := c_rIA_l (d := d + 3) (T := Cw S nb t M (-1) (-1)) q (M := M) (by omega) hx rfl ws1 v1 k1 0 (by omega) (by omega) 0 (by omega) (by omega)
      rw [Int.zero_add] at e2
      refine ⟨h1, ?_, f1⟩
      show EX (d+4) m_Watcher_ringInAll 0 [(0, .inr (.inr (68))), (1, .inr (.inr (w))), (2, .inl (x)), (3, .inl (Cw S nb t M (-1) (-1))), (4, .inl (M)), (5, .inr (.inr (70)))] [] (h) = _
      simp (disch := omega) only [Watcher_ringInAll_0, Watcher_ringInAll_7, Watcher_ringInAll_14, Watcher_ringInAll_24, wr_id, ix_id, okx, if_pos, if_neg, Int.toNat_of_nonneg, bak_v, bak_n, wr_b01, wr_bt, b01_or, b01_0, b01_1, lc_lt0, lc_gt0, lc_eq0, wl_wr, wr_wr, wl_id, true_and, and_true, true_or, or_true, not_true_eq_false, not_false_eq_true, nc0, nc1, nc2, nc3, nc4, nc5, nc6, nc7, nc8, nc9, nc10, nc11, nc12, nc13, nc14, nc15, nc16, nc17, nc18, nc19, nc20, nc21, nc22, nc23, nc35, nc47, nc59, nc60, nc61, nc73, nc74, nc214, nc215, nc1115, nc2230, nc3345, if_true, if_false, Int.reduceToNat, hc.k6, hc.r5, hc.r6, hc.r0, hc.r2, hc.r7, hc.r8, hc.r9, hc.r10, hc.r11, hc.r12, hc.r13, hc.r14, hc.r15, hc.r16, hc.r17, hc.r18, hc.r8_0, hc.r8_1, hc.r11_0, hc.r11_1, hc.r60_0, hc.r60_1, hc.r60_4, hc.r64_0, hc.r64_3, hc.r64_4, hc.r68_0, hc.r41_0, hc.r41_1, hc.r42_0, hc.r42_1, hc.k7, hc.k8, hc.k9, hc.k11, hc.k12, hc.k13, hc.k32, hc.k41, hc.k42, hc.k43, hc.k60, hc.k61, hc.k62, hc.k63, hc.k64, hc.k65, hc.k66, hc.k67, hc.k68, hc.k69, hc.k70, hc.k71, hc.n6, hc.n7, hc.n8, hc.n9, hc.n11, hc.n12, hc.n13, hc.n32, hc.n41, hc.n42, hc.n43, hc.n60, hc.n61, hc.n62, hc.n63, hc.n64, hc.n65, hc.n66, hc.n67, hc.n68, hc.n69, hc.n70, hc.n71, e1]
      exact e2
theorem rIA_eq {S nb : Int → Int} {t M x : Int} (hx : 0 ≤ x ∧ x < S 1) (hM : 0 ≤ M) : rIA S nb t M x (Cw S nb t M (-1) (-1)) = (if Cw S nb t M (-1) (-1) = 0 then -8 else if Ctr S nb x (-1) t M (-1) (-1) = Cw S nb t M (-1) (-1) then -1 else if ff (fun r => decide (Ctr S nb x r t M (-1) (-1) = 0)) 0 (S 2) = -1 then -8 else ff (fun r => decide (Ctr S nb x r t M (-1) (-1) = 0)) 0 (S 2)) := by
  unfold rIA
  by_cases c0 : Cw S nb t M (-1) (-1) = 0
  · rw [if_pos c0, if_pos c0]
  · rw [if_neg c0, if_neg c0]
    have ta := tr_all (S := S) (nb := nb) (t := t) (M := M) hx hM
    by_cases c1 : M = 0
    · rw [if_pos c1]
      have : sm (trW S nb t M x) 0 (S 2) = 0 := sm_0 0 (fun y _ _ => sm_stop (by omega))
      rw [if_pos (by omega)]
    · rw [if_neg c1]
      have fe : ff (fun r => decide (Ctr S nb x r t M (-1) (-1) = 0)) 0 (S 2) = ff (fun r => decide (trW S nb t M x r = Cw S nb t M (-1) (-1))) 0 (S 2) := ff_congr 0 (fun r r0 r1 => by
        have := tr_one (S := S) (nb := nb) (t := t) (M := M) hx ⟨r0, r1⟩ hM
        by_cases c : Ctr S nb x r t M (-1) (-1) = 0
        · rw [decide_eq_true c, decide_eq_true (by omega)]
        · rw [decide_eq_false c, decide_eq_false (by omega)])
      rw [fe]
      by_cases c2 : sm (trW S nb t M x) 0 (S 2) = 0
      · have z : ∀ r, 0 ≤ r → r < S 2 → trW S nb t M x r = 0 := fun r r0 r1 => sm_z 0 (fun y _ _ => trW_nn) c2 r r0 r1
        have fn : ff (fun r => decide (trW S nb t M x r = Cw S nb t M (-1) (-1))) 0 (S 2) = -1 := ff_nil (fun r r0 r1 => by
          rw [z r r0 r1]
          exact decide_eq_false (by omega))
        rw [if_pos fn, if_pos c2, if_pos (by omega)]
      · rw [if_neg c2, if_neg (show ¬ Ctr S nb x (-1) t M (-1) (-1) = Cw S nb t M (-1) (-1) by omega)]
/-! the least of a tray; sightCode -/
def lsT (nb : Int → Int) (t i N m : Int) : Int := fo (fun k m => if nb (40 * t + k) < m then nb (40 * t + k) else m) i N m
theorem lsT_iff {nb : Int → Int} {t N : Int} : ∀ i, 0 ≤ i → ∀ m, (lsT nb t i N m < -2 ↔ (m < -2 ∨ ¬ ff (fun k => decide (nb (40 * t + k) < -2)) i N = -1)) := by
  refine up_ind (hi := N) ?_ ?_
  · intro i hi i0 m
    unfold lsT
    rw [fo_stop hi, ff_stop hi]
    simp
  · intro i hi ih i0 m
    have e : lsT nb t i N m = lsT nb t (i + 1) N (if nb (40 * t + i) < m then nb (40 * t + i) else m) := fo_step hi
    rw [e, ih (by omega), ff_step hi]
    by_cases c : nb (40 * t + i) < -2
    · rw [if_pos (show decide (nb (40 * t + i) < -2) = true by simp [c])]
      constructor
      · intro _; exact Or.inr (by omega)
      · intro _; left; split <;> omega
    · rw [if_neg (show ¬ decide (nb (40 * t + i) < -2) = true by simp [c])]
      constructor
      · rintro (z | z)
        · left
          split at z <;> omega
        · exact Or.inr z
      · rintro (z | z)
        · left
          split <;> omega
        · exact Or.inr z
theorem lsT_rng {nb : Int → Int} {t N : Int} (hn : ∀ k, -9223372036854775808 ≤ nb k ∧ nb k ≤ 9223372036854775807) {m : Int} (hm : -9223372036854775808 ≤ m ∧ m ≤ 0) (i : Int) : -9223372036854775808 ≤ lsT nb t i N m ∧ lsT nb t i N m ≤ 0 := fo_inv (P := fun m => -9223372036854775808 ≤ m ∧ m ≤ 0) i (fun j m _ _ hm => by
  have := hn (40 * t + j)
  split <;> omega) m hm
theorem c_least_l {d w t : Nat} {h : Hp} {rs rm nb : Int → Int} (y : TY h w t rs rm nb) : ∀ k, 0 ≤ k → k ≤ 40 → ∀ m, (-9223372036854775808 ≤ m ∧ m ≤ 0) → EX (d+1) m_Tray_least 4 [(0, .inr (.inr (33 + 2 * t))), (1, .inr (.inl (m))), (3, .inl (k))] [] (h) = some (.inr (.inl (lsT nb t k (rm t) m)), h) := by
  obtain ⟨k1, k2, k3, k4, k5, k6⟩ := y.cells
  refine up_ind (hi := rm t) ?_ ?_
  · intro k hk h0 h1 m hm
    unfold lsT
    rw [Tray_least_4, fo_stop hk]
    simp (disch := omega) only [Tray_least_29, wr_id, ix_id, okx, if_pos, if_neg, Int.toNat_of_nonneg, bak_v, bak_n, wr_b01, wr_bt, b01_or, b01_0, b01_1, lc_lt0, lc_gt0, lc_eq0, wl_wr, wr_wr, wl_id, true_and, and_true, true_or, or_true, not_true_eq_false, not_false_eq_true, nc0, nc1, nc2, nc3, nc4, nc5, nc6, nc7, nc8, nc9, nc10, nc11, nc12, nc13, nc14, nc15, nc16, nc17, nc18, nc19, nc20, nc21, nc22, nc23, nc35, nc47, nc59, nc60, nc61, nc73, nc74, nc214, nc215, nc1115, nc2230, nc3345, if_true, if_false, Int.reduceToNat, k1, k5]
  · intro k hk ih h0 h1 m hm
    have v3 := ((y.2.1 t y.2.2.2.1).2 y.2.2.2.2).2.2 k.toNat (by omega)
    rw [Int.toNat_of_nonneg h0] at v3
    have nr := y.2.2.1.2 (40 * t + k)
    have e : lsT nb t k (rm t) m = lsT nb t (k + 1) (rm t) (if nb (40 * t + k) < m then nb (40 * t + k) else m) := fo_step hk
    have i2 := ih (by omega) (by omega) (if nb (40 * t + k) < m then nb (40 * t + k) else m) (by split <;> omega)
    rw [Tray_least_4, e]
    simp (disch := omega) only [Tray_least_12, Tray_least_22, wr_id, ix_id, okx, if_pos, if_neg, Int.toNat_of_nonneg, bak_v, bak_n, wr_b01, wr_bt, b01_or, b01_0, b01_1, lc_lt0, lc_gt0, lc_eq0, wl_wr, wr_wr, wl_id, true_and, and_true, true_or, or_true, not_true_eq_false, not_false_eq_true, nc0, nc1, nc2, nc3, nc4, nc5, nc6, nc7, nc8, nc9, nc10, nc11, nc12, nc13, nc14, nc15, nc16, nc17, nc18, nc19, nc20, nc21, nc22, nc23, nc35, nc47, nc59, nc60, nc61, nc73, nc74, nc214, nc215, nc1115, nc2230, nc3345, if_true, if_false, Int.reduceToNat, k1, k2, k3, k4, k5, v3, minL_s]
    exact i2
theorem c_least {d w t : Nat} {h : Hp} {rs rm nb : Int → Int} (y : TY h w t rs rm nb) : cal (d+2) m_Tray_least [.inr (.inr (33 + 2 * t))] (h) = some (.inr (.inl (lsT nb t 0 (rm t) 0)), h) := by
  show EX (d+1) m_Tray_least 0 [(0, .inr (.inr (33 + 2 * t)))] [] (h) = _
  rw [Tray_least_0]
  exact c_least_l y 0 (by omega) (by omega) 0 (by omega)
theorem c_sightCode {d w : Nat} {h : Hp} {S rs rm nb : Int → Int} (hc : CR h w) (tv : TV h rs rm nb) (tg : TG rs rm nb) (wv : WV h w S) (g : Gd S) {t : Int} (rt : -2147483648 ≤ t ∧ t ≤ 2147483647) : cal (d+3) m_Hook_sightCode [.inr (.inr (6)), .inl (t)] (h) = some (.inl (noS S rs rm nb t), h) := by
  have gb := g.b
  have hw := wv.1
  have et := c_trayCode (d := d) hc tv tg rt
  have nr := noT_rng rs t
  unfold noS
  show EX (d+2) m_Hook_sightCode 0 [(0, .inr (.inr (6))), (1, .inl (t))] [] (h) = _
  by_cases c : noT rs t = 0
  · rw [if_neg (fun q => q c)]
    obtain ⟨n1, n2⟩ := noT_0 c
    have ett : ((t.toNat : Nat) : Int) = t := Int.toNat_of_nonneg n1.1
    have y : TY h w t.toNat rs rm nb := ⟨hc, tv, tg, by omega, by rw [ett]; exact n2⟩
    obtain ⟨q1, q2, q3, q4, q5, q6⟩ := y.cells
    rw [ett] at q5 q6
    have e2 := hc.tr (t := t.toNat) (by omega)
    have el := c_least (d := d) y
    rw [ett] at el
    have eg := c_gaps (d := d + 1) wv gb
    have lr := lsT_rng (nb := nb) (t := t) (N := rm t) tg.2 (m := 0) (by omega) 0
    have li := lsT_iff (nb := nb) (t := t) (N := rm t) 0 (by omega) 0
    by_cases c2 : rm t = (if S 2 = 0 then 0 else S 2 - 1)
    · rw [if_neg (fun q => q c2)]
      rw [← c2] at eg
      have c2r : -1 ≤ rm t ∧ rm t ≤ 40 := by omega
      by_cases c3 : ff (fun k => decide (nb (40 * t + k) < -2)) 0 (rm t) = -1
      · rw [if_pos c3]
        have : ¬ lsT nb t 0 (rm t) 0 < -2 := fun z => by
          rcases li.mp z with z | z
          · omega
          · exact z c3
        simp (disch := omega) only [Hook_sightCode_0, Hook_sightCode_5, Hook_sightCode_12, Hook_sightCode_30, Hook_sightCode_36, Hook_sightCode_40, Hook_sightCode_52, Hook_sightCode_53, wr_id, ix_id, okx, if_pos, if_neg, Int.toNat_of_nonneg, bak_v, bak_n, wr_b01, wr_bt, b01_or, b01_0, b01_1, lc_lt0, lc_gt0, lc_eq0, wl_wr, wr_wr, wl_id, true_and, and_true, true_or, or_true, not_true_eq_false, not_false_eq_true, nc0, nc1, nc2, nc3, nc4, nc5, nc6, nc7, nc8, nc9, nc10, nc11, nc12, nc13, nc14, nc15, nc16, nc17, nc18, nc19, nc20, nc21, nc22, nc23, nc35, nc47, nc59, nc60, nc61, nc73, nc74, nc214, nc215, nc1115, nc2230, nc3345, if_true, if_false, Int.reduceToNat, hc.k6, hc.r5, hc.r6, hc.r0, hc.r2, hc.r7, hc.r8, hc.r9, hc.r10, hc.r11, hc.r12, hc.r13, hc.r14, hc.r15, hc.r16, hc.r17, hc.r18, hc.r8_0, hc.r8_1, hc.r11_0, hc.r11_1, hc.r60_0, hc.r60_1, hc.r60_4, hc.r64_0, hc.r64_3, hc.r64_4, hc.r68_0, hc.r41_0, hc.r41_1, hc.r42_0, hc.r42_1, hc.k7, hc.k8, hc.k9, hc.k11, hc.k12, hc.k13, hc.k32, hc.k41, hc.k42, hc.k43, hc.k60, hc.k61, hc.k62, hc.k63, hc.k64, hc.k65, hc.k66, hc.k67, hc.k68, hc.k69, hc.k70, hc.k71, hc.n6, hc.n7, hc.n8, hc.n9, hc.n11, hc.n12, hc.n13, hc.n32, hc.n41, hc.n42, hc.n43, hc.n60, hc.n61, hc.n62, hc.n63, hc.n64, hc.n65, hc.n66, hc.n67, hc.n68, hc.n69, hc.n70, hc.n71, et, c, e2, q1, q5, hw.k, eg, el]
      · rw [if_neg c3]
        have : lsT nb t 0 (rm t) 0 < -2 := li.mpr (Or.inr c3)
        simp (disch := omega) only [Hook_sightCode_0, Hook_sightCode_5, Hook_sightCode_12, Hook_sightCode_30, Hook_sightCode_36, Hook_sightCode_40, Hook_sightCode_47, Hook_sightCode_53, wr_id, ix_id, okx, if_pos, if_neg, Int.toNat_of_nonneg, bak_v, bak_n, wr_b01, wr_bt, b01_or, b01_0, b01_1, lc_lt0, lc_gt0, lc_eq0, wl_wr, wr_wr, wl_id, true_and, and_true, true_or, or_true, not_true_eq_false, not_false_eq_true, nc0, nc1, nc2, nc3, nc4, nc5, nc6, nc7, nc8, nc9, nc10, nc11, nc12, nc13, nc14, nc15, nc16, nc17, nc18, nc19, nc20, nc21, nc22, nc23, nc35, nc47, nc59, nc60, nc61, nc73, nc74, nc214, nc215, nc1115, nc2230, nc3345, if_true, if_false, Int.reduceToNat, hc.k6, hc.r5, hc.r6, hc.r0, hc.r2, hc.r7, hc.r8, hc.r9, hc.r10, hc.r11, hc.r12, hc.r13, hc.r14, hc.r15, hc.r16, hc.r17, hc.r18, hc.r8_0, hc.r8_1, hc.r11_0, hc.r11_1, hc.r60_0, hc.r60_1, hc.r60_4, hc.r64_0, hc.r64_3, hc.r64_4, hc.r68_0, hc.r41_0, hc.r41_1, hc.r42_0, hc.r42_1, hc.k7, hc.k8, hc.k9, hc.k11, hc.k12, hc.k13, hc.k32, hc.k41, hc.k42, hc.k43, hc.k60, hc.k61, hc.k62, hc.k63, hc.k64, hc.k65, hc.k66, hc.k67, hc.k68, hc.k69, hc.k70, hc.k71, hc.n6, hc.n7, hc.n8, hc.n9, hc.n11, hc.n12, hc.n13, hc.n32, hc.n41, hc.n42, hc.n43, hc.n60, hc.n61, hc.n62, hc.n63, hc.n64, hc.n65, hc.n66, hc.n67, hc.n68, hc.n69, hc.n70, hc.n71, et, c, e2, q1, q5, hw.k, eg, el]
    · rw [if_pos c2]
      have gr : 0 ≤ (if S 2 = 0 then (0 : Int) else S 2 - 1) ∧ (if S 2 = 0 then (0 : Int) else S 2 - 1) ≤ 12 := by split <;> omega
      generalize (if S 2 = 0 then (0 : Int) else S 2 - 1) = gq at *
      simp (disch := omega) only [Hook_sightCode_0, Hook_sightCode_5, Hook_sightCode_12, Hook_sightCode_30, Hook_sightCode_33, wr_id, ix_id, okx, if_pos, if_neg, Int.toNat_of_nonneg, bak_v, bak_n, wr_b01, wr_bt, b01_or, b01_0, b01_1, lc_lt0, lc_gt0, lc_eq0, wl_wr, wr_wr, wl_id, true_and, and_true, true_or, or_true, not_true_eq_false, not_false_eq_true, nc0, nc1, nc2, nc3, nc4, nc5, nc6, nc7, nc8, nc9, nc10, nc11, nc12, nc13, nc14, nc15, nc16, nc17, nc18, nc19, nc20, nc21, nc22, nc23, nc35, nc47, nc59, nc60, nc61, nc73, nc74, nc214, nc215, nc1115, nc2230, nc3345, if_true, if_false, Int.reduceToNat, hc.k6, hc.r5, hc.r6, hc.r0, hc.r2, hc.r7, hc.r8, hc.r9, hc.r10, hc.r11, hc.r12, hc.r13, hc.r14, hc.r15, hc.r16, hc.r17, hc.r18, hc.r8_0, hc.r8_1, hc.r11_0, hc.r11_1, hc.r60_0, hc.r60_1, hc.r60_4, hc.r64_0, hc.r64_3, hc.r64_4, hc.r68_0, hc.r41_0, hc.r41_1, hc.r42_0, hc.r42_1, hc.k7, hc.k8, hc.k9, hc.k11, hc.k12, hc.k13, hc.k32, hc.k41, hc.k42, hc.k43, hc.k60, hc.k61, hc.k62, hc.k63, hc.k64, hc.k65, hc.k66, hc.k67, hc.k68, hc.k69, hc.k70, hc.k71, hc.n6, hc.n7, hc.n8, hc.n9, hc.n11, hc.n12, hc.n13, hc.n32, hc.n41, hc.n42, hc.n43, hc.n60, hc.n61, hc.n62, hc.n63, hc.n64, hc.n65, hc.n66, hc.n67, hc.n68, hc.n69, hc.n70, hc.n71, et, c, e2, q1, q5, hw.k, eg]
  · rw [if_pos c]
    simp (disch := omega) only [Hook_sightCode_0, Hook_sightCode_5, Hook_sightCode_10, wr_id, ix_id, okx, if_pos, if_neg, Int.toNat_of_nonneg, bak_v, bak_n, wr_b01, wr_bt, b01_or, b01_0, b01_1, lc_lt0, lc_gt0, lc_eq0, wl_wr, wr_wr, wl_id, true_and, and_true, true_or, or_true, not_true_eq_false, not_false_eq_true, nc0, nc1, nc2, nc3, nc4, nc5, nc6, nc7, nc8, nc9, nc10, nc11, nc12, nc13, nc14, nc15, nc16, nc17, nc18, nc19, nc20, nc21, nc22, nc23, nc35, nc47, nc59, nc60, nc61, nc73, nc74, nc214, nc215, nc1115, nc2230, nc3345, if_true, if_false, Int.reduceToNat, hc.k6, hc.r5, hc.r6, hc.r0, hc.r2, hc.r7, hc.r8, hc.r9, hc.r10, hc.r11, hc.r12, hc.r13, hc.r14, hc.r15, hc.r16, hc.r17, hc.r18, hc.r8_0, hc.r8_1, hc.r11_0, hc.r11_1, hc.r60_0, hc.r60_1, hc.r60_4, hc.r64_0, hc.r64_3, hc.r64_4, hc.r68_0, hc.r41_0, hc.r41_1, hc.r42_0, hc.r42_1, hc.k7, hc.k8, hc.k9, hc.k11, hc.k12, hc.k13, hc.k32, hc.k41, hc.k42, hc.k43, hc.k60, hc.k61, hc.k62, hc.k63, hc.k64, hc.k65, hc.k66, hc.k67, hc.k68, hc.k69, hc.k70, hc.k71, hc.n6, hc.n7, hc.n8, hc.n9, hc.n11, hc.n12, hc.n13, hc.n32, hc.n41, hc.n42, hc.n43, hc.n60, hc.n61, hc.n62, hc.n63, hc.n64, hc.n65, hc.n66, hc.n67, hc.n68, hc.n69, hc.n70, hc.n71, et]
theorem JN.fr2 {h h' : Hp} {S : Int → Int} (j : JN h S) {p : Nat → Nat → Prop} (f : Fr p h h') (hp : ∀ a k, p a k → ¬ (60 ≤ a ∧ a ≤ 63)) : JN h' S :=
  ⟨fun y s y0 y1 s0 s1 m m0 m1 => by rw [f.I (fun q => hp _ _ q (by omega))]; exact j.1 y s y0 y1 s0 s1 m m0 m1, fun m m0 m1 => by rw [f.I (fun q => hp _ _ q (by omega))]; exact j.2.1 m m0 m1, by rw [f.I (fun q => hp _ _ q (by omega))]; exact j.2.2⟩
theorem EK.fr {h h' : Hp} {S : Int → Int} (j : EK h S) {p : Nat → Nat → Prop} (f : Fr p h h') (hp : ∀ a k, p a k → ¬ (60 ≤ a ∧ a ≤ 63)) : EK h' S :=
  ⟨fun z hz => by rw [f.I (fun q => hp _ _ q (by omega))]; exact j.1 z hz, by rw [f.I (fun q => hp _ _ q (by omega))]; exact j.2.1, by rw [f.I (fun q => hp _ _ q (by omega))]; exact j.2.2⟩
theorem KJ.fr {h h' : Hp} {S : Int → Int} (j : KJ h S) {p : Nat → Nat → Prop} (f : Fr p h h') (hp : ∀ a k, p a k → ¬ (60 ≤ a ∧ a ≤ 63)) : KJ h' S := by
  have e3 : hI h' 60 3 = hI h 60 3 := f.I (fun q => hp _ _ q (by omega))
  have e7 : hI h' 60 7 = hI h 60 7 := f.I (fun q => hp _ _ q (by omega))
  refine ⟨?_, ?_⟩
  · rcases j.1 with c | ⟨c, k⟩
    · exact Or.inl (e3.trans c)
    · exact Or.inr ⟨e3.trans c, k.fr2 f hp⟩
  · rcases j.2 with c | ⟨c, k⟩
    · exact Or.inl (e7.trans c)
    · exact Or.inr ⟨e7.trans c, k.fr f hp⟩
def pSn (a k : Nat) : Prop := pJ a k ∨ pFi a k
theorem cc_seen {d w : Nat} {h : Hp} {S rs rm nb : Int → Int} (g : Gd S) (jw : JW h w S) (kj : KJ h S) (tv : TV h rs rm nb) (tg : TG rs rm nb) {t : Int} (rt : -2147483648 ≤ t ∧ t ≤ 2147483647) : ∃ h', cal (d+6) m_Hook_seen [.inr (.inr (6)), .inl (t)] (h) = some (.inr (.inl (ansSeen S rs rm nb t)), h') ∧ KJ h' S ∧ Fr pSn h h' := by
  have hc := jw.1
  have ga := g.a
  have gb := g.b
  have es := c_sightCode (d := d + 2) hc tv tg jw.2 g rt
  have nr := noS_rng S rs rm nb t
  have fs := fullN_spec S
  unfold ansSeen
  by_cases c : noS S rs rm nb t = 0
  · rw [if_neg (fun q => q c)]
    obtain ⟨n1, n2, n3⟩ := noS_0 c
    have ett : ((t.toNat : Nat) : Int) = t := Int.toNat_of_nonneg n1.1.1
    obtain ⟨h1, e1, j1, jn1, f1⟩ := c_countFor (d := d + 2) g jw kj.1
    have jw1 := jw.fr f1 (fun a k q => by unfold pJ at q; omega)
    have hc1 := jw1.1
    have y1 : RW h1 w t.toNat S rs rm nb := ⟨⟨hc1, tv.fr f1 (fun a k q1 q2 q3 => by unfold pJ at q3; omega), tg, by omega, by rw [ett]; exact n1.2⟩, jw1.2⟩
    have q : SQ S rm nb t.toNat := ⟨g, by rw [ett]; exact n2, by rw [ett]; exact n3⟩
    obtain ⟨h2, e2, sv2, tc2, f2⟩ := c_countFits (d := d) q (M := fullN S) (by omega) y1
    rw [ett] at e2
    have kj1 := kj.pj f1 j1 jn1
    have e3 := hc1.tr (t := t.toNat) (by omega)
    have rg : 0 ≤ Cw S nb t (fullN S) (-1) (-1) ∧ Cw S nb t (fullN S) (-1) (-1) ≤ 16777216 := Ctr_rng g nb (-1) (-1) t (fullN S) (by omega) (by omega)
    refine ⟨h2, ?_, ?_, (f1.mo (fun a k z => Or.inl z)).tr (f2.mo (fun a k z => Or.inr z))⟩
    · show EX (d+5) m_Hook_seen 0 [(0, .inr (.inr (6))), (1, .inl (t))] [] (h) = _
      simp (disch := omega) only [Hook_seen_0, Hook_seen_5, Hook_seen_13, wr_id, ix_id, okx, if_pos, if_neg, Int.toNat_of_nonneg, bak_v, bak_n, wr_b01, wr_bt, b01_or, b01_0, b01_1, lc_lt0, lc_gt0, lc_eq0, wl_wr, wr_wr, wl_id, true_and, and_true, true_or, or_true, not_true_eq_false, not_false_eq_true, nc0, nc1, nc2, nc3, nc4, nc5, nc6, nc7, nc8, nc9, nc10, nc11, nc12, nc13, nc14, nc15, nc16, nc17, nc18, nc19, nc20, nc21, nc22, nc23, nc35, nc47, nc59, nc60, nc61, nc73, nc74, nc214, nc215, nc1115, nc2230, nc3345, if_true, if_false, Int.reduceToNat, hc.k6, hc.r5, hc.r6, hc.r0, hc.r2, hc.r7, hc.r8, hc.r9, hc.r10, hc.r11, hc.r12, hc.r13, hc.r14, hc.r15, hc.r16, hc.r17, hc.r18, hc.r8_0, hc.r8_1, hc.r11_0, hc.r11_1, hc.r60_0, hc.r60_1, hc.r60_4, hc.r64_0, hc.r64_3, hc.r64_4, hc.r68_0, hc.r41_0, hc.r41_1, hc.r42_0, hc.r42_1, hc.k7, hc.k8, hc.k9, hc.k11, hc.k12, hc.k13, hc.k32, hc.k41, hc.k42, hc.k43, hc.k60, hc.k61, hc.k62, hc.k63, hc.k64, hc.k65, hc.k66, hc.k67, hc.k68, hc.k69, hc.k70, hc.k71, hc.n6, hc.n7, hc.n8, hc.n9, hc.n11, hc.n12, hc.n13, hc.n32, hc.n41, hc.n42, hc.n43, hc.n60, hc.n61, hc.n62, hc.n63, hc.n64, hc.n65, hc.n66, hc.n67, hc.n68, hc.n69, hc.n70, hc.n71, es, c, e1]
      have hc := hc1
      simp (disch := omega) only [Hook_seen_24, Hook_seen_52, wr_id, ix_id, okx, if_pos, if_neg, Int.toNat_of_nonneg, bak_v, bak_n, wr_b01, wr_bt, b01_or, b01_0, b01_1, lc_lt0, lc_gt0, lc_eq0, wl_wr, wr_wr, wl_id, true_and, and_true, true_or, or_true, not_true_eq_false, not_false_eq_true, nc0, nc1, nc2, nc3, nc4, nc5, nc6, nc7, nc8, nc9, nc10, nc11, nc12, nc13, nc14, nc15, nc16, nc17, nc18, nc19, nc20, nc21, nc22, nc23, nc35, nc47, nc59, nc60, nc61, nc73, nc74, nc214, nc215, nc1115, nc2230, nc3345, if_true, if_false, Int.reduceToNat, hc.k6, hc.r5, hc.r6, hc.r0, hc.r2, hc.r7, hc.r8, hc.r9, hc.r10, hc.r11, hc.r12, hc.r13, hc.r14, hc.r15, hc.r16, hc.r17, hc.r18, hc.r8_0, hc.r8_1, hc.r11_0, hc.r11_1, hc.r60_0, hc.r60_1, hc.r60_4, hc.r64_0, hc.r64_3, hc.r64_4, hc.r68_0, hc.r41_0, hc.r41_1, hc.r42_0, hc.r42_1, hc.k7, hc.k8, hc.k9, hc.k11, hc.k12, hc.k13, hc.k32, hc.k41, hc.k42, hc.k43, hc.k60, hc.k61, hc.k62, hc.k63, hc.k64, hc.k65, hc.k66, hc.k67, hc.k68, hc.k69, hc.k70, hc.k71, hc.n6, hc.n7, hc.n8, hc.n9, hc.n11, hc.n12, hc.n13, hc.n32, hc.n41, hc.n42, hc.n43, hc.n60, hc.n61, hc.n62, hc.n63, hc.n64, hc.n65, hc.n66, hc.n67, hc.n68, hc.n69, hc.n70, hc.n71, e3, jn1.2.2, e2]
      rfl
    · refine KJ.fr kj1 f2 (fun a k z => ?_)
      unfold pFi p68 at z
      omega
  · rw [if_pos c]
    refine ⟨h, ?_, kj, Fr.rf⟩
    show EX (d+5) m_Hook_seen 0 [(0, .inr (.inr (6))), (1, .inl (t))] [] (h) = _
    simp (disch := omega) only [Hook_seen_0, Hook_seen_5, Hook_seen_10, wr_id, ix_id, okx, if_pos, if_neg, Int.toNat_of_nonneg, bak_v, bak_n, wr_b01, wr_bt, b01_or, b01_0, b01_1, lc_lt0, lc_gt0, lc_eq0, wl_wr, wr_wr, wl_id, true_and, and_true, true_or, or_true, not_true_eq_false, not_false_eq_true, nc0, nc1, nc2, nc3, nc4, nc5, nc6, nc7, nc8, nc9, nc10, nc11, nc12, nc13, nc14, nc15, nc16, nc17, nc18, nc19, nc20, nc21, nc22, nc23, nc35, nc47, nc59, nc60, nc61, nc73, nc74, nc214, nc215, nc1115, nc2230, nc3345, if_true, if_false, Int.reduceToNat, hc.k6, hc.r5, hc.r6, hc.r0, hc.r2, hc.r7, hc.r8, hc.r9, hc.r10, hc.r11, hc.r12, hc.r13, hc.r14, hc.r15, hc.r16, hc.r17, hc.r18, hc.r8_0, hc.r8_1, hc.r11_0, hc.r11_1, hc.r60_0, hc.r60_1, hc.r60_4, hc.r64_0, hc.r64_3, hc.r64_4, hc.r68_0, hc.r41_0, hc.r41_1, hc.r42_0, hc.r42_1, hc.k7, hc.k8, hc.k9, hc.k11, hc.k12, hc.k13, hc.k32, hc.k41, hc.k42, hc.k43, hc.k60, hc.k61, hc.k62, hc.k63, hc.k64, hc.k65, hc.k66, hc.k67, hc.k68, hc.k69, hc.k70, hc.k71, hc.n6, hc.n7, hc.n8, hc.n9, hc.n11, hc.n12, hc.n13, hc.n32, hc.n41, hc.n42, hc.n43, hc.n60, hc.n61, hc.n62, hc.n63, hc.n64, hc.n65, hc.n66, hc.n67, hc.n68, hc.n69, hc.n70, hc.n71, es]
theorem cc_sure {d w : Nat} {h : Hp} {S rs rm nb : Int → Int} (g : Gd S) (jw : JW h w S) (kj : KJ h S) (tv : TV h rs rm nb) (tg : TG rs rm nb) {t x : Int} (rt : -2147483648 ≤ t ∧ t ≤ 2147483647) (rx : -2147483648 ≤ x ∧ x ≤ 2147483647) : ∃ h', cal (d+6) m_Hook_sure [.inr (.inr (6)), .inl (t), .inl (x)] (h) = some (.inl (ansSure S rs rm nb t x), h') ∧ KJ h' S ∧ Fr pSn h h' := by
  have hc := jw.1
  have hw := jw.2.1
  have ga := g.a
  have gb := g.b
  have es := c_sightCode (d := d + 2) hc tv tg jw.2 g rt
  have eh := c_isHook (d := d + 4) jw.2 ga rx
  have nr := noS_rng S rs rm nb t
  have fs := fullN_spec S
  by_cases cx : 0 ≤ x ∧ x < S 1
  · have b1 : b01 (0 ≤ x ∧ x < S 1) = 1 := by unfold b01; rw [if_pos cx]
    rw [b1] at eh
    by_cases c : noS S rs rm nb t = 0
    · obtain ⟨n1, n2, n3⟩ := noS_0 c
      have ett : ((t.toNat : Nat) : Int) = t := Int.toNat_of_nonneg n1.1.1
      obtain ⟨h1, e1, j1, jn1, f1⟩ := c_countFor (d := d + 2) g jw kj.1
      have jw1 := jw.fr f1 (fun a k q => by unfold pJ at q; omega)
      have hc1 := jw1.1
      have y1 : RW h1 w t.toNat S rs rm nb := ⟨⟨hc1, tv.fr f1 (fun a k q1 q2 q3 => by unfold pJ at q3; omega), tg, by omega, by rw [ett]; exact n1.2⟩, jw1.2⟩
      have q : SQ S rm nb t.toNat := ⟨g, by rw [ett]; exact n2, by rw [ett]; exact n3⟩
      obtain ⟨h2, e2, sv2, tc2, f2⟩ := c_countFits (d := d) q (M := fullN S) (by omega) y1
      have ws2 : WS h2 w t.toNat S rs rm nb := ⟨y1.fr f2 (fun a k z => by unfold pFi p68 at z; omega), sv2⟩
      have hc2 := ws2.1.1.1
      obtain ⟨h3, e3, f3⟩ := c_ringInAll (d := d) q (M := fullN S) (x := x) (by omega) cx ws2 tc2
      rw [ett] at e2 e3
      have kj1 := kj.pj f1 j1 jn1
      have kj2 : KJ h2 S := KJ.fr kj1 f2 (fun a k z => by unfold pFi p68 at z; omega)
      have kj3 : KJ h3 S := KJ.fr kj2 f3 (fun a k z => by unfold p17 at z; omega)
      have e4 := hc1.tr (t := t.toNat) (by omega)
      have e60 : hI h2 60 2 = fullN S := by rw [f2.I (by unfold pFi p68; omega)]; exact jn1.2.2
      refine ⟨h3, ?_, kj3, ((f1.mo (fun a k z => Or.inl z)).tr (f2.mo (fun a k z => Or.inr z))).tr (f3.mo (fun a k z => Or.inr (Or.inl z.1)))⟩
      have an : ansSure S rs rm nb t x = rIA S nb t (fullN S) x (Cw S nb t (fullN S) (-1) (-1)) := by
        rw [rIA_eq cx (by omega)]
        unfold ansSure
        rw [if_neg (by omega), if_neg (fun q => q c)]
        rfl
      rw [an]
      show EX (d+5) m_Hook_sure 0 [(0, .inr (.inr (6))), (1, .inl (t)), (2, .inl (x))] [] (h) = _
      simp (disch := omega) only [Hook_sure_0, Hook_sure_8, Hook_sure_14, Hook_sure_19, Hook_sure_26, wr_id, ix_id, okx, if_pos, if_neg, Int.toNat_of_nonneg, bak_v, bak_n, wr_b01, wr_bt, b01_or, b01_0, b01_1, lc_lt0, lc_gt0, lc_eq0, wl_wr, wr_wr, wl_id, true_and, and_true, true_or, or_true, not_true_eq_false, not_false_eq_true, nc0, nc1, nc2, nc3, nc4, nc5, nc6, nc7, nc8, nc9, nc10, nc11, nc12, nc13, nc14, nc15, nc16, nc17, nc18, nc19, nc20, nc21, nc22, nc23, nc35, nc47, nc59, nc60, nc61, nc73, nc74, nc214, nc215, nc1115, nc2230, nc3345, if_true, if_false, Int.reduceToNat, hc.k6, hc.r5, hc.r6, hc.r0, hc.r2, hc.r7, hc.r8, hc.r9, hc.r10, hc.r11, hc.r12, hc.r13, hc.r14, hc.r15, hc.r16, hc.r17, hc.r18, hc.r8_0, hc.r8_1, hc.r11_0, hc.r11_1, hc.r60_0, hc.r60_1, hc.r60_4, hc.r64_0, hc.r64_3, hc.r64_4, hc.r68_0, hc.r41_0, hc.r41_1, hc.r42_0, hc.r42_1, hc.k7, hc.k8, hc.k9, hc.k11, hc.k12, hc.k13, hc.k32, hc.k41, hc.k42, hc.k43, hc.k60, hc.k61, hc.k62, hc.k63, hc.k64, hc.k65, hc.k66, hc.k67, hc.k68, hc.k69, hc.k70, hc.k71, hc.n6, hc.n7, hc.n8, hc.n9, hc.n11, hc.n12, hc.n13, hc.n32, hc.n41, hc.n42, hc.n43, hc.n60, hc.n61, hc.n62, hc.n63, hc.n64, hc.n65, hc.n66, hc.n67, hc.n68, hc.n69, hc.n70, hc.n71, hw.k, eh, es, c, e1]
      have hc := hc1
      simp (disch := omega) only [Hook_sure_37, wr_id, ix_id, okx, if_pos, if_neg, Int.toNat_of_nonneg, bak_v, bak_n, wr_b01, wr_bt, b01_or, b01_0, b01_1, lc_lt0, lc_gt0, lc_eq0, wl_wr, wr_wr, wl_id, true_and, and_true, true_or, or_true, not_true_eq_false, not_false_eq_true, nc0, nc1, nc2, nc3, nc4, nc5, nc6, nc7, nc8, nc9, nc10, nc11, nc12, nc13, nc14, nc15, nc16, nc17, nc18, nc19, nc20, nc21, nc22, nc23, nc35, nc47, nc59, nc60, nc61, nc73, nc74, nc214, nc215, nc1115, nc2230, nc3345, if_true, if_false, Int.reduceToNat, hc.k6, hc.r5, hc.r6, hc.r0, hc.r2, hc.r7, hc.r8, hc.r9, hc.r10, hc.r11, hc.r12, hc.r13, hc.r14, hc.r15, hc.r16, hc.r17, hc.r18, hc.r8_0, hc.r8_1, hc.r11_0, hc.r11_1, hc.r60_0, hc.r60_1, hc.r60_4, hc.r64_0, hc.r64_3, hc.r64_4, hc.r68_0, hc.r41_0, hc.r41_1, hc.r42_0, hc.r42_1, hc.k7, hc.k8, hc.k9, hc.k11, hc.k12, hc.k13, hc.k32, hc.k41, hc.k42, hc.k43, hc.k60, hc.k61, hc.k62, hc.k63, hc.k64, hc.k65, hc.k66, hc.k67, hc.k68, hc.k69, hc.k70, hc.k71, hc.n6, hc.n7, hc.n8, hc.n9, hc.n11, hc.n12, hc.n13, hc.n32, hc.n41, hc.n42, hc.n43, hc.n60, hc.n61, hc.n62, hc.n63, hc.n64, hc.n65, hc.n66, hc.n67, hc.n68, hc.n69, hc.n70, hc.n71, e4, jn1.2.2, e2]
      have hc := hc2
      simp (disch := omega) only [Hook_sure_65, Hook_sure_92, wr_id, ix_id, okx, if_pos, if_neg, Int.toNat_of_nonneg, bak_v, bak_n, wr_b01, wr_bt, b01_or, b01_0, b01_1, lc_lt0, lc_gt0, lc_eq0, wl_wr, wr_wr, wl_id, true_and, and_true, true_or, or_true, not_true_eq_false, not_false_eq_true, nc0, nc1, nc2, nc3, nc4, nc5, nc6, nc7, nc8, nc9, nc10, nc11, nc12, nc13, nc14, nc15, nc16, nc17, nc18, nc19, nc20, nc21, nc22, nc23, nc35, nc47, nc59, nc60, nc61, nc73, nc74, nc214, nc215, nc1115, nc2230, nc3345, if_true, if_false, Int.reduceToNat, hc.k6, hc.r5, hc.r6, hc.r0, hc.r2, hc.r7, hc.r8, hc.r9, hc.r10, hc.r11, hc.r12, hc.r13, hc.r14, hc.r15, hc.r16, hc.r17, hc.r18, hc.r8_0, hc.r8_1, hc.r11_0, hc.r11_1, hc.r60_0, hc.r60_1, hc.r60_4, hc.r64_0, hc.r64_3, hc.r64_4, hc.r68_0, hc.r41_0, hc.r41_1, hc.r42_0, hc.r42_1, hc.k7, hc.k8, hc.k9, hc.k11, hc.k12, hc.k13, hc.k32, hc.k41, hc.k42, hc.k43, hc.k60, hc.k61, hc.k62, hc.k63, hc.k64, hc.k65, hc.k66, hc.k67, hc.k68, hc.k69, hc.k70, hc.k71, hc.n6, hc.n7, hc.n8, hc.n9, hc.n11, hc.n12, hc.n13, hc.n32, hc.n41, hc.n42, hc.n43, hc.n60, hc.n61, hc.n62, hc.n63, hc.n64, hc.n65, hc.n66, hc.n67, hc.n68, hc.n69, hc.n70, hc.n71, e60, e3]
    · refine ⟨h, ?_, kj, Fr.rf⟩
      have an : ansSure S rs rm nb t x = noS S rs rm nb t := by
        unfold ansSure
        by_cases ct : 0 ≤ t ∧ t < 4
        · rw [if_neg (by omega), if_pos c]
        · rw [if_pos (by omega)]
          unfold noS noT
          rw [if_pos ct, if_pos (by omega)]
      rw [an]
      show EX (d+5) m_Hook_sure 0 [(0, .inr (.inr (6))), (1, .inl (t)), (2, .inl (x))] [] (h) = _
      simp (disch := omega) only [Hook_sure_0, Hook_sure_8, Hook_sure_14, Hook_sure_19, Hook_sure_24, wr_id, ix_id, okx, if_pos, if_neg, Int.toNat_of_nonneg, bak_v, bak_n, wr_b01, wr_bt, b01_or, b01_0, b01_1, lc_lt0, lc_gt0, lc_eq0, wl_wr, wr_wr, wl_id, true_and, and_true, true_or, or_true, not_true_eq_false, not_false_eq_true, nc0, nc1, nc2, nc3, nc4, nc5, nc6, nc7, nc8, nc9, nc10, nc11, nc12, nc13, nc14, nc15, nc16, nc17, nc18, nc19, nc20, nc21, nc22, nc23, nc35, nc47, nc59, nc60, nc61, nc73, nc74, nc214, nc215, nc1115, nc2230, nc3345, if_true, if_false, Int.reduceToNat, hc.k6, hc.r5, hc.r6, hc.r0, hc.r2, hc.r7, hc.r8, hc.r9, hc.r10, hc.r11, hc.r12, hc.r13, hc.r14, hc.r15, hc.r16, hc.r17, hc.r18, hc.r8_0, hc.r8_1, hc.r11_0, hc.r11_1, hc.r60_0, hc.r60_1, hc.r60_4, hc.r64_0, hc.r64_3, hc.r64_4, hc.r68_0, hc.r41_0, hc.r41_1, hc.r42_0, hc.r42_1, hc.k7, hc.k8, hc.k9, hc.k11, hc.k12, hc.k13, hc.k32, hc.k41, hc.k42, hc.k43, hc.k60, hc.k61, hc.k62, hc.k63, hc.k64, hc.k65, hc.k66, hc.k67, hc.k68, hc.k69, hc.k70, hc.k71, hc.n6, hc.n7, hc.n8, hc.n9, hc.n11, hc.n12, hc.n13, hc.n32, hc.n41, hc.n42, hc.n43, hc.n60, hc.n61, hc.n62, hc.n63, hc.n64, hc.n65, hc.n66, hc.n67, hc.n68, hc.n69, hc.n70, hc.n71, hw.k, eh, es]
  · have b1 : b01 (0 ≤ x ∧ x < S 1) = 0 := by unfold b01; rw [if_neg cx]
    rw [b1] at eh
    refine ⟨h, ?_, kj, Fr.rf⟩
    have an : ansSure S rs rm nb t x = -2 := by unfold ansSure; rw [if_pos (by omega)]
    rw [an]
    show EX (d+5) m_Hook_sure 0 [(0, .inr (.inr (6))), (1, .inl (t)), (2, .inl (x))] [] (h) = _
    simp (disch := omega) only [Hook_sure_0, Hook_sure_8, Hook_sure_11, wr_id, ix_id, okx, if_pos, if_neg, Int.toNat_of_nonneg, bak_v, bak_n, wr_b01, wr_bt, b01_or, b01_0, b01_1, lc_lt0, lc_gt0, lc_eq0, wl_wr, wr_wr, wl_id, true_and, and_true, true_or, or_true, not_true_eq_false, not_false_eq_true, nc0, nc1, nc2, nc3, nc4, nc5, nc6, nc7, nc8, nc9, nc10, nc11, nc12, nc13, nc14, nc15, nc16, nc17, nc18, nc19, nc20, nc21, nc22, nc23, nc35, nc47, nc59, nc60, nc61, nc73, nc74, nc214, nc215, nc1115, nc2230, nc3345, if_true, if_false, Int.reduceToNat, hc.k6, hc.r5, hc.r6, hc.r0, hc.r2, hc.r7, hc.r8, hc.r9, hc.r10, hc.r11, hc.r12, hc.r13, hc.r14, hc.r15, hc.r16, hc.r17, hc.r18, hc.r8_0, hc.r8_1, hc.r11_0, hc.r11_1, hc.r60_0, hc.r60_1, hc.r60_4, hc.r64_0, hc.r64_3, hc.r64_4, hc.r68_0, hc.r41_0, hc.r41_1, hc.r42_0, hc.r42_1, hc.k7, hc.k8, hc.k9, hc.k11, hc.k12, hc.k13, hc.k32, hc.k41, hc.k42, hc.k43, hc.k60, hc.k61, hc.k62, hc.k63, hc.k64, hc.k65, hc.k66, hc.k67, hc.k68, hc.k69, hc.k70, hc.k71, hc.n6, hc.n7, hc.n8, hc.n9, hc.n11, hc.n12, hc.n13, hc.n32, hc.n41, hc.n42, hc.n43, hc.n60, hc.n61, hc.n62, hc.n63, hc.n64, hc.n65, hc.n66, hc.n67, hc.n68, hc.n69, hc.n70, hc.n71, hw.k, eh]
