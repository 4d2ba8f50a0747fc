/-! the class: Watcher, ways ahead; sure -/
def Aw (S nb : Int → Int) (t m y s : Int) : Int := pth (Fw S nb t) (S 1) (S 2) m.toNat (-1) (-1) y s
theorem Fw_bt {S nb : Int → Int} {t x r g s : Int} (h : Fw S nb t x r g s = true) : bt (S 10) s = 0 := by
  unfold Fw FF at h
  simp only [decide_eq_true_eq] at h
  exact h.1
theorem Aw_br {S nb : Int → Int} {t m y s : Int} (h : ¬ bt (S 10) s = 0) : Aw S nb t m y s = 0 := by
  have ed : ∀ a b, Ed (Fw S nb t) a b y s = 0 := fun a b => by unfold Ed; rw [if_neg (fun q => h (Fw_bt q.2.2))]
  unfold Aw
  cases m.toNat with
  | zero => exact ed _ _
  | succ k =>
    rw [pth_front]
    exact ss_0 (fun g s' _ _ _ _ => by rw [ed, Int.mul_zero])
theorem Aw_0 {S nb : Int → Int} {t y s : Int} (hy : 0 ≤ y) (hs : 0 ≤ s) (hb : bt (S 10) s = 0) : Aw S nb t 0 y s = b01 (shB nb t 0 s (-2) = true) := by
  show Ed (Fw S nb t) (-1) (-1) y s = _
  unfold Ed b01
  by_cases c : shB nb t 0 s (-2) = true
  · rw [if_pos c, if_pos ⟨by omega, by omega, (Fw_neg hy).mpr ⟨hb, c⟩⟩]
  · rw [if_neg c, if_neg (fun q => c ((Fw_neg hy).mp q.2.2).2)]
def aT (S nb : Int → Int) (t g s m h r : Int) : Int := if Fw S nb t h r g s = true then Aw S nb t (m - 1) h r else 0
theorem Aw_s {S nb : Int → Int} {t m y s : Int} (hm : 1 ≤ m) (hy : 0 ≤ y ∧ y ≤ S 1) (hs : 0 ≤ s ∧ s ≤ S 2) : Aw S nb t m y s = sm (fun h => sm (fun r => aT S nb t y s m h r) 0 s) 0 y := by
  unfold Aw
  rw [show m.toNat = (m - 1).toNat + 1 by omega, pth_front]
  show sm (fun g => sm (fun z => pth (Fw S nb t) (S 1) (S 2) (m - 1).toNat (-1) (-1) g z * Ed (Fw S nb t) g z y s) 0 (S 2)) 0 (S 1) = _
  rw [sm_split (M := y) hy.2 0 hy.1, sm_0 y (fun g g0 g1 => sm_0 0 (fun z _ _ => by unfold Ed; rw [if_neg (by omega), Int.mul_zero])), Int.add_zero]
  refine sm_congr 0 (fun g g0 g1 => ?_)
  rw [sm_split (M := s) hs.2 0 hs.1, sm_0 s (fun z z0 z1 => by unfold Ed; rw [if_neg (by omega), Int.mul_zero]), Int.add_zero]
  refine sm_congr 0 (fun z z0 z1 => ?_)
  unfold Ed aT Aw
  by_cases c : Fw S nb t g z y s = true
  · rw [if_pos ⟨g1, z1, c⟩, if_pos c, Int.mul_one]
  · rw [if_neg (fun q => c q.2.2), if_neg c, Int.mul_zero]
theorem c_wA_1 {d w t : Nat} {S rs rm nb : Int → Int} (q : SQ S rm nb t) {M : Int} (hM : 1 ≤ M ∧ M ≤ 12) {g s x : Int} (hg : 0 ≤ x ∧ x < g ∧ g < S 1) (hs : 0 ≤ s ∧ s < S 2) (hb : bt (S 10) s = 0) : ∀ r, 0 ≤ r → r ≤ 12 → ∀ h acc, WS h w t S rs rm nb → (∀ r, 0 ≤ r → r < S 2 → rwS h 1728 M x r (fun m => Aw S nb t m x r)) → rwS h 1728 M g s acc → ∃ h', EX (d+2) m_Watcher_countAheadOf 44 [(0, .inr (.inr (68))), (1, .inr (.inr (w))), (2, .inl (g)), (3, .inl (s)), (4, .inl (M)), (5, .inr (.inr (70))), (6, .inl (1728 + (g * 12 + s) * 12)), (7, .inl (x)), (8, .inl (r))] [] (h) = EX (d+2) m_Watcher_countAheadOf 117 [(0, .inr (.inr (68))), (1, .inr (.inr (w))), (2, .inl (g)), (3, .inl (s)), (4, .inl (M)), (5, .inr (.inr (70))), (6, .inl (1728 + (g * 12 + s) * 12)), (7, .inl (x))] [] (h') ∧ rwS h' 1728 M g s (fun m => if 1 ≤ m then acc m + sm (fun r => aT S nb t g s m x r) r s else acc m) ∧ Fr (pO 1728 g s) h h' := by
  have ga := q.1.a
  have gb := q.1.b
  refine up_ind (hi := s) ?_ ?_
  · intro r hr h0 h1 h acc ws tb va
    refine ⟨h, ?_, va.cg (fun m m0 m1 => ?_), Fr.rf⟩
    · rw [Watcher_countAheadOf_44]
      simp (disch := omega) only [wr_id, ix_id, okx, if_pos, if_neg, Int.toNat_of_nonneg, bak_v, bak_n, wr_b01, wr_bt, b01_or, b01_0, b01_1, lc_lt0, lc_gt0, lc_eq0, wl_wr, wr_wr, wl_id, true_and, and_true, true_or, or_true, not_true_eq_false, not_false_eq_true, nc0, nc1, nc2, nc3, nc4, nc5, nc6, nc7, nc8, nc9, nc10, nc11, nc12, nc13, nc14, nc15, nc16, nc17, nc18, nc19, nc20, nc21, nc22, nc23, nc35, nc47, nc59, nc60, nc61, nc73, nc74, nc214, nc215, nc1115, nc2230, nc3345, if_true, if_false, Int.reduceToNat]
    · rw [sm_stop hr, Int.add_zero]
      simp
  · intro r hr ih h0 h1 h acc ws tb va
    have hw := ws.1.2.1
    have wv := ws.1.2
    have hc := ws.1.1.1
    have eb := c_isBroken (d := d + 1) wv (r := r) (by omega)
    have ef := c_fits (d := d) q ws.1 ws.2 (x := x) (r := r) (g := g) (s := s) (by omega) (by omega)
    have fw := Fw_pos (S := S) (nb := nb) (t := t) (x := x) (r := r) (g := g) (s := s) (by omega) (by omega)
    have skip : (∀ m, 1 ≤ m → aT S nb t g s m x r = 0) → ∃ h', EX (d+2) m_Watcher_countAheadOf 44 [(0, .inr (.inr (68))), (1, .inr (.inr (w))), (2, .inl (g)), (3, .inl (s)), (4, .inl (M)), (5, .inr (.inr (70))), (6, .inl (1728 + (g * 12 + s) * 12)), (7, .inl (x)), (8, .inl (r + 1))] [] (h) = EX (d+2) m_Watcher_countAheadOf 117 [(0, .inr (.inr (68))), (1, .inr (.inr (w))), (2, .inl (g)), (3, .inl (s)), (4, .inl (M)), (5, .inr (.inr (70))), (6, .inl (1728 + (g * 12 + s) * 12)), (7, .inl (x))] [] (h') ∧ rwS h' 1728 M g s (fun m => if 1 ≤ m then acc m + sm (fun r => aT S nb t g s m x r) r s else acc m) ∧ Fr (pO 1728 g s) h h' := fun cf => by
      obtain ⟨h2, e2, k2, f2⟩ := ih (by omega) (by omega) h acc ws tb va
      refine ⟨h2, e2, k2.cg (fun m m0 m1 => ?_), f2⟩
      by_cases c1 : 1 ≤ m
      · simp only [c1, if_true]
        rw [sm_step hr, cf m c1, Int.zero_add]
      · simp only [c1, if_false]
    rcases bt_01 (S 10) r with cb | cb
    · by_cases c : 0 ≤ sagM S x r g s ∧ shB nb t r s (sagM S x r g s) = true
      · have b1 : b01 (0 ≤ sagM S x r g s ∧ shB nb t r s (sagM S x r g s) = true) = 1 := by unfold b01; rw [if_pos c]
        rw [b1] at ef
        have cf : Fw S nb t x r g s = true := fw.mpr ⟨hb, c⟩
        have em := min_s (d + 1) x r h
        generalize hl : (if wr r < wr x then r else x) = l1 at *
        have l1r : 0 ≤ l1 ∧ l1 ≤ 11 ∧ (l1 = x ∨ l1 = r) := by
          rw [← hl, wr_id (by omega) (by omega), wr_id (by omega) (by omega)]
          split <;> omega
        have em2 := min_s (d + 1) (M - 1) (l1 + 1) h
        generalize hl2 : (if wr (l1 + 1) < wr (M - 1) then l1 + 1 else M - 1) = l at *
        have lr : l ≤ l1 + 1 ∧ l ≤ M - 1 ∧ 0 ≤ l ∧ (l = l1 + 1 ∨ l = M - 1) := by
          rw [← hl2, wr_id (by omega) (by omega), wr_id (by omega) (by omega)]
          split <;> omega
        obtain ⟨h1', e1, k1, f1⟩ := c_wMoved (d := d + 1) (w := w) (o := 1728) (M := M) (l := l) (x := g) (r := s) (y := x) (s := r) (acc := acc) (bcc := fun m => Aw S nb t m x r) (Or.inr rfl) (by omega) (by omega) (by omega) (by omega) (by omega) (by omega) (by omega) hc (tb r (by omega) (by omega)) va
        obtain ⟨h2, e2, k2, f2⟩ := ih (by omega) (by omega) h1' _ (ws.fr f1 pO.ge pO.n8) (fun z z1 z2 => (tb z z1 z2).fr f1 (by omega) (by omega) (by omega) (by omega) (by omega) (by omega) (by omega)) k1
        refine ⟨h2, ?_, k2.cg (fun m m0 m1 => ?_), f1.tr f2⟩
        · rw [Watcher_countAheadOf_44]
          simp (disch := omega) only [Watcher_countAheadOf_50, Watcher_countAheadOf_56, Watcher_countAheadOf_59, Watcher_countAheadOf_70, Watcher_countAheadOf_73, Watcher_countAheadOf_80, Watcher_countAheadOf_96, Watcher_countAheadOf_108, Watcher_countAheadOf_111, wr_id, ix_id, okx, if_pos, if_neg, Int.toNat_of_nonneg, bak_v, bak_n, wr_b01, wr_bt, b01_or, b01_0, b01_1, lc_lt0, lc_gt0, lc_eq0, wl_wr, wr_wr, wl_id, true_and, and_true, true_or, or_true, not_true_eq_false, not_false_eq_true, nc0, nc1, nc2, nc3, nc4, nc5, nc6, nc7, nc8, nc9, nc10, nc11, nc12, nc13, nc14, nc15, nc16, nc17, nc18, nc19, nc20, nc21, nc22, nc23, nc35, nc47, nc59, nc60, nc61, nc73, nc74, nc214, nc215, nc1115, nc2230, nc3345, if_true, if_false, Int.reduceToNat, hw.k, hw.r0, hw.r1, hw.r2, hw.r3, hw.r4, hw.k1, hw.k2, hw.k3, hw.k4, hw.k5, hw.n1, hw.n2, hw.n3, hw.n4, hw.n5, wv.f5, wv.f6, wv.f7, wv.f8, wv.f9, wv.f10, wv.f11, wv.f12, wv.f13, wv.f14, wv.pk, wv.qk, wv.hk, wv.rk, hc.k6, hc.r5, hc.r6, hc.r0, hc.r2, hc.r7, hc.r8, hc.r9, hc.r10, hc.r11, hc.r12, hc.r13, hc.r14, hc.r15, hc.r16, hc.r17, hc.r18, hc.r8_0, hc.r8_1, hc.r11_0, hc.r11_1, hc.r60_0, hc.r60_1, hc.r60_4, hc.r64_0, hc.r64_3, hc.r64_4, hc.r68_0, hc.r41_0, hc.r41_1, hc.r42_0, hc.r42_1, hc.k7, hc.k8, hc.k9, hc.k11, hc.k12, hc.k13, hc.k32, hc.k41, hc.k42, hc.k43, hc.k60, hc.k61, hc.k62, hc.k63, hc.k64, hc.k65, hc.k66, hc.k67, hc.k68, hc.k69, hc.k70, hc.k71, hc.n6, hc.n7, hc.n8, hc.n9, hc.n11, hc.n12, hc.n13, hc.n32, hc.n41, hc.n42, hc.n43, hc.n60, hc.n61, hc.n62, hc.n63, hc.n64, hc.n65, hc.n66, hc.n67, hc.n68, hc.n69, hc.n70, hc.n71, eb, cb, ef, em, c_rowOf, em2, e1, e2]
        · by_cases c1 : 1 ≤ m
          · simp only [c1, if_true, true_and]
            have at' : aT S nb t g s m x r = Aw S nb t (m - 1) x r := by unfold aT; rw [if_pos cf]
            rw [sm_step hr, at']
            by_cases c2 : m ≤ l
            · rw [if_pos c2]
              omega
            · rw [if_neg c2]
              have z : Aw S nb t (m - 1) x r = 0 := pth_z _ _ _ _ _ (by omega)
              rw [z]
              omega
          · simp only [c1, if_false, false_and]
      · have b1 : b01 (0 ≤ sagM S x r g s ∧ shB nb t r s (sagM S x r g s) = true) = 0 := by unfold b01; rw [if_neg c]
        rw [b1] at ef
        obtain ⟨h2, e2, k2, f2⟩ := skip (fun m _ => by unfold aT; rw [if_neg (fun z => c (fw.mp z).2)])
        refine ⟨h2, ?_, k2, f2⟩
        rw [Watcher_countAheadOf_44]
        simp (disch := omega) only [Watcher_countAheadOf_50, Watcher_countAheadOf_56, Watcher_countAheadOf_59, Watcher_countAheadOf_70, Watcher_countAheadOf_111, wr_id, ix_id, okx, if_pos, if_neg, Int.toNat_of_nonneg, bak_v, bak_n, wr_b01, wr_bt, b01_or, b01_0, b01_1, lc_lt0, lc_gt0, lc_eq0, wl_wr, wr_wr, wl_id, true_and, and_true, true_or, or_true, not_true_eq_false, not_false_eq_true, nc0, nc1, nc2, nc3, nc4, nc5, nc6, nc7, nc8, nc9, nc10, nc11, nc12, nc13, nc14, nc15, nc16, nc17, nc18, nc19, nc20, nc21, nc22, nc23, nc35, nc47, nc59, nc60, nc61, nc73, nc74, nc214, nc215, nc1115, nc2230, nc3345, if_true, if_false, Int.reduceToNat, hw.k, hw.r0, hw.r1, hw.r2, hw.r3, hw.r4, hw.k1, hw.k2, hw.k3, hw.k4, hw.k5, hw.n1, hw.n2, hw.n3, hw.n4, hw.n5, wv.f5, wv.f6, wv.f7, wv.f8, wv.f9, wv.f10, wv.f11, wv.f12, wv.f13, wv.f14, wv.pk, wv.qk, wv.hk, wv.rk, hc.k6, hc.r5, hc.r6, hc.r0, hc.r2, hc.r7, hc.r8, hc.r9, hc.r10, hc.r11, hc.r12, hc.r13, hc.r14, hc.r15, hc.r16, hc.r17, hc.r18, hc.r8_0, hc.r8_1, hc.r11_0, hc.r11_1, hc.r60_0, hc.r60_1, hc.r60_4, hc.r64_0, hc.r64_3, hc.r64_4, hc.r68_0, hc.r41_0, hc.r41_1, hc.r42_0, hc.r42_1, hc.k7, hc.k8, hc.k9, hc.k11, hc.k12, hc.k13, hc.k32, hc.k41, hc.k42, hc.k43, hc.k60, hc.k61, hc.k62, hc.k63, hc.k64, hc.k65, hc.k66, hc.k67, hc.k68, hc.k69, hc.k70, hc.k71, hc.n6, hc.n7, hc.n8, hc.n9, hc.n11, hc.n12, hc.n13, hc.n32, hc.n41, hc.n42, hc.n43, hc.n60, hc.n61, hc.n62, hc.n63, hc.n64, hc.n65, hc.n66, hc.n67, hc.n68, hc.n69, hc.n70, hc.n71, eb, cb, ef, e2]
    · obtain ⟨h2, e2, k2, f2⟩ := skip (fun m _ => by
        unfold aT
        rw [Aw_br (by omega)]
        split <;> rfl)
      refine ⟨h2, ?_, k2, f2⟩
      rw [Watcher_countAheadOf_44]
      simp (disch := omega) only [Watcher_countAheadOf_50, Watcher_countAheadOf_56, Watcher_countAheadOf_111, wr_id, ix_id, okx, if_pos, if_neg, Int.toNat_of_nonneg, bak_v, bak_n, wr_b01, wr_bt, b01_or, b01_0, b01_1, lc_lt0, lc_gt0, lc_eq0, wl_wr, wr_wr, wl_id, true_and, and_true, true_or, or_true, not_true_eq_false, not_false_eq_true, nc0, nc1, nc2, nc3, nc4, nc5, nc6, nc7, nc8, nc9, nc10, nc11, nc12, nc13, nc14, nc15, nc16, nc17, nc18, nc19, nc20, nc21, nc22, nc23, nc35, nc47, nc59, nc60, nc61, nc73, nc74, nc214, nc215, nc1115, nc2230, nc3345, if_true, if_false, Int.reduceToNat, hw.k, hw.r0, hw.r1, hw.r2, hw.r3, hw.r4, hw.k1, hw.k2, hw.k3, hw.k4, hw.k5, hw.n1, hw.n2, hw.n3, hw.n4, hw.n5, wv.f5, wv.f6, wv.f7, wv.f8, wv.f9, wv.f10, wv.f11, wv.f12, wv.f13, wv.f14, wv.pk, wv.qk, wv.hk, wv.rk, hc.k6, hc.r5, hc.r6, hc.r0, hc.r2, hc.r7, hc.r8, hc.r9, hc.r10, hc.r11, hc.r12, hc.r13, hc.r14, hc.r15, hc.r16, hc.r17, hc.r18, hc.r8_0, hc.r8_1, hc.r11_0, hc.r11_1, hc.r60_0, hc.r60_1, hc.r60_4, hc.r64_0, hc.r64_3, hc.r64_4, hc.r68_0, hc.r41_0, hc.r41_1, hc.r42_0, hc.r42_1, hc.k7, hc.k8, hc.k9, hc.k11, hc.k12, hc.k13, hc.k32, hc.k41, hc.k42, hc.k43, hc.k60, hc.k61, hc.k62, hc.k63, hc.k64, hc.k65, hc.k66, hc.k67, hc.k68, hc.k69, hc.k70, hc.k71, hc.n6, hc.n7, hc.n8, hc.n9, hc.n11, hc.n12, hc.n13, hc.n32, hc.n41, hc.n42, hc.n43, hc.n60, hc.n61, hc.n62, hc.n63, hc.n64, hc.n65, hc.n66, hc.n67, hc.n68, hc.n69, hc.n70, hc.n71, eb, cb, e2]
theorem c_wA_2 {d w t : Nat} {S rs rm nb : Int → Int} (q : SQ S rm nb t) {M : Int} (hM : 1 ≤ M ∧ M ≤ 12) {g s : Int} (hg : 0 ≤ g ∧ g < S 1) (hs : 0 ≤ s ∧ s < S 2) (hb : bt (S 10) s = 0) : ∀ x, 0 ≤ x → x ≤ 12 → ∀ h acc, WS h w t S rs rm nb → (∀ x r, 0 ≤ x → x < g → 0 ≤ r → r < S 2 → rwS h 1728 M x r (fun m => Aw S nb t m x r)) → rwS h 1728 M g s acc → ∃ h', EX (d+2) m_Watcher_countAheadOf 35 [(0, .inr (.inr (68))), (1, .inr (.inr (w))), (2, .inl (g)), (3, .inl (s)), (4, .inl (M)), (5, .inr (.inr (70))), (6, .inl (1728 + (g * 12 + s) * 12)), (7, .inl (x))] [] (h) = some (.inl 0, h') ∧ rwS h' 1728 M g s (fun m => if 1 ≤ m then acc m + sm (fun x => sm (fun r => aT S nb t g s m x r) 0 s) x g else acc m) ∧ Fr (pO 1728 g s) h h' := by
  have ga := q.1.a
  have gb := q.1.b
  refine up_ind (hi := g) ?_ ?_
  · intro x hx h0 h1 h acc ws tb va
    refine ⟨h, ?_, va.cg (fun m m0 m1 => ?_), Fr.rf⟩
    · rw [Watcher_countAheadOf_35]
      simp (disch := omega) only [Watcher_countAheadOf_123, wr_id, ix_id, okx, if_pos, if_neg, Int.toNat_of_nonneg, bak_v, bak_n, wr_b01, wr_bt, b01_or, b01_0, b01_1, lc_lt0, lc_gt0, lc_eq0, wl_wr, wr_wr, wl_id, true_and, and_true, true_or, or_true, not_true_eq_false, not_false_eq_true, nc0, nc1, nc2, nc3, nc4, nc5, nc6, nc7, nc8, nc9, nc10, nc11, nc12, nc13, nc14, nc15, nc16, nc17, nc18, nc19, nc20, nc21, nc22, nc23, nc35, nc47, nc59, nc60, nc61, nc73, nc74, nc214, nc215, nc1115, nc2230, nc3345, if_true, if_false, Int.reduceToNat]
    · rw [sm_stop hx, Int.add_zero]
      simp
  · intro x hx ih h0 h1 h acc ws tb va
    obtain ⟨h1', e1, k1, f1⟩ := c_wA_1 (d := d) (w := w) (rs := rs) q hM (g := g) (s := s) (x := x) (by omega) hs hb 0 (by omega) (by omega) h acc ws (fun r s1 s2 => tb x r h0 hx s1 s2) va
    obtain ⟨h2, e2, k2, f2⟩ := ih (by omega) (by omega) h1' _ (ws.fr f1 pO.ge pO.n8) (fun x r z1 z2 z3 z4 => (tb x r z1 z2 z3 z4).fr f1 (by omega) (by omega) (by omega) (by omega) (by omega) (by omega) (by omega)) k1
    refine ⟨h2, ?_, k2.cg (fun m m0 m1 => ?_), f1.tr f2⟩
    · rw [Watcher_countAheadOf_35]
      simp (disch := omega) only [Watcher_countAheadOf_41, wr_id, ix_id, okx, if_pos, if_neg, Int.toNat_of_nonneg, bak_v, bak_n, wr_b01, wr_bt, b01_or, b01_0, b01_1, lc_lt0, lc_gt0, lc_eq0, wl_wr, wr_wr, wl_id, true_and, and_true, true_or, or_true, not_true_eq_false, not_false_eq_true, nc0, nc1, nc2, nc3, nc4, nc5, nc6, nc7, nc8, nc9, nc10, nc11, nc12, nc13, nc14, nc15, nc16, nc17, nc18, nc19, nc20, nc21, nc22, nc23, nc35, nc47, nc59, nc60, nc61, nc73, nc74, nc214, nc215, nc1115, nc2230, nc3345, if_true, if_false, Int.reduceToNat, e1]
      rw [Watcher_countAheadOf_117]
      exact e2
    · by_cases c1 : 1 ≤ m
      · simp only [c1, if_true]
        rw [sm_step hx, Int.add_assoc]
      · simp only [c1, if_false]
theorem c_wAheadOf {d w t : Nat} {h : Hp} {S rs rm nb : Int → Int} (q : SQ S rm nb t) {M : Int} (hM : 1 ≤ M ∧ M ≤ 12) {g s : Int} (hg : 0 ≤ g ∧ g < S 1) (hs : 0 ≤ s ∧ s < S 2) (hb : bt (S 10) s = 0) (ws : WS h w t S rs rm nb) (tb : ∀ x r, 0 ≤ x → x < g → 0 ≤ r → r < S 2 → rwS h 1728 M x r (fun m => Aw S nb t m x r)) (vz : rwS h 1728 M g s (fun _ => 0)) : ∃ h', cal (d+3) m_Watcher_countAheadOf [.inr (.inr (68)), .inr (.inr (w)), .inl (g), .inl (s), .inl (M), .inr (.inr (70))] (h) = some (.inl 0, h') ∧ rwS h' 1728 M g s (fun m => Aw S nb t m g s) ∧ Fr (pO 1728 g s) h h' := by
  have ga := q.1.a
  have gb := q.1.b
  have hc := ws.1.1.1
  have bv := ws.2.1 s hs.1 hs.2
  rw [← Aw_0 (S := S) (y := g) hg.1 hs.1 hb] at bv
  have f0 : Fr (pO 1728 g s) h (pI h 70 (1728 + (g * 12 + s) * 12).toNat (Aw S nb t 0 g s)) := Fr.pI Fr.rf (by unfold pO; omega)
  have va0 : rwS (pI h 70 (1728 + (g * 12 + s) * 12).toNat (Aw S nb t 0 g s)) 1728 M g s (fun m => if m = 0 then Aw S nb t 0 g s else 0) := fun m m0 m1 => by
    rw [hI_pI]
    by_cases c : m = 0
    · rw [if_pos ⟨rfl, by rw [c]; congr 1; omega⟩]; simp [c]
    · rw [if_neg (fun z => c (by have := z.2; omega)), vz m m0 m1]; simp [c]
  obtain ⟨h1, e1, k1, f1⟩ := c_wA_2 (d := d) (w := w) (rs := rs) q hM (g := g) (s := s) hg hs hb 0 (by omega) (by omega) _ _ (ws.fr f0 pO.ge pO.n8) (fun x r z1 z2 z3 z4 => (tb x r z1 z2 z3 z4).fr f0 (by omega) (by omega) (by omega) (by omega) (by omega) (by omega) (by omega)) va0
  refine ⟨h1, ?_, k1.cg (fun m m0 m1 => ?_), f0.tr f1⟩
  · show EX (d+2) m_Watcher_countAheadOf 0 [(0, .inr (.inr (68))), (1, .inr (.inr (w))), (2, .inl (g)), (3, .inl (s)), (4, .inl (M)), (5, .inr (.inr (70)))] [] (h) = _
    have eh := c_has (d := d + 1) (h := h) (v := hI h 68 1) (r := s) hs.1 (by omega)
    rw [bv] at eh
    rcases (show Aw S nb t 0 g s = 0 ∨ Aw S nb t 0 g s = 1 by rw [← bv]; exact bt_01 _ _) with cz | cz
    · rw [cz] at eh e1
      simp (disch := omega) only [Watcher_countAheadOf_0, Watcher_countAheadOf_8, Watcher_countAheadOf_23, Watcher_countAheadOf_30, Watcher_countAheadOf_31, Watcher_countAheadOf_32, wr_id, ix_id, okx, if_pos, if_neg, Int.toNat_of_nonneg, bak_v, bak_n, wr_b01, wr_bt, b01_or, b01_0, b01_1, lc_lt0, lc_gt0, lc_eq0, wl_wr, wr_wr, wl_id, true_and, and_true, true_or, or_true, not_true_eq_false, not_false_eq_true, nc0, nc1, nc2, nc3, nc4, nc5, nc6, nc7, nc8, nc9, nc10, nc11, nc12, nc13, nc14, nc15, nc16, nc17, nc18, nc19, nc20, nc21, nc22, nc23, nc35, nc47, nc59, nc60, nc61, nc73, nc74, nc214, nc215, nc1115, nc2230, nc3345, if_true, if_false, Int.reduceToNat, hc.k6, hc.r5, hc.r6, hc.r0, hc.r2, hc.r7, hc.r8, hc.r9, hc.r10, hc.r11, hc.r12, hc.r13, hc.r14, hc.r15, hc.r16, hc.r17, hc.r18, hc.r8_0, hc.r8_1, hc.r11_0, hc.r11_1, hc.r60_0, hc.r60_1, hc.r60_4, hc.r64_0, hc.r64_3, hc.r64_4, hc.r68_0, hc.r41_0, hc.r41_1, hc.r42_0, hc.r42_1, hc.k7, hc.k8, hc.k9, hc.k11, hc.k12, hc.k13, hc.k32, hc.k41, hc.k42, hc.k43, hc.k60, hc.k61, hc.k62, hc.k63, hc.k64, hc.k65, hc.k66, hc.k67, hc.k68, hc.k69, hc.k70, hc.k71, hc.n6, hc.n7, hc.n8, hc.n9, hc.n11, hc.n12, hc.n13, hc.n32, hc.n41, hc.n42, hc.n43, hc.n60, hc.n61, hc.n62, hc.n63, hc.n64, hc.n65, hc.n66, hc.n67, hc.n68, hc.n69, hc.n70, hc.n71, c_rowOf, eh]
      exact e1
    · rw [cz] at eh e1
      simp (disch := omega) only [Watcher_countAheadOf_0, Watcher_countAheadOf_8, Watcher_countAheadOf_23, Watcher_countAheadOf_26, Watcher_countAheadOf_31, Watcher_countAheadOf_32, wr_id, ix_id, okx, if_pos, if_neg, Int.toNat_of_nonneg, bak_v, bak_n, wr_b01, wr_bt, b01_or, b01_0, b01_1, lc_lt0, lc_gt0, lc_eq0, wl_wr, wr_wr, wl_id, true_and, and_true, true_or, or_true, not_true_eq_false, not_false_eq_true, nc0, nc1, nc2, nc3, nc4, nc5, nc6, nc7, nc8, nc9, nc10, nc11, nc12, nc13, nc14, nc15, nc16, nc17, nc18, nc19, nc20, nc21, nc22, nc23, nc35, nc47, nc59, nc60, nc61, nc73, nc74, nc214, nc215, nc1115, nc2230, nc3345, if_true, if_false, Int.reduceToNat, hc.k6, hc.r5, hc.r6, hc.r0, hc.r2, hc.r7, hc.r8, hc.r9, hc.r10, hc.r11, hc.r12, hc.r13, hc.r14, hc.r15, hc.r16, hc.r17, hc.r18, hc.r8_0, hc.r8_1, hc.r11_0, hc.r11_1, hc.r60_0, hc.r60_1, hc.r60_4, hc.r64_0, hc.r64_3, hc.r64_4, hc.r68_0, hc.r41_0, hc.r41_1, hc.r42_0, hc.r42_1, hc.k7, hc.k8, hc.k9, hc.k11, hc.k12, hc.k13, hc.k32, hc.k41, hc.k42, hc.k43, hc.k60, hc.k61, hc.k62, hc.k63, hc.k64, hc.k65, hc.k66, hc.k67, hc.k68, hc.k69, hc.k70, hc.k71, hc.n6, hc.n7, hc.n8, hc.n9, hc.n11, hc.n12, hc.n13, hc.n32, hc.n41, hc.n42, hc.n43, hc.n60, hc.n61, hc.n62, hc.n63, hc.n64, hc.n65, hc.n66, hc.n67, hc.n68, hc.n69, hc.n70, hc.n71, c_rowOf, eh]
      exact e1
  · by_cases c1 : 1 ≤ m
    · have c2 : ¬ m = 0 := by omega
      simp only [c1, c2, if_true, if_false, Int.zero_add]
      exact (Aw_s c1 ⟨hg.1, by omega⟩ ⟨hs.1, by omega⟩).symm
    · have c2 : m = 0 := by omega
      subst c2
      simp
def TAw (h : Hp) (S nb : Int → Int) (t M g s : Int) : Prop := ∀ y z, 0 ≤ y → y < S 1 → 0 ≤ z → z < S 2 → rwS h 1728 M y z (fun m => if y < g ∨ (y = g ∧ z < s) then Aw S nb t m y z else 0)
def p17 (a k : Nat) : Prop := a = 70 ∧ 1728 ≤ k
theorem p17.ge : ∀ a k, p17 a k → 60 ≤ a := fun a k q => by unfold p17 at q; omega
theorem p17.n8 : ∀ a k, p17 a k → ¬ a = 68 ∧ ¬ a = 69 := fun a k q => by unfold p17 at q; omega
theorem c_wA_3 {d w t : Nat} {S rs rm nb : Int → Int} (q : SQ S rm nb t) {M x : Int} (hM : 1 ≤ M ∧ M ≤ 12) {g : Int} (hg : 0 ≤ g ∧ g < S 1) : ∀ s, 0 ≤ s → s ≤ S 2 → ∀ h, WS h w t S rs rm nb → TAw h S nb t M g s → ∃ h', EX (d+3) m_Watcher_countAhead 12 [(0, .inr (.inr (68))), (1, .inr (.inr (w))), (2, .inl (x)), (3, .inl (M)), (4, .inr (.inr (70))), (5, .inl (g)), (6, .inl (s))] [] (h) = EX (d+3) m_Watcher_countAhead 48 [(0, .inr (.inr (68))), (1, .inr (.inr (w))), (2, .inl (x)), (3, .inl (M)), (4, .inr (.inr (70))), (5, .inl (g))] [] (h') ∧ TAw h' S nb t M g (S 2) ∧ Fr p17 h h' := by
  have ga := q.1.a
  have gb := q.1.b
  refine up_ind (hi := S 2) ?_ ?_
  · intro s hs h0 h1 h ws tc
    have hw := ws.1.2.1
    have wv := ws.1.2
    have es : s = S 2 := by omega
    subst es
    refine ⟨h, ?_, tc, Fr.rf⟩
    rw [Watcher_countAhead_12]
    simp (disch := omega) only [wr_id, ix_id, okx, if_pos, if_neg, Int.toNat_of_nonneg, bak_v, bak_n, wr_b01, wr_bt, b01_or, b01_0, b01_1, lc_lt0, lc_gt0, lc_eq0, wl_wr, wr_wr, wl_id, true_and, and_true, true_or, or_true, not_true_eq_false, not_false_eq_true, nc0, nc1, nc2, nc3, nc4, nc5, nc6, nc7, nc8, nc9, nc10, nc11, nc12, nc13, nc14, nc15, nc16, nc17, nc18, nc19, nc20, nc21, nc22, nc23, nc35, nc47, nc59, nc60, nc61, nc73, nc74, nc214, nc215, nc1115, nc2230, nc3345, if_true, if_false, Int.reduceToNat, hw.k, hw.r0, hw.r1, hw.r2, hw.r3, hw.r4, hw.k1, hw.k2, hw.k3, hw.k4, hw.k5, hw.n1, hw.n2, hw.n3, hw.n4, hw.n5, wv.f5, wv.f6, wv.f7, wv.f8, wv.f9, wv.f10, wv.f11, wv.f12, wv.f13, wv.f14, wv.pk, wv.qk, wv.hk, wv.rk]
  · intro s hs ih h0 h1 h ws tc
    have hw := ws.1.2.1
    have wv := ws.1.2
    have hc := ws.1.1.1
    have eb := c_isBroken (d := d + 2) wv (r := s) (by omega)
    rcases bt_01 (S 10) s with c | c
    · obtain ⟨h1', e1, k1, f1⟩ := c_wAheadOf (d := d) (w := w) (rs := rs) q hM hg (s := s) ⟨h0, hs⟩ c ws (fun x r z1 z2 z3 z4 => (tc x r z1 (by omega) z3 z4).cg (fun m _ _ => by rw [if_pos (by omega)])) ((tc g s (by omega) (by omega) h0 hs).cg (fun m _ _ => by rw [if_neg (by omega)]))
      have fm : Fr p17 h h1' := f1.mo (fun a k z => by unfold pO at z; unfold p17; omega)
      obtain ⟨h2, e2, t2, f2⟩ := ih (by omega) (by omega) h1' (ws.fr f1 pO.ge pO.n8) (fun y z y0 y1 s0 s1 => by
        by_cases c2 : y = g ∧ z = s
        · obtain ⟨ey, es⟩ := c2
          rw [ey, es]
          exact k1.cg (fun m _ _ => by rw [if_pos (by omega)])
        · intro m m0 m1
          rw [f1.I (by unfold pO; omega), tc y z y0 y1 s0 s1 m m0 m1]
          dsimp only
          by_cases c3 : y < g ∨ (y = g ∧ z < s)
          · rw [if_pos c3, if_pos (by omega)]
          · rw [if_neg c3, if_neg (by omega)])
      refine ⟨h2, ?_, t2, fm.tr f2⟩
      rw [Watcher_countAhead_12]
      simp (disch := omega) only [Watcher_countAhead_21, Watcher_countAhead_27, Watcher_countAhead_30, Watcher_countAhead_42, wr_id, ix_id, okx, if_pos, if_neg, Int.toNat_of_nonneg, bak_v, bak_n, wr_b01, wr_bt, b01_or, b01_0, b01_1, lc_lt0, lc_gt0, lc_eq0, wl_wr, wr_wr, wl_id, true_and, and_true, true_or, or_true, not_true_eq_false, not_false_eq_true, nc0, nc1, nc2, nc3, nc4, nc5, nc6, nc7, nc8, nc9, nc10, nc11, nc12, nc13, nc14, nc15, nc16, nc17, nc18, nc19, nc20, nc21, nc22, nc23, nc35, nc47, nc59, nc60, nc61, nc73, nc74, nc214, nc215, nc1115, nc2230, nc3345, if_true, if_false, Int.reduceToNat, hw.k, hw.r0, hw.r1, hw.r2, hw.r3, hw.r4, hw.k1, hw.k2, hw.k3, hw.k4, hw.k5, hw.n1, hw.n2, hw.n3, hw.n4, hw.n5, wv.f5, wv.f6, wv.f7, wv.f8, wv.f9, wv.f10, wv.f11, wv.f12, wv.f13, wv.f14, wv.pk, wv.qk, wv.hk, wv.rk, hc.k6, hc.r5, hc.r6, hc.r0, hc.r2, hc.r7, hc.r8, hc.r9, hc.r10, hc.r11, hc.r12, hc.r13, hc.r14, hc.r15, hc.r16, hc.r17, hc.r18, hc.r8_0, hc.r8_1, hc.r11_0, hc.r11_1, hc.r60_0, hc.r60_1, hc.r60_4, hc.r64_0, hc.r64_3, hc.r64_4, hc.r68_0, hc.r41_0, hc.r41_1, hc.r42_0, hc.r42_1, hc.k7, hc.k8, hc.k9, hc.k11, hc.k12, hc.k13, hc.k32, hc.k41, hc.k42, hc.k43, hc.k60, hc.k61, hc.k62, hc.k63, hc.k64, hc.k65, hc.k66, hc.k67, hc.k68, hc.k69, hc.k70, hc.k71, hc.n6, hc.n7, hc.n8, hc.n9, hc.n11, hc.n12, hc.n13, hc.n32, hc.n41, hc.n42, hc.n43, hc.n60, hc.n61, hc.n62, hc.n63, hc.n64, hc.n65, hc.n66, hc.n67, hc.n68, hc.n69, hc.n70, hc.n71, eb, c, e1]
      exact e2
    · obtain ⟨h2, e2, t2, f2⟩ := ih (by omega) (by omega) h ws (fun y z y0 y1 s0 s1 => (tc y z y0 y1 s0 s1).cg (fun m _ _ => by
        by_cases c2 : y = g ∧ z = s
        · obtain ⟨ey, es⟩ := c2
          have : Aw S nb t m y z = 0 := Aw_br (by rw [es]; omega)
          rw [this]; simp
        · by_cases c3 : y < g ∨ (y = g ∧ z < s)
          · rw [if_pos c3, if_pos (by omega)]
          · rw [if_neg c3, if_neg (by omega)]))
      refine ⟨h2, ?_, t2, f2⟩
      rw [Watcher_countAhead_12]
      simp (disch := omega) only [Watcher_countAhead_21, Watcher_countAhead_27, Watcher_countAhead_42, wr_id, ix_id, okx, if_pos, if_neg, Int.toNat_of_nonneg, bak_v, bak_n, wr_b01, wr_bt, b01_or, b01_0, b01_1, lc_lt0, lc_gt0, lc_eq0, wl_wr, wr_wr, wl_id, true_and, and_true, true_or, or_true, not_true_eq_false, not_false_eq_true, nc0, nc1, nc2, nc3, nc4, nc5, nc6, nc7, nc8, nc9, nc10, nc11, nc12, nc13, nc14, nc15, nc16, nc17, nc18, nc19, nc20, nc21, nc22, nc23, nc35, nc47, nc59, nc60, nc61, nc73, nc74, nc214, nc215, nc1115, nc2230, nc3345, if_true, if_false, Int.reduceToNat, hw.k, hw.r0, hw.r1, hw.r2, hw.r3, hw.r4, hw.k1, hw.k2, hw.k3, hw.k4, hw.k5, hw.n1, hw.n2, hw.n3, hw.n4, hw.n5, wv.f5, wv.f6, wv.f7, wv.f8, wv.f9, wv.f10, wv.f11, wv.f12, wv.f13, wv.f14, wv.pk, wv.qk, wv.hk, wv.rk, hc.k6, hc.r5, hc.r6, hc.r0, hc.r2, hc.r7, hc.r8, hc.r9, hc.r10, hc.r11, hc.r12, hc.r13, hc.r14, hc.r15, hc.r16, hc.r17, hc.r18, hc.r8_0, hc.r8_1, hc.r11_0, hc.r11_1, hc.r60_0, hc.r60_1, hc.r60_4, hc.r64_0, hc.r64_3, hc.r64_4, hc.r68_0, hc.r41_0, hc.r41_1, hc.r42_0, hc.r42_1, hc.k7, hc.k8, hc.k9, hc.k11, hc.k12, hc.k13, hc.k32, hc.k41, hc.k42, hc.k43, hc.k60, hc.k61, hc.k62, hc.k63, hc.k64, hc.k65, hc.k66, hc.k67, hc.k68, hc.k69, hc.k70, hc.k71, hc.n6, hc.n7, hc.n8, hc.n9, hc.n11, hc.n12, hc.n13, hc.n32, hc.n41, hc.n42, hc.n43, hc.n60, hc.n61, hc.n62, hc.n63, hc.n64, hc.n65, hc.n66, hc.n67, hc.n68, hc.n69, hc.n70, hc.n71, eb, c]
      exact e2
theorem c_wA_4 {d w t : Nat} {S rs rm nb : Int → Int} (q : SQ S rm nb t) {M x : Int} (hM : 1 ≤ M ∧ M ≤ 12) (hx : 0 ≤ x ∧ x < S 1) : ∀ g, 0 ≤ g → g ≤ x + 1 → ∀ h, WS h w t S rs rm nb → TAw h S nb t M g 0 → ∃ h', EX (d+3) m_Watcher_countAhead 3 [(0, .inr (.inr (68))), (1, .inr (.inr (w))), (2, .inl (x)), (3, .inl (M)), (4, .inr (.inr (70))), (5, .inl (g))] [] (h) = some (.inl 0, h') ∧ TAw h' S nb t M (x + 1) 0 ∧ Fr p17 h h' := by
  have ga := q.1.a
  have gb := q.1.b
  refine up_ind (hi := x + 1) ?_ ?_
  · intro g hg h0 h1 h ws tc
    have eg : g = x + 1 := by omega
    subst eg
    refine ⟨h, ?_, tc, Fr.rf⟩
    rw [Watcher_countAhead_3]
    simp (disch := omega) only [Watcher_countAhead_54, wr_id, ix_id, okx, if_pos, if_neg, Int.toNat_of_nonneg, bak_v, bak_n, wr_b01, wr_bt, b01_or, b01_0, b01_1, lc_lt0, lc_gt0, lc_eq0, wl_wr, wr_wr, wl_id, true_and, and_true, true_or, or_true, not_true_eq_false, not_false_eq_true, nc0, nc1, nc2, nc3, nc4, nc5, nc6, nc7, nc8, nc9, nc10, nc11, nc12, nc13, nc14, nc15, nc16, nc17, nc18, nc19, nc20, nc21, nc22, nc23, nc35, nc47, nc59, nc60, nc61, nc73, nc74, nc214, nc215, nc1115, nc2230, nc3345, if_true, if_false, Int.reduceToNat]
  · intro g hg ih h0 h1 h ws tc
    obtain ⟨h1', e1, t1, f1⟩ := c_wA_3 (d := d) (w := w) (rs := rs) (x := x) q hM (g := g) ⟨h0, by omega⟩ 0 (by omega) (by omega) h ws tc
    obtain ⟨h2, e2, t2, f2⟩ := ih (by omega) (by omega) h1' (ws.fr f1 p17.ge p17.n8) (fun y z y0 y1 s0 s1 => (t1 y z y0 y1 s0 s1).cg (fun m _ _ => by
        by_cases c3 : y ≤ g
        · rw [if_pos (by omega), if_pos (by omega)]
        · rw [if_neg (by omega), if_neg (by omega)]))
    refine ⟨h2, ?_, t2, f1.tr f2⟩
    rw [Watcher_countAhead_3]
    simp (disch := omega) only [Watcher_countAhead_9, wr_id, ix_id, okx, if_pos, if_neg, Int.toNat_of_nonneg, bak_v, bak_n, wr_b01, wr_bt, b01_or, b01_0, b01_1, lc_lt0, lc_gt0, lc_eq0, wl_wr, wr_wr, wl_id, true_and, and_true, true_or, or_true, not_true_eq_false, not_false_eq_true, nc0, nc1, nc2, nc3, nc4, nc5, nc6, nc7, nc8, nc9, nc10, nc11, nc12, nc13, nc14, nc15, nc16, nc17, nc18, nc19, nc20, nc21, nc22, nc23, nc35, nc47, nc59, nc60, nc61, nc73, nc74, nc214, nc215, nc1115, nc2230, nc3345, if_true, if_false, Int.reduceToNat, e1]
    rw [Watcher_countAhead_48]
    exact e2
theorem c_wAhead {d w t : Nat} {h : Hp} {S rs rm nb : Int → Int} (q : SQ S rm nb t) {M x : Int} (hM : 1 ≤ M ∧ M ≤ 12) (hx : 0 ≤ x ∧ x < S 1) (ws : WS h w t S rs rm nb) (hz : ∀ k, 1728 ≤ k → k < 3456 → hI h 70 k = 0) : ∃ h', cal (d+4) m_Watcher_countAhead [.inr (.inr (68)), .inr (.inr (w)), .inl (x), .inl (M), .inr (.inr (70))] (h) = some (.inl 0, h') ∧ (∀ r, 0 ≤ r → r < S 2 → rwS h' 1728 M x r (fun m => Aw S nb t m x r)) ∧ Fr p17 h h' := by
  have ga := q.1.a
  have gb := q.1.b
  obtain ⟨h1, e1, t1, f1⟩ := c_wA_4 (d := d) (w := w) (rs := rs) q hM hx 0 (by omega) (by omega) h ws (fun y z y0 y1 z0 z1 m m0 m1 => by
    dsimp only
    rw [if_neg (by omega)]
    exact hz _ (by omega) (by omega))
  refine ⟨h1, ?_, fun r r0 r1 => (t1 x r hx.1 hx.2 r0 r1).cg (fun m _ _ => by rw [if_pos (by omega)]), f1⟩
  show EX (d+3) m_Watcher_countAhead 0 [(0, .inr (.inr (68))), (1, .inr (.inr (w))), (2, .inl (x)), (3, .inl (M)), (4, .inr (.inr (70)))] [] (h) = _
  rw [Watcher_countAhead_0]
  exact e1
/-- through a place -/
def trW (S nb : Int → Int) (t M x r : Int) : Int := sm (fun a => Aw S nb t a x r * Cw S nb t (M - 1 - a) x r) 0 M
theorem c_wThr_l {d w : Nat} {h : Hp} {S nb : Int → Int} {t M x r : Int} (hM : 1 ≤ M ∧ M ≤ 12) (hx : 0 ≤ x ∧ x ≤ 11) (hr : 0 ≤ r ∧ r ≤ 11) (hc : CR h w) (v1 : rwS h 0 M x r (fun m => Mw S nb t m x r)) (v2 : rwS h 1728 M x r (fun m => Aw S nb t m x r)) : ∀ a, 0 ≤ a → a ≤ 12 → ∀ f, EX (d) m_Watcher_countThrough 5 [(0, .inl ((x * 12 + r) * 12)), (1, .inl (M)), (2, .inr (.inr (70))), (3, .inl (f)), (4, .inl (a))] [] (h) = some (.inl (f + sm (fun a => Aw S nb t a x r * Cw S nb t (M - 1 - a) x r) a M), h) := by
  refine up_ind (hi := M) ?_ ?_
  · intro a ha a0 a1 f
    rw [Watcher_countThrough_5]
    simp (disch := omega) only [Watcher_countThrough_41, wr_id, ix_id, okx, if_pos, if_neg, Int.toNat_of_nonneg, bak_v, bak_n, wr_b01, wr_bt, b01_or, b01_0, b01_1, lc_lt0, lc_gt0, lc_eq0, wl_wr, wr_wr, wl_id, true_and, and_true, true_or, or_true, not_true_eq_false, not_false_eq_true, nc0, nc1, nc2, nc3, nc4, nc5, nc6, nc7, nc8, nc9, nc10, nc11, nc12, nc13, nc14, nc15, nc16, nc17, nc18, nc19, nc20, nc21, nc22, nc23, nc35, nc47, nc59, nc60, nc61, nc73, nc74, nc214, nc215, nc1115, nc2230, nc3345, if_true, if_false, Int.reduceToNat, sm_stop, Int.add_zero]
  · intro a ha ih a0 a1 f
    have e1 := v2 a a0 ha
    have e2 := v1 (M - 1 - a) (by omega) (by omega)
    rw [show 0 + (x * 12 + r) * 12 + (M - 1 - a) = (x * 12 + r) * 12 + M - 1 - a by omega] at e2
    have ep : Aw S nb t a x r * Mw S nb t (M - 1 - a) x r = Aw S nb t a x r * Cw S nb t (M - 1 - a) x r := by
      unfold Mw
      by_cases c : bt (S 10) r = 0
      · rw [if_pos c]
      · rw [Aw_br c, Int.zero_mul, Int.zero_mul]
    rw [Watcher_countThrough_5]
    simp (disch := omega) only [Watcher_countThrough_11, wr_id, ix_id, okx, if_pos, if_neg, Int.toNat_of_nonneg, bak_v, bak_n, wr_b01, wr_bt, b01_or, b01_0, b01_1, lc_lt0, lc_gt0, lc_eq0, wl_wr, wr_wr, wl_id, true_and, and_true, true_or, or_true, not_true_eq_false, not_false_eq_true, nc0, nc1, nc2, nc3, nc4, nc5, nc6, nc7, nc8, nc9, nc10, nc11, nc12, nc13, nc14, nc15, nc16, nc17, nc18, nc19, nc20, nc21, nc22, nc23, nc35, nc47, nc59, nc60, nc61, nc73, nc74, nc214, nc215, nc1115, nc2230, nc3345, if_true, if_false, Int.reduceToNat, hc.k6, hc.r5, hc.r6, hc.r0, hc.r2, hc.r7, hc.r8, hc.r9, hc.r10, hc.r11, hc.r12, hc.r13, hc.r14, hc.r15, hc.r16, hc.r17, hc.r18, hc.r8_0, hc.r8_1, hc.r11_0, hc.r11_1, hc.r60_0, hc.r60_1, hc.r60_4, hc.r64_0, hc.r64_3, hc.r64_4, hc.r68_0, hc.r41_0, hc.r41_1, hc.r42_0, hc.r42_1, hc.k7, hc.k8, hc.k9, hc.k11, hc.k12, hc.k13, hc.k32, hc.k41, hc.k42, hc.k43, hc.k60, hc.k61, hc.k62, hc.k63, hc.k64, hc.k65, hc.k66, hc.k67, hc.k68, hc.k69, hc.k70, hc.k71, hc.n6, hc.n7, hc.n8, hc.n9, hc.n11, hc.n12, hc.n13, hc.n32, hc.n41, hc.n42, hc.n43, hc.n60, hc.n61, hc.n62, hc.n63, hc.n64, hc.n65, hc.n66, hc.n67, hc.n68, hc.n69, hc.n70, hc.n71, e1, e2]
    rw [ep, ih (by omega) (by omega), sm_step ha, Int.add_assoc]
theorem c_wThr {d w : Nat} {h : Hp} {S nb : Int → Int} {t M x r : Int} (hM : 1 ≤ M ∧ M ≤ 12) (hx : 0 ≤ x ∧ x ≤ 11) (hr : 0 ≤ r ∧ r ≤ 11) (hc : CR h w) (v1 : rwS h 0 M x r (fun m => Mw S nb t m x r)) (v2 : rwS h 1728 M x r (fun m => Aw S nb t m x r)) : cal (d+1) m_Watcher_countThrough [.inl ((x * 12 + r) * 12), .inl (M), .inr (.inr (70))] (h) = some (.inl (trW S nb t M x r), h) := by
  show EX (d) m_Watcher_countThrough 0 [(0, .inl ((x * 12 + r) * 12)), (1, .inl (M)), (2, .inr (.inr (70)))] [] (h) = _
  rw [Watcher_countThrough_0, c_wThr_l hM hx hr hc v1 v2 0 (by omega) (by omega), Int.zero_add]
  rfl
theorem tr_split {S nb : Int → Int} {t M x o : Int} (hx : 0 ≤ x ∧ x < S 1) (hM : 0 ≤ M) : Cw S nb t M (-1) (-1) = Ctr S nb x o t M (-1) (-1) + sm (fun y => if o = -1 ∨ o = y then trW S nb t M x y else 0) 0 (S 2) := by
  have e := cnt_split (F := Fw S nb t) (F' := FF S nb x o t) (B := BB S nb t) (N := S 1) (R := S 2) (x := x) (D := fun s => decide (o = -1 ∨ o = s)) hx (fun h r g s _ _ g0 _ _ _ => by
    unfold Fw FF
    simp only [decide_eq_true_eq]
    constructor
    · rintro ⟨a, b, c⟩; exact ⟨⟨a, fun z => by omega, c⟩, b⟩
    · rintro ⟨⟨a, _, c⟩, b⟩; exact ⟨a, b, c⟩) M.toNat (-1) (-1) (by omega) (by omega)
  unfold Cw Ctr
  refine e.trans ?_
  congr 1
  unfold thr
  rw [Int.toNat_of_nonneg hM]
  refine sm_congr 0 (fun y y0 y1 => ?_)
  by_cases c : o = -1 ∨ o = y
  · rw [if_pos c, if_pos (by simpa using c)]
    rfl
  · rw [if_neg c, if_neg (by simpa using c)]
theorem trW_nn {S nb : Int → Int} {t M x y : Int} : 0 ≤ trW S nb t M x y := sm_nn 0 (fun a _ _ => Int.mul_nonneg (pth_nn _ _ _ _ _) (cnt_nn (fun r => (BB_01 S nb t r).1) _ _ _))
theorem tr_one {S nb : Int → Int} {t M x r : Int} (hx : 0 ≤ x ∧ x < S 1) (hr : 0 ≤ r ∧ r < S 2) (hM : 0 ≤ M) : Cw S nb t M (-1) (-1) = Ctr S nb x r t M (-1) (-1) + trW S nb t M x r := by
  rw [tr_split (o := r) hx hM, sm_one hr (fun j j0 j1 jx => by rw [if_neg (by omega)]), if_pos (Or.inr rfl)]
theorem tr_all {S nb : Int → Int} {t M x : Int} (hx : 0 ≤ x ∧ x < S 1) (hM : 0 ≤ M) : Cw S nb t M (-1) (-1) = Ctr S nb x (-1) t M (-1) (-1) + sm (trW S nb t M x) 0 (S 2) := by
  rw [tr_split (o := -1) hx hM]
  congr 1
