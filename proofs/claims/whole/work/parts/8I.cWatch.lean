/-! the class: Watcher, what is seen -/
def sgt (nb : Int → Int) (t z : Int) : Int := if 9999 < nb (40 * t + z) then 9999 else nb (40 * t + z)
def nrw (a v : Int) : Int := if v = -1 then a else if v = -2 ∨ (¬ a = -1 ∧ ¬ a = v) then -3 else v
def spn (nb : Int → Int) (t r s : Int) : Int := fo (fun z a => nrw a (sgt nb t z)) r s (-1)
theorem fo_last {F : Int → Int → Int} {N : Int} : ∀ i, i ≤ N → ∀ m, fo F i (N + 1) m = F N (fo F i N m) := by
  refine up_ind (hi := N) ?_ ?_
  · intro i h1 h2 m
    rw [show i = N by omega, fo_step (by omega), fo_stop (Int.le_refl _), fo_stop (Int.le_refl _)]
  · intro i h1 ih h2 m
    rw [fo_step (show i < N + 1 by omega), fo_step h1]
    exact ih (by omega) _
theorem spn_r (nb : Int → Int) (t r : Int) : spn nb t r r = -1 := fo_stop (Int.le_refl r)
theorem spn_s {nb : Int → Int} {t r s : Int} (h : r ≤ s) : spn nb t r (s + 1) = nrw (spn nb t r s) (sgt nb t s) := fo_last r h (-1)
/-- numbers of a tray that tells sags -/
def SQ (S rm nb : Int → Int) (t : Nat) : Prop := Gd S ∧ rm t = (if S 2 = 0 then 0 else S 2 - 1) ∧ ∀ k, 0 ≤ k → k < rm t → -2 ≤ nb (40 * t + k)
theorem SQ.ge {S rm nb : Int → Int} {t : Nat} (q : SQ S rm nb t) {k : Int} (k0 : 0 ≤ k) (k1 : k < S 2 - 1) : k < rm t ∧ -2 ≤ nb (40 * t + k) := by
  have e := q.2.1
  rw [if_neg (by omega)] at e
  exact ⟨by omega, q.2.2 k k0 (by omega)⟩
theorem SQ.rm {S rm nb : Int → Int} {t : Nat} (q : SQ S rm nb t) (h : 0 < S 2) : rm t = S 2 - 1 := by
  have e := q.2.1
  rw [if_neg (by omega)] at e
  exact e
theorem shB_iff {nb : Int → Int} {t a b v : Int} (ht : 0 ≤ t) (a0 : 0 ≤ a) : shB nb t a b v = true ↔ ∀ z, a ≤ z → z < b → nb (40 * t + z) = -1 ∨ nb (40 * t + z) = v := by
  unfold shB
  simp only [decide_eq_true_eq]
  constructor
  · intro h z z0 z1
    rcases h with h | h
    · omega
    · have := ff_no a0 h z z0 z1
      simp only [decide_eq_false_iff_not] at this
      omega
  · intro h
    refine Or.inr (ff_nil (fun z z0 z1 => ?_))
    have := h z z0 z1
    simp only [decide_eq_false_iff_not]
    omega
theorem spn_rng {nb : Int → Int} {t r : Int} : ∀ s, r ≤ s → (∀ z, r ≤ z → z < s → -2 ≤ nb (40 * t + z)) → -3 ≤ spn nb t r s ∧ spn nb t r s ≤ 9999 ∧ ¬ spn nb t r s = -2 := by
  refine dn_ind (lo := r + 1) ?_ ?_
  · intro s h1 h2 _
    rw [show s = r by omega, spn_r]
    omega
  · intro s h1 ih h2 hn
    have i := ih (by omega) (fun z z0 z1 => hn z z0 (by omega))
    have n := hn (s - 1) (by omega) (by omega)
    rw [show s = s - 1 + 1 by omega, spn_s (by omega)]
    unfold nrw sgt
    repeat' split
    all_goals omega
theorem spn_iff {nb : Int → Int} {t r v : Int} (hv : 0 ≤ v ∧ v ≤ 5000) : ∀ s, r ≤ s → (∀ z, r ≤ z → z < s → -2 ≤ nb (40 * t + z)) → ((spn nb t r s = -1 ∨ spn nb t r s = v) ↔ ∀ z, r ≤ z → z < s → nb (40 * t + z) = -1 ∨ nb (40 * t + z) = v) := by
  refine dn_ind (lo := r + 1) ?_ ?_
  · intro s h1 h2 _
    rw [show s = r by omega, spn_r]
    exact ⟨fun _ z z0 z1 => by omega, fun _ => Or.inl rfl⟩
  · intro s h1 ih h2 hn
    have i := ih (by omega) (fun z z0 z1 => hn z z0 (by omega))
    have rg := spn_rng (nb := nb) (t := t) (r := r) (s - 1) (by omega) (fun z z0 z1 => hn z z0 (by omega))
    have n := hn (s - 1) (by omega) (by omega)
    have sp : (∀ z, r ≤ z → z < s → nb (40 * t + z) = -1 ∨ nb (40 * t + z) = v) ↔ ((∀ z, r ≤ z → z < s - 1 → nb (40 * t + z) = -1 ∨ nb (40 * t + z) = v) ∧ (nb (40 * t + (s - 1)) = -1 ∨ nb (40 * t + (s - 1)) = v)) := by
      constructor
      · intro h
        exact ⟨fun z z0 z1 => h z z0 (by omega), h (s - 1) (by omega) (by omega)⟩
      · rintro ⟨h3, h4⟩ z z0 z1
        by_cases c : z = s - 1
        · rw [c]; exact h4
        · exact h3 z z0 (by omega)
    have e : spn nb t r s = nrw (spn nb t r (s - 1)) (sgt nb t (s - 1)) := by
      have := spn_s (nb := nb) (t := t) (r := r) (s := s - 1) (by omega)
      rw [show s - 1 + 1 = s by omega] at this
      exact this
    rw [sp, ← i, e]
    generalize spn nb t r (s - 1) = a at *
    unfold nrw sgt
    generalize nb (40 * t + (s - 1)) = b at *
    repeat' split
    all_goals omega
theorem c_wSeen {d w t : Nat} {h : Hp} {rs rm nb : Int → Int} (y : TY h w t rs rm nb) {z : Int} (hz : 0 ≤ z ∧ z < rm t) (hn : -2 ≤ nb (40 * t + z)) : cal (d+2) m_Watcher_seenAt [.inr (.inr (33 + 2 * t)), .inl (z)] (h) = some (.inl (sgt nb t z), h) := by
  obtain ⟨q1, q2, q3, q4, q5, q6⟩ := y.cells
  have nr := y.2.2.1.2 (40 * t + z)
  have ea := c_at (d := d) y.1 y.2.1 y.2.2.1 y.2.2.2.1 y.2.2.2.2 (i := z) hz
  show EX (d+1) m_Watcher_seenAt 0 [(0, .inr (.inr (33 + 2 * t))), (1, .inl (z))] [] (h) = _
  simp (disch := omega) only [Watcher_seenAt_0, Watcher_seenAt_5, Watcher_seenAt_11, wr_id, ix_id, okx, if_pos, if_neg, Int.toNat_of_nonneg, bak_v, bak_n, wr_b01, wr_bt, b01_or, b01_0, b01_1, lc_lt0, lc_gt0, lc_eq0, wl_wr, wr_wr, wl_id, true_and, and_true, true_or, or_true, not_true_eq_false, not_false_eq_true, nc0, nc1, nc2, nc3, nc4, nc5, nc6, nc7, nc8, nc9, nc10, nc11, nc12, nc13, nc14, nc15, nc16, nc17, nc18, nc19, nc20, nc21, nc22, nc23, nc35, nc47, nc59, nc60, nc61, nc73, nc74, nc214, nc215, nc1115, nc2230, nc3345, if_true, if_false, Int.reduceToNat, q1, ea, minL_s, sgt]
theorem c_narrowed {d : Nat} {h : Hp} {a v : Int} (ha : -10 ≤ a ∧ a ≤ 10000) (hv : -2 ≤ v ∧ v ≤ 10000) : cal (d+1) m_Watcher_narrowed [.inl (a), .inl (v)] (h) = some (.inl (nrw a v), h) := by
  show EX (d) m_Watcher_narrowed 0 [(0, .inl (a)), (1, .inl (v))] [] (h) = _
  unfold nrw
  by_cases c1 : v = -1
  · simp (disch := omega) only [Watcher_narrowed_0, Watcher_narrowed_5, Watcher_narrowed_7, Watcher_narrowed_13, Watcher_narrowed_18, Watcher_narrowed_23, Watcher_narrowed_26, wr_id, ix_id, okx, if_pos, if_neg, Int.toNat_of_nonneg, bak_v, bak_n, wr_b01, wr_bt, b01_or, b01_0, b01_1, lc_lt0, lc_gt0, lc_eq0, wl_wr, wr_wr, wl_id, true_and, and_true, true_or, or_true, not_true_eq_false, not_false_eq_true, nc0, nc1, nc2, nc3, nc4, nc5, nc6, nc7, nc8, nc9, nc10, nc11, nc12, nc13, nc14, nc15, nc16, nc17, nc18, nc19, nc20, nc21, nc22, nc23, nc35, nc47, nc59, nc60, nc61, nc73, nc74, nc214, nc215, nc1115, nc2230, nc3345, if_true, if_false, Int.reduceToNat, c1]
  · by_cases c2 : v = -2
    · simp (disch := omega) only [Watcher_narrowed_0, Watcher_narrowed_5, Watcher_narrowed_7, Watcher_narrowed_13, Watcher_narrowed_18, Watcher_narrowed_23, Watcher_narrowed_26, wr_id, ix_id, okx, if_pos, if_neg, Int.toNat_of_nonneg, bak_v, bak_n, wr_b01, wr_bt, b01_or, b01_0, b01_1, lc_lt0, lc_gt0, lc_eq0, wl_wr, wr_wr, wl_id, true_and, and_true, true_or, or_true, not_true_eq_false, not_false_eq_true, nc0, nc1, nc2, nc3, nc4, nc5, nc6, nc7, nc8, nc9, nc10, nc11, nc12, nc13, nc14, nc15, nc16, nc17, nc18, nc19, nc20, nc21, nc22, nc23, nc35, nc47, nc59, nc60, nc61, nc73, nc74, nc214, nc215, nc1115, nc2230, nc3345, if_true, if_false, Int.reduceToNat, c2]
    · by_cases c3 : a = -1
      · rw [if_neg c1, if_neg (show ¬ (v = -2 ∨ ¬ a = -1 ∧ ¬ a = v) by omega)]
        simp (disch := omega) only [Watcher_narrowed_0, Watcher_narrowed_5, Watcher_narrowed_7, Watcher_narrowed_13, Watcher_narrowed_18, Watcher_narrowed_23, Watcher_narrowed_26, wr_id, ix_id, okx, if_pos, if_neg, Int.toNat_of_nonneg, bak_v, bak_n, wr_b01, wr_bt, b01_or, b01_0, b01_1, lc_lt0, lc_gt0, lc_eq0, wl_wr, wr_wr, wl_id, true_and, and_true, true_or, or_true, not_true_eq_false, not_false_eq_true, nc0, nc1, nc2, nc3, nc4, nc5, nc6, nc7, nc8, nc9, nc10, nc11, nc12, nc13, nc14, nc15, nc16, nc17, nc18, nc19, nc20, nc21, nc22, nc23, nc35, nc47, nc59, nc60, nc61, nc73, nc74, nc214, nc215, nc1115, nc2230, nc3345, if_true, if_false, Int.reduceToNat, c3]
      · by_cases c4 : a = v
        · rw [if_neg c1, if_neg (show ¬ (v = -2 ∨ ¬ a = -1 ∧ ¬ a = v) by omega)]
          simp (disch := omega) only [Watcher_narrowed_0, Watcher_narrowed_5, Watcher_narrowed_7, Watcher_narrowed_13, Watcher_narrowed_18, Watcher_narrowed_23, Watcher_narrowed_26, wr_id, ix_id, okx, if_pos, if_neg, Int.toNat_of_nonneg, bak_v, bak_n, wr_b01, wr_bt, b01_or, b01_0, b01_1, lc_lt0, lc_gt0, lc_eq0, wl_wr, wr_wr, wl_id, true_and, and_true, true_or, or_true, not_true_eq_false, not_false_eq_true, nc0, nc1, nc2, nc3, nc4, nc5, nc6, nc7, nc8, nc9, nc10, nc11, nc12, nc13, nc14, nc15, nc16, nc17, nc18, nc19, nc20, nc21, nc22, nc23, nc35, nc47, nc59, nc60, nc61, nc73, nc74, nc214, nc215, nc1115, nc2230, nc3345, if_true, if_false, Int.reduceToNat, c4]
        · rw [if_neg c1, if_pos (show (v = -2 ∨ ¬ a = -1 ∧ ¬ a = v) by omega)]
          simp (disch := omega) only [Watcher_narrowed_0, Watcher_narrowed_5, Watcher_narrowed_7, Watcher_narrowed_13, Watcher_narrowed_18, Watcher_narrowed_23, Watcher_narrowed_26, wr_id, ix_id, okx, if_pos, if_neg, Int.toNat_of_nonneg, bak_v, bak_n, wr_b01, wr_bt, b01_or, b01_0, b01_1, lc_lt0, lc_gt0, lc_eq0, wl_wr, wr_wr, wl_id, true_and, and_true, true_or, or_true, not_true_eq_false, not_false_eq_true, nc0, nc1, nc2, nc3, nc4, nc5, nc6, nc7, nc8, nc9, nc10, nc11, nc12, nc13, nc14, nc15, nc16, nc17, nc18, nc19, nc20, nc21, nc22, nc23, nc35, nc47, nc59, nc60, nc61, nc73, nc74, nc214, nc215, nc1115, nc2230, nc3345, if_true, if_false, Int.reduceToNat]
def p68 (a k : Nat) : Prop := a = 69 ∨ (a = 68 ∧ (k = 1 ∨ k = 2))
theorem p68.ge : ∀ a k, p68 a k → 60 ≤ a := fun a k q => by unfold p68 at q; omega
def oA (nb : Int → Int) (t r : Int) : Bool := decide (ff (fun z => decide (0 ≤ nb (40 * t + z))) 0 r = -1)
def oB (nb : Int → Int) (t R r : Int) : Bool := decide (ff (fun z => decide (0 ≤ nb (40 * t + z))) r (R - 1) = -1)
/-- a row of spans -/
theorem c_sv_1 {d w t : Nat} {S rs rm nb : Int → Int} (q : SQ S rm nb t) {op r : Int} (hr : 0 ≤ r ∧ r < S 2) : ∀ s, r + 1 ≤ s → s ≤ 12 → ∀ h, RW h w t S rs rm nb → (∀ z, r < z → z < s → z < S 2 → hI h 69 (r * 12 + z).toNat = spn nb t r z) → ∃ h', EX (d+3) m_Watcher_survey 80 [(0, .inr (.inr (68))), (1, .inr (.inr (w))), (2, .inr (.inr (33 + 2 * t))), (3, .inl (op)), (4, .inl (r)), (5, .inl (spn nb t r (s - 1))), (6, .inl (s))] [] (h) = EX (d+3) m_Watcher_survey 125 [(0, .inr (.inr (68))), (1, .inr (.inr (w))), (2, .inr (.inr (33 + 2 * t))), (3, .inl (op)), (4, .inl (r))] [] (h') ∧ (∀ z, r < z → z < S 2 → hI h' 69 (r * 12 + z).toNat = spn nb t r z) ∧ Fr (fun a k => a = 69 ∧ r * 12 < (k : Int) ∧ (k : Int) < r * 12 + 12) h h' := by
  have gb := q.1.b
  refine up_ind (hi := S 2) ?_ ?_
  · intro s hs s0 s1 h y tb
    have hw := y.2.1
    have wv := y.2
    refine ⟨h, ?_, fun z z0 z1 => tb z z0 (by omega) z1, Fr.rf⟩
    rw [Watcher_survey_80]
    simp (disch := omega) only [wr_id, ix_id, okx, if_pos, if_neg, Int.toNat_of_nonneg, bak_v, bak_n, wr_b01, wr_bt, b01_or, b01_0, b01_1, lc_lt0, lc_gt0, lc_eq0, wl_wr, wr_wr, wl_id, true_and, and_true, true_or, or_true, not_true_eq_false, not_false_eq_true, nc0, nc1, nc2, nc3, nc4, nc5, nc6, nc7, nc8, nc9, nc10, nc11, nc12, nc13, nc14, nc15, nc16, nc17, nc18, nc19, nc20, nc21, nc22, nc23, nc35, nc47, nc59, nc60, nc61, nc73, nc74, nc214, nc215, nc1115, nc2230, nc3345, if_true, if_false, Int.reduceToNat, hw.k, hw.r0, hw.r1, hw.r2, hw.r3, hw.r4, hw.k1, hw.k2, hw.k3, hw.k4, hw.k5, hw.n1, hw.n2, hw.n3, hw.n4, hw.n5, wv.f5, wv.f6, wv.f7, wv.f8, wv.f9, wv.f10, wv.f11, wv.f12, wv.f13, wv.f14, wv.pk, wv.qk, wv.hk, wv.rk]
  · intro s hs ih s0 s1 h y tb
    have hw := y.2.1
    have wv := y.2
    have hc := y.1.1
    have gk := q.ge (k := s - 1) (by omega) (by omega)
    have es := c_wSeen (d := d + 1) y.1 (z := s - 1) (by omega) gk.2
    have rg := spn_rng (nb := nb) (t := t) (r := r) (s - 1) (by omega) (fun z z0 z1 => (q.ge (by omega) (by omega)).2)
    have sr : -2 ≤ sgt nb t (s - 1) ∧ sgt nb t (s - 1) ≤ 10000 := by unfold sgt; split <;> omega
    have en := c_narrowed (d := d + 2) (h := h) (a := spn nb t r (s - 1)) (v := sgt nb t (s - 1)) (by omega) sr
    have e1 : nrw (spn nb t r (s - 1)) (sgt nb t (s - 1)) = spn nb t r s := by
      have := spn_s (nb := nb) (t := t) (r := r) (s := s - 1) (by omega)
      rw [show s - 1 + 1 = s by omega] at this
      exact this.symm
    rw [e1] at en
    have f0 : Fr (fun a k => a = 69 ∧ r * 12 < (k : Int) ∧ (k : Int) < r * 12 + 12) h (pI h 69 (r * 12 + s).toNat (spn nb t r s)) := Fr.pI Fr.rf ⟨rfl, by omega, by omega⟩
    obtain ⟨h2, e2, k2, f2⟩ := ih (by omega) (by omega) _ (y.fr f0 (fun a k z => by omega)) (fun z z0 z1 z2 => by
      rw [hI_pI]
      by_cases c : z = s
      · rw [c, if_pos ⟨rfl, rfl⟩]
      · rw [if_neg (by omega)]; exact tb z z0 (by omega) z2)
    refine ⟨h2, ?_, k2, f0.tr f2⟩
    rw [show s + 1 - 1 = s by omega] at e2
    rw [Watcher_survey_80]
    simp (disch := omega) only [Watcher_survey_89, Watcher_survey_99, Watcher_survey_102, Watcher_survey_119, wr_id, ix_id, okx, if_pos, if_neg, Int.toNat_of_nonneg, bak_v, bak_n, wr_b01, wr_bt, b01_or, b01_0, b01_1, lc_lt0, lc_gt0, lc_eq0, wl_wr, wr_wr, wl_id, true_and, and_true, true_or, or_true, not_true_eq_false, not_false_eq_true, nc0, nc1, nc2, nc3, nc4, nc5, nc6, nc7, nc8, nc9, nc10, nc11, nc12, nc13, nc14, nc15, nc16, nc17, nc18, nc19, nc20, nc21, nc22, nc23, nc35, nc47, nc59, nc60, nc61, nc73, nc74, nc214, nc215, nc1115, nc2230, nc3345, if_true, if_false, Int.reduceToNat, hw.k, hw.r0, hw.r1, hw.r2, hw.r3, hw.r4, hw.k1, hw.k2, hw.k3, hw.k4, hw.k5, hw.n1, hw.n2, hw.n3, hw.n4, hw.n5, wv.f5, wv.f6, wv.f7, wv.f8, wv.f9, wv.f10, wv.f11, wv.f12, wv.f13, wv.f14, wv.pk, wv.qk, wv.hk, wv.rk, es, en, hc.k6, hc.r5, hc.r6, hc.r0, hc.r2, hc.r7, hc.r8, hc.r9, hc.r10, hc.r11, hc.r12, hc.r13, hc.r14, hc.r15, hc.r16, hc.r17, hc.r18, hc.r8_0, hc.r8_1, hc.r11_0, hc.r11_1, hc.r60_0, hc.r60_1, hc.r60_4, hc.r64_0, hc.r64_3, hc.r64_4, hc.r68_0, hc.r41_0, hc.r41_1, hc.r42_0, hc.r42_1, hc.k7, hc.k8, hc.k9, hc.k11, hc.k12, hc.k13, hc.k32, hc.k41, hc.k42, hc.k43, hc.k60, hc.k61, hc.k62, hc.k63, hc.k64, hc.k65, hc.k66, hc.k67, hc.k68, hc.k69, hc.k70, hc.k71, hc.n6, hc.n7, hc.n8, hc.n9, hc.n11, hc.n12, hc.n13, hc.n32, hc.n41, hc.n42, hc.n43, hc.n60, hc.n61, hc.n62, hc.n63, hc.n64, hc.n65, hc.n66, hc.n67, hc.n68, hc.n69, hc.n70, hc.n71]
    exact e2
theorem oA_0 {nb : Int → Int} {t r : Int} (h : r ≤ 0) : oA nb t r = true := by unfold oA; rw [ff_stop h]; rfl
theorem oA_s {nb : Int → Int} {t r : Int} (h : 1 ≤ r) : oA nb t r = true ↔ (oA nb t (r - 1) = true ∧ nb (40 * t + (r - 1)) < 0) := by
  unfold oA
  simp only [decide_eq_true_eq]
  constructor
  · intro q
    have a := ff_no (Int.le_refl 0) q
    refine ⟨ff_nil (fun j j0 j1 => a j j0 (by omega)), ?_⟩
    have := a (r - 1) (by omega) (by omega)
    simp only [decide_eq_false_iff_not] at this
    omega
  · rintro ⟨q1, q2⟩
    have a := ff_no (Int.le_refl 0) q1
    refine ff_nil (fun j j0 j1 => ?_)
    by_cases c : j = r - 1
    · rw [c]; simp only [decide_eq_false_iff_not]; omega
    · exact a j j0 (by omega)
theorem oA_sh {nb : Int → Int} {t r : Int} (ht : 0 ≤ t) (hn : ∀ z, 0 ≤ z → z < r → -2 ≤ nb (40 * t + z)) : oA nb t r = true ↔ shB nb t 0 r (-2) = true := by
  rw [shB_iff ht (Int.le_refl 0)]
  unfold oA
  simp only [decide_eq_true_eq]
  constructor
  · intro q z z0 z1
    have a := ff_no (Int.le_refl 0) q z z0 z1
    have := hn z z0 z1
    simp only [decide_eq_false_iff_not] at a
    omega
  · intro q
    refine ff_nil (fun j j0 j1 => ?_)
    have := q j j0 j1
    simp only [decide_eq_false_iff_not]
    omega
theorem oB_e {nb : Int → Int} {t R r : Int} (h : R - 1 ≤ r) : oB nb t R r = true := by unfold oB; rw [ff_stop h]; rfl
theorem oB_s {nb : Int → Int} {t R r : Int} (h0 : 0 ≤ r) (h : r < R - 1) : oB nb t R r = true ↔ (oB nb t R (r + 1) = true ∧ nb (40 * t + r) < 0) := by
  unfold oB
  simp only [decide_eq_true_eq]
  constructor
  · intro q
    have a := ff_no h0 q
    refine ⟨ff_nil (fun j j0 j1 => a j (by omega) j1), ?_⟩
    have := a r (by omega) h
    simp only [decide_eq_false_iff_not] at this
    omega
  · rintro ⟨q1, q2⟩
    have a := ff_no (by omega) q1
    refine ff_nil (fun j j0 j1 => ?_)
    by_cases c : j = r
    · rw [c]; simp only [decide_eq_false_iff_not]; omega
    · exact a j (by omega) j1
theorem oB_sh {nb : Int → Int} {t R r : Int} (ht : 0 ≤ t) (h0 : 0 ≤ r) (hn : ∀ z, 0 ≤ z → z < R - 1 → -2 ≤ nb (40 * t + z)) : oB nb t R r = true ↔ shB nb t r (R - 1) (-2) = true := by
  rw [shB_iff ht h0]
  unfold oB
  simp only [decide_eq_true_eq]
  constructor
  · intro q z z0 z1
    have a := ff_no h0 q z z0 z1
    have := hn z (by omega) z1
    simp only [decide_eq_false_iff_not] at a
    omega
  · intro q
    refine ff_nil (fun j j0 j1 => ?_)
    have := q j j0 j1
    simp only [decide_eq_false_iff_not]
    omega
theorem bt_0 (z : Int) : bt 0 z = 0 := by unfold bt; simp
def bitA (h : Hp) (nb : Int → Int) (t r : Int) : Prop := ∀ z, 0 ≤ z → z < 32 → bt (hI h 68 1) z = if z < r ∧ oA nb t z = true then 1 else 0
def bitB (h : Hp) (nb : Int → Int) (t R r : Int) : Prop := ∀ z, 0 ≤ z → z < 32 → bt (hI h 68 2) z = if r < z ∧ z < R ∧ oB nb t R z = true then 1 else 0
theorem c_sv_2 {d w t : Nat} {S rs rm nb : Int → Int} (q : SQ S rm nb t) : ∀ r, 0 ≤ r → r ≤ S 2 → ∀ h, RW h w t S rs rm nb → bitA h nb t r → (∀ x s, 0 ≤ x → x < r → x < s → s < S 2 → hI h 69 (x * 12 + s).toNat = spn nb t x s) → ∃ h', EX (d+3) m_Watcher_survey 15 [(0, .inr (.inr (68))), (1, .inr (.inr (w))), (2, .inr (.inr (33 + 2 * t))), (3, .inl (b01 (oA nb t (r - 1) = true))), (4, .inl (r))] [] (h) = EX (d+3) m_Watcher_survey 131 [(0, .inr (.inr (68))), (1, .inr (.inr (w))), (2, .inr (.inr (33 + 2 * t)))] [] (h') ∧ bitA h' nb t (S 2) ∧ (∀ x s, 0 ≤ x → x < s → s < S 2 → hI h' 69 (x * 12 + s).toNat = spn nb t x s) ∧ Fr (fun a k => a = 69 ∨ (a = 68 ∧ k = 1)) h h' := by
  have gb := q.1.b
  refine up_ind (hi := S 2) ?_ ?_
  · intro r hr r0 r1 h y ba tb
    have hw := y.2.1
    have wv := y.2
    have er : r = S 2 := by omega
    subst er
    refine ⟨h, ?_, ba, fun x s x0 x1 x2 => tb x s x0 (by omega) x1 x2, Fr.rf⟩
    rw [Watcher_survey_15]
    simp (disch := omega) only [wr_id, ix_id, okx, if_pos, if_neg, Int.toNat_of_nonneg, bak_v, bak_n, wr_b01, wr_bt, b01_or, b01_0, b01_1, lc_lt0, lc_gt0, lc_eq0, wl_wr, wr_wr, wl_id, true_and, and_true, true_or, or_true, not_true_eq_false, not_false_eq_true, nc0, nc1, nc2, nc3, nc4, nc5, nc6, nc7, nc8, nc9, nc10, nc11, nc12, nc13, nc14, nc15, nc16, nc17, nc18, nc19, nc20, nc21, nc22, nc23, nc35, nc47, nc59, nc60, nc61, nc73, nc74, nc214, nc215, nc1115, nc2230, nc3345, if_true, if_false, Int.reduceToNat, hw.k, hw.r0, hw.r1, hw.r2, hw.r3, hw.r4, hw.k1, hw.k2, hw.k3, hw.k4, hw.k5, hw.n1, hw.n2, hw.n3, hw.n4, hw.n5, wv.f5, wv.f6, wv.f7, wv.f8, wv.f9, wv.f10, wv.f11, wv.f12, wv.f13, wv.f14, wv.pk, wv.qk, wv.hk, wv.rk]
  · intro r hr ih r0 r1 h y ba tb
    have hw := y.2.1
    have wv := y.2
    have hc := y.1.1
    have st : EX (d+3) m_Watcher_survey 15 [(0, .inr (.inr (68))), (1, .inr (.inr (w))), (2, .inr (.inr (33 + 2 * t))), (3, .inl (b01 (oA nb t (r - 1) = true))), (4, .inl (r))] [] (h) = EX (d+3) m_Watcher_survey 49 [(0, .inr (.inr (68))), (1, .inr (.inr (w))), (2, .inr (.inr (33 + 2 * t))), (4, .inl (r))] [.inl (b01 (oA nb t r = true))] (h) := by
      rw [Watcher_survey_15]
      by_cases c1 : oA nb t (r - 1) = true
      · have b1 : b01 (oA nb t (r - 1) = true) = 1 := by unfold b01; rw [if_pos c1]
        rw [b1]
        by_cases c2 : r = 0
        · have b2 : b01 (oA nb t r = true) = 1 := by unfold b01; rw [if_pos (oA_0 (by omega))]
          rw [b2]
          simp (disch := omega) only [Watcher_survey_24, Watcher_survey_28, Watcher_survey_44, wr_id, ix_id, okx, if_pos, if_neg, Int.toNat_of_nonneg, bak_v, bak_n, wr_b01, wr_bt, b01_or, b01_0, b01_1, lc_lt0, lc_gt0, lc_eq0, wl_wr, wr_wr, wl_id, true_and, and_true, true_or, or_true, not_true_eq_false, not_false_eq_true, nc0, nc1, nc2, nc3, nc4, nc5, nc6, nc7, nc8, nc9, nc10, nc11, nc12, nc13, nc14, nc15, nc16, nc17, nc18, nc19, nc20, nc21, nc22, nc23, nc35, nc47, nc59, nc60, nc61, nc73, nc74, nc214, nc215, nc1115, nc2230, nc3345, if_true, if_false, Int.reduceToNat, hw.k, hw.r0, hw.r1, hw.r2, hw.r3, hw.r4, hw.k1, hw.k2, hw.k3, hw.k4, hw.k5, hw.n1, hw.n2, hw.n3, hw.n4, hw.n5, wv.f5, wv.f6, wv.f7, wv.f8, wv.f9, wv.f10, wv.f11, wv.f12, wv.f13, wv.f14, wv.pk, wv.qk, wv.hk, wv.rk]
        · have gk := q.ge (k := r - 1) (by omega) (by omega)
          have es := c_wSeen (d := d + 1) y.1 (z := r - 1) (by omega) gk.2
          have sr : -2 ≤ sgt nb t (r - 1) ∧ sgt nb t (r - 1) ≤ 10000 := by unfold sgt; split <;> omega
          by_cases c3 : nb (40 * t + (r - 1)) < 0
          · have b2 : b01 (oA nb t r = true) = 1 := by unfold b01; rw [if_pos ((oA_s (by omega)).mpr ⟨c1, c3⟩)]
            have s3 : sgt nb t (r - 1) < 0 := by unfold sgt; split <;> omega
            rw [b2]
            simp (disch := omega) only [Watcher_survey_24, Watcher_survey_28, Watcher_survey_33, Watcher_survey_41, Watcher_survey_44, wr_id, ix_id, okx, if_pos, if_neg, Int.toNat_of_nonneg, bak_v, bak_n, wr_b01, wr_bt, b01_or, b01_0, b01_1, lc_lt0, lc_gt0, lc_eq0, wl_wr, wr_wr, wl_id, true_and, and_true, true_or, or_true, not_true_eq_false, not_false_eq_true, nc0, nc1, nc2, nc3, nc4, nc5, nc6, nc7, nc8, nc9, nc10, nc11, nc12, nc13, nc14, nc15, nc16, nc17, nc18, nc19, nc20, nc21, nc22, nc23, nc35, nc47, nc59, nc60, nc61, nc73, nc74, nc214, nc215, nc1115, nc2230, nc3345, if_true, if_false, Int.reduceToNat, hw.k, hw.r0, hw.r1, hw.r2, hw.r3, hw.r4, hw.k1, hw.k2, hw.k3, hw.k4, hw.k5, hw.n1, hw.n2, hw.n3, hw.n4, hw.n5, wv.f5, wv.f6, wv.f7, wv.f8, wv.f9, wv.f10, wv.f11, wv.f12, wv.f13, wv.f14, wv.pk, wv.qk, wv.hk, wv.rk, es]
          · have b2 : b01 (oA nb t r = true) = 0 := by unfold b01; rw [if_neg (fun z => c3 ((oA_s (by omega)).mp z).2)]
            have s3 : ¬ sgt nb t (r - 1) < 0 := by unfold sgt; split <;> omega
            rw [b2]
            simp (disch := omega) only [Watcher_survey_24, Watcher_survey_28, Watcher_survey_33, Watcher_survey_41, Watcher_survey_48, wr_id, ix_id, okx, if_pos, if_neg, Int.toNat_of_nonneg, bak_v, bak_n, wr_b01, wr_bt, b01_or, b01_0, b01_1, lc_lt0, lc_gt0, lc_eq0, wl_wr, wr_wr, wl_id, true_and, and_true, true_or, or_true, not_true_eq_false, not_false_eq_true, nc0, nc1, nc2, nc3, nc4, nc5, nc6, nc7, nc8, nc9, nc10, nc11, nc12, nc13, nc14, nc15, nc16, nc17, nc18, nc19, nc20, nc21, nc22, nc23, nc35, nc47, nc59, nc60, nc61, nc73, nc74, nc214, nc215, nc1115, nc2230, nc3345, if_true, if_false, Int.reduceToNat, hw.k, hw.r0, hw.r1, hw.r2, hw.r3, hw.r4, hw.k1, hw.k2, hw.k3, hw.k4, hw.k5, hw.n1, hw.n2, hw.n3, hw.n4, hw.n5, wv.f5, wv.f6, wv.f7, wv.f8, wv.f9, wv.f10, wv.f11, wv.f12, wv.f13, wv.f14, wv.pk, wv.qk, wv.hk, wv.rk, es]
      · have b1 : b01 (oA nb t (r - 1) = true) = 0 := by unfold b01; rw [if_neg c1]
        have c2 : ¬ r ≤ 0 := fun z => c1 (oA_0 (by omega))
        have b2 : b01 (oA nb t r = true) = 0 := by unfold b01; rw [if_neg (fun z => c1 ((oA_s (by omega)).mp z).1)]
        rw [b1, b2]
        simp (disch := omega) only [Watcher_survey_24, Watcher_survey_48, wr_id, ix_id, okx, if_pos, if_neg, Int.toNat_of_nonneg, bak_v, bak_n, wr_b01, wr_bt, b01_or, b01_0, b01_1, lc_lt0, lc_gt0, lc_eq0, wl_wr, wr_wr, wl_id, true_and, and_true, true_or, or_true, not_true_eq_false, not_false_eq_true, nc0, nc1, nc2, nc3, nc4, nc5, nc6, nc7, nc8, nc9, nc10, nc11, nc12, nc13, nc14, nc15, nc16, nc17, nc18, nc19, nc20, nc21, nc22, nc23, nc35, nc47, nc59, nc60, nc61, nc73, nc74, nc214, nc215, nc1115, nc2230, nc3345, if_true, if_false, Int.reduceToNat, hw.k, hw.r0, hw.r1, hw.r2, hw.r3, hw.r4, hw.k1, hw.k2, hw.k3, hw.k4, hw.k5, hw.n1, hw.n2, hw.n3, hw.n4, hw.n5, wv.f5, wv.f6, wv.f7, wv.f8, wv.f9, wv.f10, wv.f11, wv.f12, wv.f13, wv.f14, wv.pk, wv.qk, wv.hk, wv.rk]
    have go : ∀ v, (∀ z, 0 ≤ z → z < 32 → bt v z = if z < r + 1 ∧ oA nb t z = true then 1 else 0) → ∃ h', EX (d+3) m_Watcher_survey 71 [(0, .inr (.inr (68))), (1, .inr (.inr (w))), (2, .inr (.inr (33 + 2 * t))), (3, .inl (b01 (oA nb t r = true))), (4, .inl (r))] [] (pI h 68 1 v) = EX (d+3) m_Watcher_survey 131 [(0, .inr (.inr (68))), (1, .inr (.inr (w))), (2, .inr (.inr (33 + 2 * t)))] [] (h') ∧ bitA h' nb t (S 2) ∧ (∀ x s, 0 ≤ x → x < s → s < S 2 → hI h' 69 (x * 12 + s).toNat = spn nb t x s) ∧ Fr (fun a k => a = 69 ∨ (a = 68 ∧ k = 1)) h h' := by
      intro v hv
      have f0 : Fr (fun a k => a = 69 ∨ (a = 68 ∧ k = 1)) h (pI h 68 1 v) := Fr.pI Fr.rf (Or.inr ⟨rfl, rfl⟩)
      have y0 := y.fr f0 (fun a k z => by omega)
      obtain ⟨h1, e1, k1, f1⟩ := c_sv_1 (d := d) (w := w) (rs := rs) q (op := b01 (oA nb t r = true)) (r := r) ⟨r0, hr⟩ (r + 1) (by omega) (by omega) _ y0 (fun z z0 z1 _ => by omega)
      rw [show r + 1 - 1 = r by omega, spn_r] at e1
      have f1' : Fr (fun a k => a = 69 ∨ (a = 68 ∧ k = 1)) (pI h 68 1 v) h1 := f1.mo (fun a k z => Or.inl z.1)
      obtain ⟨h2, e2, a2, k2, f2⟩ := ih (by omega) (by omega) h1 (y0.fr f1 (fun a k z => by omega)) (fun z z0 z1 => by
        rw [f1.I (by omega), hI_pI, if_pos ⟨rfl, rfl⟩]
        exact hv z z0 z1) (fun x s x0 x1 x2 x3 => by
        by_cases c : x = r
        · rw [c]; rw [c] at x2; exact k1 s x2 x3
        · rw [f1.I (by omega), hI_pI, if_neg (by omega)]; exact tb x s x0 (by omega) x2 x3)
      rw [show r + 1 - 1 = r by omega] at e2
      refine ⟨h2, ?_, a2, k2, (f0.tr f1').tr f2⟩
      rw [Watcher_survey_71]
      refine e1.trans ?_
      rw [Watcher_survey_125]
      exact e2
    by_cases c : oA nb t r = true
    · have b2 : b01 (oA nb t r = true) = 1 := by unfold b01; rw [if_pos c]
      obtain ⟨h', e', r'⟩ := go (bOr (hI h 68 1) (pw r)) (fun z z0 z1 => by
        rw [bt_bOr z0 z1, bt_pw r0 z0, ba z z0 z1]
        by_cases cz : z = r
        · subst cz
          rw [if_pos (show z = z from rfl), if_pos (Or.inr rfl), if_pos ⟨by omega, c⟩]
        · rw [if_neg cz]
          by_cases c5 : z < r ∧ oA nb t z = true
          · rw [if_pos c5, if_pos (Or.inl rfl), if_pos ⟨by omega, c5.2⟩]
          · rw [if_neg c5, if_neg (by omega), if_neg (fun z9 => c5 ⟨by omega, z9.2⟩)])
      refine ⟨h', ?_, r'⟩
      refine st.trans ?_
      rw [b2] at e' ⊢
      simp (disch := omega) only [Watcher_survey_49, Watcher_survey_59, Watcher_survey_67, wr_id, ix_id, okx, if_pos, if_neg, Int.toNat_of_nonneg, bak_v, bak_n, wr_b01, wr_bt, b01_or, b01_0, b01_1, lc_lt0, lc_gt0, lc_eq0, wl_wr, wr_wr, wl_id, true_and, and_true, true_or, or_true, not_true_eq_false, not_false_eq_true, nc0, nc1, nc2, nc3, nc4, nc5, nc6, nc7, nc8, nc9, nc10, nc11, nc12, nc13, nc14, nc15, nc16, nc17, nc18, nc19, nc20, nc21, nc22, nc23, nc35, nc47, nc59, nc60, nc61, nc73, nc74, nc214, nc215, nc1115, nc2230, nc3345, if_true, if_false, Int.reduceToNat, hc.k6, hc.r5, hc.r6, hc.r0, hc.r2, hc.r7, hc.r8, hc.r9, hc.r10, hc.r11, hc.r12, hc.r13, hc.r14, hc.r15, hc.r16, hc.r17, hc.r18, hc.r8_0, hc.r8_1, hc.r11_0, hc.r11_1, hc.r60_0, hc.r60_1, hc.r60_4, hc.r64_0, hc.r64_3, hc.r64_4, hc.r68_0, hc.r41_0, hc.r41_1, hc.r42_0, hc.r42_1, hc.k7, hc.k8, hc.k9, hc.k11, hc.k12, hc.k13, hc.k32, hc.k41, hc.k42, hc.k43, hc.k60, hc.k61, hc.k62, hc.k63, hc.k64, hc.k65, hc.k66, hc.k67, hc.k68, hc.k69, hc.k70, hc.k71, hc.n6, hc.n7, hc.n8, hc.n9, hc.n11, hc.n12, hc.n13, hc.n32, hc.n41, hc.n42, hc.n43, hc.n60, hc.n61, hc.n62, hc.n63, hc.n64, hc.n65, hc.n66, hc.n67, hc.n68, hc.n69, hc.n70, hc.n71, bShl_pw]
      exact e'
    · have b2 : b01 (oA nb t r = true) = 0 := by unfold b01; rw [if_neg c]
      obtain ⟨h', e', r'⟩ := go (bOr (hI h 68 1) 0) (fun z z0 z1 => by
        rw [bt_bOr z0 z1, bt_0, ba z z0 z1]
        by_cases c5 : z < r ∧ oA nb t z = true
        · rw [if_pos c5, if_pos (Or.inl rfl), if_pos ⟨by omega, c5.2⟩]
        · rw [if_neg c5, if_neg (by omega), if_neg (fun z9 => c5 ⟨by
            have : ¬ z = r := fun z8 => c (by rw [← z8]; exact z9.2)
            omega, z9.2⟩)])
      refine ⟨h', ?_, r'⟩
      refine st.trans ?_
      rw [b2] at e' ⊢
      simp (disch := omega) only [Watcher_survey_49, Watcher_survey_66, Watcher_survey_67, wr_id, ix_id, okx, if_pos, if_neg, Int.toNat_of_nonneg, bak_v, bak_n, wr_b01, wr_bt, b01_or, b01_0, b01_1, lc_lt0, lc_gt0, lc_eq0, wl_wr, wr_wr, wl_id, true_and, and_true, true_or, or_true, not_true_eq_false, not_false_eq_true, nc0, nc1, nc2, nc3, nc4, nc5, nc6, nc7, nc8, nc9, nc10, nc11, nc12, nc13, nc14, nc15, nc16, nc17, nc18, nc19, nc20, nc21, nc22, nc23, nc35, nc47, nc59, nc60, nc61, nc73, nc74, nc214, nc215, nc1115, nc2230, nc3345, if_true, if_false, Int.reduceToNat, hc.k6, hc.r5, hc.r6, hc.r0, hc.r2, hc.r7, hc.r8, hc.r9, hc.r10, hc.r11, hc.r12, hc.r13, hc.r14, hc.r15, hc.r16, hc.r17, hc.r18, hc.r8_0, hc.r8_1, hc.r11_0, hc.r11_1, hc.r60_0, hc.r60_1, hc.r60_4, hc.r64_0, hc.r64_3, hc.r64_4, hc.r68_0, hc.r41_0, hc.r41_1, hc.r42_0, hc.r42_1, hc.k7, hc.k8, hc.k9, hc.k11, hc.k12, hc.k13, hc.k32, hc.k41, hc.k42, hc.k43, hc.k60, hc.k61, hc.k62, hc.k63, hc.k64, hc.k65, hc.k66, hc.k67, hc.k68, hc.k69, hc.k70, hc.k71, hc.n6, hc.n7, hc.n8, hc.n9, hc.n11, hc.n12, hc.n13, hc.n32, hc.n41, hc.n42, hc.n43, hc.n60, hc.n61, hc.n62, hc.n63, hc.n64, hc.n65, hc.n66, hc.n67, hc.n68, hc.n69, hc.n70, hc.n71]
      exact e'
theorem c_sv_3 {d w t : Nat} {S rs rm nb : Int → Int} (q : SQ S rm nb t) : ∀ r, -1 ≤ r → r < S 2 → ∀ h, RW h w t S rs rm nb → bitB h nb t (S 2) r → ∃ h', EX (d+3) m_Watcher_survey 141 [(0, .inr (.inr (68))), (1, .inr (.inr (w))), (2, .inr (.inr (33 + 2 * t))), (3, .inl (b01 (oB nb t (S 2) (r + 1) = true))), (4, .inl (r))] [] (h) = some (.inl 0, h') ∧ bitB h' nb t (S 2) (-1) ∧ Fr (fun a k => a = 68 ∧ k = 2) h h' := by
  have gb := q.1.b
  refine dn_ind (lo := 0) ?_ ?_
  · intro r hr r0 r1 h y bb
    have er : r = -1 := by omega
    subst er
    refine ⟨h, ?_, bb, Fr.rf⟩
    rw [Watcher_survey_141]
    simp (disch := omega) only [Watcher_survey_203, wr_id, ix_id, okx, if_pos, if_neg, Int.toNat_of_nonneg, bak_v, bak_n, wr_b01, wr_bt, b01_or, b01_0, b01_1, lc_lt0, lc_gt0, lc_eq0, wl_wr, wr_wr, wl_id, true_and, and_true, true_or, or_true, not_true_eq_false, not_false_eq_true, nc0, nc1, nc2, nc3, nc4, nc5, nc6, nc7, nc8, nc9, nc10, nc11, nc12, nc13, nc14, nc15, nc16, nc17, nc18, nc19, nc20, nc21, nc22, nc23, nc35, nc47, nc59, nc60, nc61, nc73, nc74, nc214, nc215, nc1115, nc2230, nc3345, if_true, if_false, Int.reduceToNat]
  · intro r hr ih r0 r1 h y bb
    have hw := y.2.1
    have wv := y.2
    have hc := y.1.1
    have st : EX (d+3) m_Watcher_survey 141 [(0, .inr (.inr (68))), (1, .inr (.inr (w))), (2, .inr (.inr (33 + 2 * t))), (3, .inl (b01 (oB nb t (S 2) (r + 1) = true))), (4, .inl (r))] [] (h) = EX (d+3) m_Watcher_survey 175 [(0, .inr (.inr (68))), (1, .inr (.inr (w))), (2, .inr (.inr (33 + 2 * t))), (4, .inl (r))] [.inl (b01 (oB nb t (S 2) r = true))] (h) := by
      rw [Watcher_survey_141]
      by_cases c1 : oB nb t (S 2) (r + 1) = true
      · have b1 : b01 (oB nb t (S 2) (r + 1) = true) = 1 := by unfold b01; rw [if_pos c1]
        rw [b1]
        by_cases c2 : r = S 2 - 1
        · have b2 : b01 (oB nb t (S 2) r = true) = 1 := by unfold b01; rw [if_pos (oB_e (by omega))]
          rw [b2]
          simp (disch := omega) only [Watcher_survey_146, Watcher_survey_150, Watcher_survey_170, wr_id, ix_id, okx, if_pos, if_neg, Int.toNat_of_nonneg, bak_v, bak_n, wr_b01, wr_bt, b01_or, b01_0, b01_1, lc_lt0, lc_gt0, lc_eq0, wl_wr, wr_wr, wl_id, true_and, and_true, true_or, or_true, not_true_eq_false, not_false_eq_true, nc0, nc1, nc2, nc3, nc4, nc5, nc6, nc7, nc8, nc9, nc10, nc11, nc12, nc13, nc14, nc15, nc16, nc17, nc18, nc19, nc20, nc21, nc22, nc23, nc35, nc47, nc59, nc60, nc61, nc73, nc74, nc214, nc215, nc1115, nc2230, nc3345, if_true, if_false, Int.reduceToNat, hw.k, hw.r0, hw.r1, hw.r2, hw.r3, hw.r4, hw.k1, hw.k2, hw.k3, hw.k4, hw.k5, hw.n1, hw.n2, hw.n3, hw.n4, hw.n5, wv.f5, wv.f6, wv.f7, wv.f8, wv.f9, wv.f10, wv.f11, wv.f12, wv.f13, wv.f14, wv.pk, wv.qk, wv.hk, wv.rk]
        · have gk := q.ge (k := r) (by omega) (by omega)
          have es := c_wSeen (d := d + 1) y.1 (z := r) (by omega) gk.2
          have sr : -2 ≤ sgt nb t r ∧ sgt nb t r ≤ 10000 := by unfold sgt; split <;> omega
          by_cases c3 : nb (40 * t + r) < 0
          · have b2 : b01 (oB nb t (S 2) r = true) = 1 := by unfold b01; rw [if_pos ((oB_s hr (by omega)).mpr ⟨c1, c3⟩)]
            have s3 : sgt nb t r < 0 := by unfold sgt; split <;> omega
            rw [b2]
            simp (disch := omega) only [Watcher_survey_146, Watcher_survey_150, Watcher_survey_161, Watcher_survey_167, Watcher_survey_170, wr_id, ix_id, okx, if_pos, if_neg, Int.toNat_of_nonneg, bak_v, bak_n, wr_b01, wr_bt, b01_or, b01_0, b01_1, lc_lt0, lc_gt0, lc_eq0, wl_wr, wr_wr, wl_id, true_and, and_true, true_or, or_true, not_true_eq_false, not_false_eq_true, nc0, nc1, nc2, nc3, nc4, nc5, nc6, nc7, nc8, nc9, nc10, nc11, nc12, nc13, nc14, nc15, nc16, nc17, nc18, nc19, nc20, nc21, nc22, nc23, nc35, nc47, nc59, nc60, nc61, nc73, nc74, nc214, nc215, nc1115, nc2230, nc3345, if_true, if_false, Int.reduceToNat, hw.k, hw.r0, hw.r1, hw.r2, hw.r3, hw.r4, hw.k1, hw.k2, hw.k3, hw.k4, hw.k5, hw.n1, hw.n2, hw.n3, hw.n4, hw.n5, wv.f5, wv.f6, wv.f7, wv.f8, wv.f9, wv.f10, wv.f11, wv.f12, wv.f13, wv.f14, wv.pk, wv.qk, wv.hk, wv.rk, es]
          · have b2 : b01 (oB nb t (S 2) r = true) = 0 := by unfold b01; rw [if_neg (fun z => c3 ((oB_s hr (by omega)).mp z).2)]
            have s3 : ¬ sgt nb t r < 0 := by unfold sgt; split <;> omega
            rw [b2]
            simp (disch := omega) only [Watcher_survey_146, Watcher_survey_150, Watcher_survey_161, Watcher_survey_167, Watcher_survey_174, wr_id, ix_id, okx, if_pos, if_neg, Int.toNat_of_nonneg, bak_v, bak_n, wr_b01, wr_bt, b01_or, b01_0, b01_1, lc_lt0, lc_gt0, lc_eq0, wl_wr, wr_wr, wl_id, true_and, and_true, true_or, or_true, not_true_eq_false, not_false_eq_true, nc0, nc1, nc2, nc3, nc4, nc5, nc6, nc7, nc8, nc9, nc10, nc11, nc12, nc13, nc14, nc15, nc16, nc17, nc18, nc19, nc20, nc21, nc22, nc23, nc35, nc47, nc59, nc60, nc61, nc73, nc74, nc214, nc215, nc1115, nc2230, nc3345, if_true, if_false, Int.reduceToNat, hw.k, hw.r0, hw.r1, hw.r2, hw.r3, hw.r4, hw.k1, hw.k2, hw.k3, hw.k4, hw.k5, hw.n1, hw.n2, hw.n3, hw.n4, hw.n5, wv.f5, wv.f6, wv.f7, wv.f8, wv.f9, wv.f10, wv.f11, wv.f12, wv.f13, wv.f14, wv.pk, wv.qk, wv.hk, wv.rk, es]
      · have b1 : b01 (oB nb t (S 2) (r + 1) = true) = 0 := by unfold b01; rw [if_neg c1]
        have c2 : ¬ S 2 - 1 ≤ r + 1 := fun z => c1 (oB_e z)
        have b2 : b01 (oB nb t (S 2) r = true) = 0 := by unfold b01; rw [if_neg (fun z => c1 ((oB_s hr (by omega)).mp z).1)]
        rw [b1, b2]
        simp (disch := omega) only [Watcher_survey_146, Watcher_survey_174, wr_id, ix_id, okx, if_pos, if_neg, Int.toNat_of_nonneg, bak_v, bak_n, wr_b01, wr_bt, b01_or, b01_0, b01_1, lc_lt0, lc_gt0, lc_eq0, wl_wr, wr_wr, wl_id, true_and, and_true, true_or, or_true, not_true_eq_false, not_false_eq_true, nc0, nc1, nc2, nc3, nc4, nc5, nc6, nc7, nc8, nc9, nc10, nc11, nc12, nc13, nc14, nc15, nc16, nc17, nc18, nc19, nc20, nc21, nc22, nc23, nc35, nc47, nc59, nc60, nc61, nc73, nc74, nc214, nc215, nc1115, nc2230, nc3345, if_true, if_false, Int.reduceToNat, hw.k, hw.r0, hw.r1, hw.r2, hw.r3, hw.r4, hw.k1, hw.k2, hw.k3, hw.k4, hw.k5, hw.n1, hw.n2, hw.n3, hw.n4, hw.n5, wv.f5, wv.f6, wv.f7, wv.f8, wv.f9, wv.f10, wv.f11, wv.f12, wv.f13, wv.f14, wv.pk, wv.qk, wv.hk, wv.rk]
    have go : ∀ v, (∀ z, 0 ≤ z → z < 32 → bt v z = if r - 1 < z ∧ z < S 2 ∧ oB nb t (S 2) z = true then 1 else 0) → ∃ h', EX (d+3) m_Watcher_survey 197 [(0, .inr (.inr (68))), (1, .inr (.inr (w))), (2, .inr (.inr (33 + 2 * t))), (3, .inl (b01 (oB nb t (S 2) r = true))), (4, .inl (r))] [] (pI h 68 2 v) = some (.inl 0, h') ∧ bitB h' nb t (S 2) (-1) ∧ Fr (fun a k => a = 68 ∧ k = 2) h h' := by
      intro v hv
      have f0 : Fr (fun a k => a = 68 ∧ k = 2) h (pI h 68 2 v) := Fr.pI Fr.rf ⟨rfl, rfl⟩
      have y0 := y.fr f0 (fun a k z => by omega)
      obtain ⟨h2, e2, a2, f2⟩ := ih (by omega) (by omega) _ y0 (fun z z0 z1 => by
        rw [hI_pI, if_pos ⟨rfl, rfl⟩]
        exact hv z z0 z1)
      rw [show r - 1 + 1 = r by omega] at e2
      refine ⟨h2, ?_, a2, f0.tr f2⟩
      rw [Watcher_survey_197, show r + -1 = r - 1 by omega]
      exact e2
    by_cases c : oB nb t (S 2) r = true
    · have b2 : b01 (oB nb t (S 2) r = true) = 1 := by unfold b01; rw [if_pos c]
      obtain ⟨h', e', r'⟩ := go (bOr (hI h 68 2) (pw r)) (fun z z0 z1 => by
        rw [bt_bOr z0 z1, bt_pw hr z0, bb z z0 z1]
        by_cases cz : z = r
        · subst cz
          rw [if_pos (show z = z from rfl), if_pos (Or.inr rfl), if_pos ⟨by omega, r1, c⟩]
        · rw [if_neg cz]
          by_cases c5 : r < z ∧ z < S 2 ∧ oB nb t (S 2) z = true
          · rw [if_pos c5, if_pos (Or.inl rfl), if_pos ⟨by omega, c5.2⟩]
          · rw [if_neg c5, if_neg (by omega), if_neg (fun z9 => c5 ⟨by omega, z9.2⟩)])
      refine ⟨h', ?_, r'⟩
      refine st.trans ?_
      rw [b2] at e' ⊢
      simp (disch := omega) only [Watcher_survey_175, Watcher_survey_185, Watcher_survey_193, wr_id, ix_id, okx, if_pos, if_neg, Int.toNat_of_nonneg, bak_v, bak_n, wr_b01, wr_bt, b01_or, b01_0, b01_1, lc_lt0, lc_gt0, lc_eq0, wl_wr, wr_wr, wl_id, true_and, and_true, true_or, or_true, not_true_eq_false, not_false_eq_true, nc0, nc1, nc2, nc3, nc4, nc5, nc6, nc7, nc8, nc9, nc10, nc11, nc12, nc13, nc14, nc15, nc16, nc17, nc18, nc19, nc20, nc21, nc22, nc23, nc35, nc47, nc59, nc60, nc61, nc73, nc74, nc214, nc215, nc1115, nc2230, nc3345, if_true, if_false, Int.reduceToNat, hc.k6, hc.r5, hc.r6, hc.r0, hc.r2, hc.r7, hc.r8, hc.r9, hc.r10, hc.r11, hc.r12, hc.r13, hc.r14, hc.r15, hc.r16, hc.r17, hc.r18, hc.r8_0, hc.r8_1, hc.r11_0, hc.r11_1, hc.r60_0, hc.r60_1, hc.r60_4, hc.r64_0, hc.r64_3, hc.r64_4, hc.r68_0, hc.r41_0, hc.r41_1, hc.r42_0, hc.r42_1, hc.k7, hc.k8, hc.k9, hc.k11, hc.k12, hc.k13, hc.k32, hc.k41, hc.k42, hc.k43, hc.k60, hc.k61, hc.k62, hc.k63, hc.k64, hc.k65, hc.k66, hc.k67, hc.k68, hc.k69, hc.k70, hc.k71, hc.n6, hc.n7, hc.n8, hc.n9, hc.n11, hc.n12, hc.n13, hc.n32, hc.n41, hc.n42, hc.n43, hc.n60, hc.n61, hc.n62, hc.n63, hc.n64, hc.n65, hc.n66, hc.n67, hc.n68, hc.n69, hc.n70, hc.n71, bShl_pw]
      exact e'
    · have b2 : b01 (oB nb t (S 2) r = true) = 0 := by unfold b01; rw [if_neg c]
      obtain ⟨h', e', r'⟩ := go (bOr (hI h 68 2) 0) (fun z z0 z1 => by
        rw [bt_bOr z0 z1, bt_0, bb z z0 z1]
        by_cases c5 : r < z ∧ z < S 2 ∧ oB nb t (S 2) z = true
        · rw [if_pos c5, if_pos (Or.inl rfl), if_pos ⟨by omega, c5.2⟩]
        · rw [if_neg c5, if_neg (by omega), if_neg (fun z9 => c5 ⟨by
            have : ¬ z = r := fun z8 => c (by rw [← z8]; exact z9.2.2)
            omega, z9.2⟩)])
      refine ⟨h', ?_, r'⟩
      refine st.trans ?_
      rw [b2] at e' ⊢
      simp (disch := omega) only [Watcher_survey_175, Watcher_survey_192, Watcher_survey_193, wr_id, ix_id, okx, if_pos, if_neg, Int.toNat_of_nonneg, bak_v, bak_n, wr_b01, wr_bt, b01_or, b01_0, b01_1, lc_lt0, lc_gt0, lc_eq0, wl_wr, wr_wr, wl_id, true_and, and_true, true_or, or_true, not_true_eq_false, not_false_eq_true, nc0, nc1, nc2, nc3, nc4, nc5, nc6, nc7, nc8, nc9, nc10, nc11, nc12, nc13, nc14, nc15, nc16, nc17, nc18, nc19, nc20, nc21, nc22, nc23, nc35, nc47, nc59, nc60, nc61, nc73, nc74, nc214, nc215, nc1115, nc2230, nc3345, if_true, if_false, Int.reduceToNat, hc.k6, hc.r5, hc.r6, hc.r0, hc.r2, hc.r7, hc.r8, hc.r9, hc.r10, hc.r11, hc.r12, hc.r13, hc.r14, hc.r15, hc.r16, hc.r17, hc.r18, hc.r8_0, hc.r8_1, hc.r11_0, hc.r11_1, hc.r60_0, hc.r60_1, hc.r60_4, hc.r64_0, hc.r64_3, hc.r64_4, hc.r68_0, hc.r41_0, hc.r41_1, hc.r42_0, hc.r42_1, hc.k7, hc.k8, hc.k9, hc.k11, hc.k12, hc.k13, hc.k32, hc.k41, hc.k42, hc.k43, hc.k60, hc.k61, hc.k62, hc.k63, hc.k64, hc.k65, hc.k66, hc.k67, hc.k68, hc.k69, hc.k70, hc.k71, hc.n6, hc.n7, hc.n8, hc.n9, hc.n11, hc.n12, hc.n13, hc.n32, hc.n41, hc.n42, hc.n43, hc.n60, hc.n61, hc.n62, hc.n63, hc.n64, hc.n65, hc.n66, hc.n67, hc.n68, hc.n69, hc.n70, hc.n71]
      exact e'
/-- what is surveyed -/
def SV (h : Hp) (S nb : Int → Int) (t : Int) : Prop := (∀ r, 0 ≤ r → r < S 2 → bt (hI h 68 1) r = b01 (shB nb t 0 r (-2) = true)) ∧ (∀ r, 0 ≤ r → r < S 2 → bt (hI h 68 2) r = b01 (shB nb t r (S 2 - 1) (-2) = true)) ∧ (∀ r s, 0 ≤ r → r < s → s < S 2 → hI h 69 (r * 12 + s).toNat = spn nb t r s)
theorem SV.fr {h h' : Hp} {S nb : Int → Int} {t : Int} (v : SV h S nb t) {p : Nat → Nat → Prop} (f : Fr p h h') (hp : ∀ a k, p a k → ¬ a = 68 ∧ ¬ a = 69) : SV h' S nb t := by
  have n8 : ∀ k, ¬ p 68 k := fun k q => (hp _ _ q).1 rfl
  have n9 : ∀ k, ¬ p 69 k := fun k q => (hp _ _ q).2 rfl
  exact ⟨fun r r0 r1 => by rw [f.I (n8 1)]; exact v.1 r r0 r1, fun r r0 r1 => by rw [f.I (n8 2)]; exact v.2.1 r r0 r1, fun r s r0 r1 r2 => by rw [f.I (n9 _)]; exact v.2.2 r s r0 r1 r2⟩
theorem c_survey {d w t : Nat} {h : Hp} {S rs rm nb : Int → Int} (q : SQ S rm nb t) (y : RW h w t S rs rm nb) : ∃ h', cal (d+4) m_Watcher_survey [.inr (.inr (68)), .inr (.inr (w)), .inr (.inr (33 + 2 * t))] (h) = some (.inl 0, h') ∧ SV h' S nb t ∧ Fr p68 h h' := by
  have gb := q.1.b
  have hc := y.1.1
  have f0 : Fr p68 h (pI (pI h 68 1 0) 68 2 0) := Fr.pI (Fr.pI Fr.rf (Or.inr ⟨rfl, Or.inl rfl⟩)) (Or.inr ⟨rfl, Or.inr rfl⟩)
  have y0 := y.fr f0 p68.ge
  obtain ⟨h1, e1, a1, k1, f1⟩ := c_sv_2 (d := d) (w := w) (rs := rs) q 0 (by omega) (by omega) _ y0 (fun z z0 z1 => by
    rw [hI_pI, if_neg (by omega), hI_pI, if_pos ⟨rfl, rfl⟩, bt_0, if_neg (by omega)]) (fun x s x0 x1 _ _ => by omega)
  have y1 := y0.fr f1 (fun a k z => by omega)
  have hw1 := y1.2.1
  have wv1 := y1.2
  obtain ⟨h2, e2, a2, f2⟩ := c_sv_3 (d := d) (w := w) (rs := rs) q (S 2 - 1) (by omega) (by omega) h1 y1 (fun z z0 z1 => by
    rw [f1.I (by omega), hI_pI, if_pos ⟨rfl, rfl⟩, bt_0, if_neg (by omega)])
  have b1 : b01 (oA nb t (0 - 1) = true) = 1 := by unfold b01; rw [if_pos (oA_0 (by omega))]
  have b2 : b01 (oB nb t (S 2) (S 2 - 1 + 1) = true) = 1 := by unfold b01; rw [if_pos (oB_e (by omega))]
  rw [b1] at e1
  rw [b2] at e2
  refine ⟨h2, ?_, ⟨fun r r0 r1 => ?_, fun r r0 r1 => ?_, fun r s r0 r1 r2 => ?_⟩, (f0.tr (f1.mo (fun a k z => by unfold p68; omega))).tr (f2.mo (fun a k z => by unfold p68; omega))⟩
  · show EX (d+3) m_Watcher_survey 0 [(0, .inr (.inr (68))), (1, .inr (.inr (w))), (2, .inr (.inr (33 + 2 * t)))] [] (h) = _
    simp (disch := omega) only [Watcher_survey_0, Watcher_survey_5, Watcher_survey_10, wr_id, ix_id, okx, if_pos, if_neg, Int.toNat_of_nonneg, bak_v, bak_n, wr_b01, wr_bt, b01_or, b01_0, b01_1, lc_lt0, lc_gt0, lc_eq0, wl_wr, wr_wr, wl_id, true_and, and_true, true_or, or_true, not_true_eq_false, not_false_eq_true, nc0, nc1, nc2, nc3, nc4, nc5, nc6, nc7, nc8, nc9, nc10, nc11, nc12, nc13, nc14, nc15, nc16, nc17, nc18, nc19, nc20, nc21, nc22, nc23, nc35, nc47, nc59, nc60, nc61, nc73, nc74, nc214, nc215, nc1115, nc2230, nc3345, if_true, if_false, Int.reduceToNat, hc.k6, hc.r5, hc.r6, hc.r0, hc.r2, hc.r7, hc.r8, hc.r9, hc.r10, hc.r11, hc.r12, hc.r13, hc.r14, hc.r15, hc.r16, hc.r17, hc.r18, hc.r8_0, hc.r8_1, hc.r11_0, hc.r11_1, hc.r60_0, hc.r60_1, hc.r60_4, hc.r64_0, hc.r64_3, hc.r64_4, hc.r68_0, hc.r41_0, hc.r41_1, hc.r42_0, hc.r42_1, hc.k7, hc.k8, hc.k9, hc.k11, hc.k12, hc.k13, hc.k32, hc.k41, hc.k42, hc.k43, hc.k60, hc.k61, hc.k62, hc.k63, hc.k64, hc.k65, hc.k66, hc.k67, hc.k68, hc.k69, hc.k70, hc.k71, hc.n6, hc.n7, hc.n8, hc.n9, hc.n11, hc.n12, hc.n13, hc.n32, hc.n41, hc.n42, hc.n43, hc.n60, hc.n61, hc.n62, hc.n63, hc.n64, hc.n65, hc.n66, hc.n67, hc.n68, hc.n69, hc.n70, hc.n71, sK_pI]
    refine e1.trans ?_
    rw [Watcher_survey_131, if_pos hw1.k, wv1.f6]
    exact e2
  · rw [f2.I (by omega), a1 r r0 (by omega)]
    unfold b01
    by_cases c : shB nb t 0 r (-2) = true
    · rw [if_pos c, if_pos ⟨r1, (oA_sh (by omega) (fun z z0 z1 => (q.ge z0 (by omega)).2)).mpr c⟩]
    · rw [if_neg c, if_neg (fun z9 => c ((oA_sh (by omega) (fun z z0 z1 => (q.ge z0 (by omega)).2)).mp z9.2))]
  · rw [a2 r r0 (by omega)]
    unfold b01
    by_cases c : shB nb t r (S 2 - 1) (-2) = true
    · rw [if_pos c, if_pos ⟨by omega, r1, (oB_sh (by omega) r0 (fun z z0 z1 => (q.ge z0 z1).2)).mpr c⟩]
    · rw [if_neg c, if_neg (fun z9 => c ((oB_sh (by omega) r0 (fun z z0 z1 => (q.ge z0 z1).2)).mp z9.2.2))]
  · rw [f2.I (by omega)]
    exact k1 r s r0 r1 r2
theorem c_has {d : Nat} {h : Hp} {v r : Int} (h0 : 0 ≤ r) (h1 : r < 32) : cal (d+1) m_Watcher_has [.inl (v), .inl (r)] (h) = some (.inl (bt v r), h) := by
  show EX (d) m_Watcher_has 0 [(0, .inl (v)), (1, .inl (r))] [] (h) = _
  simp (disch := omega) only [Watcher_has_0, Watcher_has_8, Watcher_has_12, Watcher_has_13, wr_id, ix_id, okx, if_pos, if_neg, Int.toNat_of_nonneg, bak_v, bak_n, wr_b01, wr_bt, b01_or, b01_0, b01_1, lc_lt0, lc_gt0, lc_eq0, wl_wr, wr_wr, wl_id, true_and, and_true, true_or, or_true, not_true_eq_false, not_false_eq_true, nc0, nc1, nc2, nc3, nc4, nc5, nc6, nc7, nc8, nc9, nc10, nc11, nc12, nc13, nc14, nc15, nc16, nc17, nc18, nc19, nc20, nc21, nc22, nc23, nc35, nc47, nc59, nc60, nc61, nc73, nc74, nc214, nc215, nc1115, nc2230, nc3345, if_true, if_false, Int.reduceToNat, bt_s]
  rcases bt_01 v r with e | e <;> rw [e] <;> simp
theorem c_fits {d w t : Nat} {h : Hp} {S rs rm nb : Int → Int} (q : SQ S rm nb t) (y : RW h w t S rs rm nb) (v : SV h S nb t) {x r g s : Int} (hx : 0 ≤ x ∧ x < g ∧ g < S 1) (hr : 0 ≤ r ∧ r < s ∧ s < S 2) : cal (d+2) m_Watcher_fits [.inr (.inr (68)), .inr (.inr (w)), .inl (x), .inl (r), .inl (g), .inl (s)] (h) = some (.inl (b01 (0 ≤ sagM S x r g s ∧ shB nb t r s (sagM S x r g s) = true)), h) := by
  have ga := q.1.a
  have gb := q.1.b
  have hc := y.1.1
  have hw := y.2.1
  have es := c_sag (d := d) y.2 ga.2 gb.2 (x := x) (r := r) (y := g) (s := s) (by omega) (by omega) (by omega) (by omega) (by omega) (by omega)
  have sg := q.1.1.sag (x := x) (r := r) (y := g) (s := s) (by omega) (by omega) (by omega) (by omega)
  have sp := v.2.2 r s hr.1 hr.2.1 hr.2.2
  have rg := spn_rng (nb := nb) (t := t) (r := r) s (by omega) (fun z z0 z1 => (q.ge (by omega) (by omega)).2)
  show EX (d+1) m_Watcher_fits 0 [(0, .inr (.inr (68))), (1, .inr (.inr (w))), (2, .inl (x)), (3, .inl (r)), (4, .inl (g)), (5, .inl (s))] [] (h) = _
  by_cases c1 : sagM S x r g s < 0
  · have b : b01 (0 ≤ sagM S x r g s ∧ shB nb t r s (sagM S x r g s) = true) = 0 := by unfold b01; rw [if_neg (by omega)]
    rw [b]
    simp (disch := omega) only [Watcher_fits_0, Watcher_fits_10, Watcher_fits_31, Watcher_fits_37, Watcher_fits_44, Watcher_fits_48, Watcher_fits_49, wr_id, ix_id, okx, if_pos, if_neg, Int.toNat_of_nonneg, bak_v, bak_n, wr_b01, wr_bt, b01_or, b01_0, b01_1, lc_lt0, lc_gt0, lc_eq0, wl_wr, wr_wr, wl_id, true_and, and_true, true_or, or_true, not_true_eq_false, not_false_eq_true, nc0, nc1, nc2, nc3, nc4, nc5, nc6, nc7, nc8, nc9, nc10, nc11, nc12, nc13, nc14, nc15, nc16, nc17, nc18, nc19, nc20, nc21, nc22, nc23, nc35, nc47, nc59, nc60, nc61, nc73, nc74, nc214, nc215, nc1115, nc2230, nc3345, if_true, if_false, Int.reduceToNat, hc.k6, hc.r5, hc.r6, hc.r0, hc.r2, hc.r7, hc.r8, hc.r9, hc.r10, hc.r11, hc.r12, hc.r13, hc.r14, hc.r15, hc.r16, hc.r17, hc.r18, hc.r8_0, hc.r8_1, hc.r11_0, hc.r11_1, hc.r60_0, hc.r60_1, hc.r60_4, hc.r64_0, hc.r64_3, hc.r64_4, hc.r68_0, hc.r41_0, hc.r41_1, hc.r42_0, hc.r42_1, hc.k7, hc.k8, hc.k9, hc.k11, hc.k12, hc.k13, hc.k32, hc.k41, hc.k42, hc.k43, hc.k60, hc.k61, hc.k62, hc.k63, hc.k64, hc.k65, hc.k66, hc.k67, hc.k68, hc.k69, hc.k70, hc.k71, hc.n6, hc.n7, hc.n8, hc.n9, hc.n11, hc.n12, hc.n13, hc.n32, hc.n41, hc.n42, hc.n43, hc.n60, hc.n61, hc.n62, hc.n63, hc.n64, hc.n65, hc.n66, hc.n67, hc.n68, hc.n69, hc.n70, hc.n71, hw.k, es, sp]
  · have si := spn_iff (nb := nb) (t := t) (r := r) (v := sagM S x r g s) (by omega) s (by omega) (fun z z0 z1 => (q.ge (by omega) (by omega)).2)
    rw [← shB_iff (by omega) hr.1] at si
    by_cases c2 : spn nb t r s = -1
    · have b : b01 (0 ≤ sagM S x r g s ∧ shB nb t r s (sagM S x r g s) = true) = 1 := by unfold b01; rw [if_pos ⟨by omega, si.mp (Or.inl c2)⟩]
      rw [b]
      simp (disch := omega) only [Watcher_fits_0, Watcher_fits_10, Watcher_fits_31, Watcher_fits_37, Watcher_fits_44, Watcher_fits_48, Watcher_fits_49, wr_id, ix_id, okx, if_pos, if_neg, Int.toNat_of_nonneg, bak_v, bak_n, wr_b01, wr_bt, b01_or, b01_0, b01_1, lc_lt0, lc_gt0, lc_eq0, wl_wr, wr_wr, wl_id, true_and, and_true, true_or, or_true, not_true_eq_false, not_false_eq_true, nc0, nc1, nc2, nc3, nc4, nc5, nc6, nc7, nc8, nc9, nc10, nc11, nc12, nc13, nc14, nc15, nc16, nc17, nc18, nc19, nc20, nc21, nc22, nc23, nc35, nc47, nc59, nc60, nc61, nc73, nc74, nc214, nc215, nc1115, nc2230, nc3345, if_true, if_false, Int.reduceToNat, hc.k6, hc.r5, hc.r6, hc.r0, hc.r2, hc.r7, hc.r8, hc.r9, hc.r10, hc.r11, hc.r12, hc.r13, hc.r14, hc.r15, hc.r16, hc.r17, hc.r18, hc.r8_0, hc.r8_1, hc.r11_0, hc.r11_1, hc.r60_0, hc.r60_1, hc.r60_4, hc.r64_0, hc.r64_3, hc.r64_4, hc.r68_0, hc.r41_0, hc.r41_1, hc.r42_0, hc.r42_1, hc.k7, hc.k8, hc.k9, hc.k11, hc.k12, hc.k13, hc.k32, hc.k41, hc.k42, hc.k43, hc.k60, hc.k61, hc.k62, hc.k63, hc.k64, hc.k65, hc.k66, hc.k67, hc.k68, hc.k69, hc.k70, hc.k71, hc.n6, hc.n7, hc.n8, hc.n9, hc.n11, hc.n12, hc.n13, hc.n32, hc.n41, hc.n42, hc.n43, hc.n60, hc.n61, hc.n62, hc.n63, hc.n64, hc.n65, hc.n66, hc.n67, hc.n68, hc.n69, hc.n70, hc.n71, hw.k, es, sp, c2]
    · by_cases c3 : spn nb t r s = sagM S x r g s
      · have b : b01 (0 ≤ sagM S x r g s ∧ shB nb t r s (sagM S x r g s) = true) = 1 := by unfold b01; rw [if_pos ⟨by omega, si.mp (Or.inr c3)⟩]
        rw [b]
        rw [c3] at sp
        simp (disch := omega) only [Watcher_fits_0, Watcher_fits_10, Watcher_fits_31, Watcher_fits_37, Watcher_fits_44, Watcher_fits_48, Watcher_fits_49, wr_id, ix_id, okx, if_pos, if_neg, Int.toNat_of_nonneg, bak_v, bak_n, wr_b01, wr_bt, b01_or, b01_0, b01_1, lc_lt0, lc_gt0, lc_eq0, wl_wr, wr_wr, wl_id, true_and, and_true, true_or, or_true, not_true_eq_false, not_false_eq_true, nc0, nc1, nc2, nc3, nc4, nc5, nc6, nc7, nc8, nc9, nc10, nc11, nc12, nc13, nc14, nc15, nc16, nc17, nc18, nc19, nc20, nc21, nc22, nc23, nc35, nc47, nc59, nc60, nc61, nc73, nc74, nc214, nc215, nc1115, nc2230, nc3345, if_true, if_false, Int.reduceToNat, hc.k6, hc.r5, hc.r6, hc.r0, hc.r2, hc.r7, hc.r8, hc.r9, hc.r10, hc.r11, hc.r12, hc.r13, hc.r14, hc.r15, hc.r16, hc.r17, hc.r18, hc.r8_0, hc.r8_1, hc.r11_0, hc.r11_1, hc.r60_0, hc.r60_1, hc.r60_4, hc.r64_0, hc.r64_3, hc.r64_4, hc.r68_0, hc.r41_0, hc.r41_1, hc.r42_0, hc.r42_1, hc.k7, hc.k8, hc.k9, hc.k11, hc.k12, hc.k13, hc.k32, hc.k41, hc.k42, hc.k43, hc.k60, hc.k61, hc.k62, hc.k63, hc.k64, hc.k65, hc.k66, hc.k67, hc.k68, hc.k69, hc.k70, hc.k71, hc.n6, hc.n7, hc.n8, hc.n9, hc.n11, hc.n12, hc.n13, hc.n32, hc.n41, hc.n42, hc.n43, hc.n60, hc.n61, hc.n62, hc.n63, hc.n64, hc.n65, hc.n66, hc.n67, hc.n68, hc.n69, hc.n70, hc.n71, hw.k, es, sp]
      · have b : b01 (0 ≤ sagM S x r g s ∧ shB nb t r s (sagM S x r g s) = true) = 0 := by unfold b01; rw [if_neg (fun z9 => by have := si.mpr z9.2; omega)]
        rw [b]
        simp (disch := omega) only [Watcher_fits_0, Watcher_fits_10, Watcher_fits_31, Watcher_fits_37, Watcher_fits_44, Watcher_fits_48, Watcher_fits_49, wr_id, ix_id, okx, if_pos, if_neg, Int.toNat_of_nonneg, bak_v, bak_n, wr_b01, wr_bt, b01_or, b01_0, b01_1, lc_lt0, lc_gt0, lc_eq0, wl_wr, wr_wr, wl_id, true_and, and_true, true_or, or_true, not_true_eq_false, not_false_eq_true, nc0, nc1, nc2, nc3, nc4, nc5, nc6, nc7, nc8, nc9, nc10, nc11, nc12, nc13, nc14, nc15, nc16, nc17, nc18, nc19, nc20, nc21, nc22, nc23, nc35, nc47, nc59, nc60, nc61, nc73, nc74, nc214, nc215, nc1115, nc2230, nc3345, if_true, if_false, Int.reduceToNat, hc.k6, hc.r5, hc.r6, hc.r0, hc.r2, hc.r7, hc.r8, hc.r9, hc.r10, hc.r11, hc.r12, hc.r13, hc.r14, hc.r15, hc.r16, hc.r17, hc.r18, hc.r8_0, hc.r8_1, hc.r11_0, hc.r11_1, hc.r60_0, hc.r60_1, hc.r60_4, hc.r64_0, hc.r64_3, hc.r64_4, hc.r68_0, hc.r41_0, hc.r41_1, hc.r42_0, hc.r42_1, hc.k7, hc.k8, hc.k9, hc.k11, hc.k12, hc.k13, hc.k32, hc.k41, hc.k42, hc.k43, hc.k60, hc.k61, hc.k62, hc.k63, hc.k64, hc.k65, hc.k66, hc.k67, hc.k68, hc.k69, hc.k70, hc.k71, hc.n6, hc.n7, hc.n8, hc.n9, hc.n11, hc.n12, hc.n13, hc.n32, hc.n41, hc.n42, hc.n43, hc.n60, hc.n61, hc.n62, hc.n63, hc.n64, hc.n65, hc.n66, hc.n67, hc.n68, hc.n69, hc.n70, hc.n71, hw.k, es, sp]
