/-! looks: the model's call; the class -/
def lkB (nb : Int → Int) (t : Int) : Int → Bool := fun k => decide (¬ (0 ≤ nb (40 * t + k) ∧ nb (40 * t + k) ≤ 999))
def lkQ (c : Int → Int) (n : Int) : Int → Bool := fun k => decide (lkP c 0 n k = LK c 0 n)
def ansLook (rs rm nb : Int → Int) (t u : Int) : Int := if ¬ (0 ≤ u ∧ u ≤ 2) then -2 else if ¬ noT rs t = 0 then noT rs t else if ¬ (1 ≤ rm t ∧ rm t ≤ 20) then -4 else if ¬ ff (lkB nb t) 0 (rm t) = -1 then -3 else if u = 1 then ff (lkQ (lkC nb t 0) (rm t)) 0 (rm t) else LK (lkC nb t (if u = 2 then 1 else 0)) 0 (rm t)
theorem lkC_ok {nb : Int → Int} {t u N : Int} (h : ff (lkB nb t) 0 N = -1) : ∀ k, 0 ≤ k → k < N → 0 ≤ lkC nb t u k ∧ lkC nb t u k ≤ 999 := fun k k0 k1 => by
  have nn : lkB nb t k = false := by
    rcases ff_spec (p := lkB nb t) (N := N) 0 with z | z
    · exact z.2 _ k0 k1
    · omega
  unfold lkB at nn
  simp only [decide_eq_false_iff_not] at nn
  unfold lkC
  split <;> omega
theorem lkQ_ex {c : Int → Int} {n : Int} (hn : 1 ≤ n ∧ n ≤ 20) (hc : ∀ k, 0 ≤ k → k < n → 0 ≤ c k ∧ c k ≤ 999) : ¬ ff (lkQ c n) 0 n = -1 := by
  have lr := LK_rng hc hn.2 (i := 0) (j := n) (by omega) (by omega)
  obtain ⟨k, k0, k1, e⟩ := LK_att (c := c) (i := 0) (j := n) (by omega) (by omega)
  intro q
  rcases ff_spec (p := lkQ c n) (N := n) 0 with z | z
  · have := z.2 k k0 k1
    simp [lkQ, e] at this
  · omega
theorem m_looks_1 {d : Nat} {h : Hp} {rs rm nb : Int → Int} (hm : MR h) (mt : MT h rs rm nb) (tg : TG rs rm nb) {t u N : Int} (ht : 0 ≤ t ∧ t < 4) (hN : 0 ≤ N ∧ N ≤ 20) : ∀ k, 0 ≤ k → k ≤ 20 → EX (d+1) m_Mod_looks 59 [(0, .inr (.inr (72))), (1, .inl (t)), (2, .inl (u)), (4, .inl (N)), (5, .inl (k))] [] (h) = if ff (lkB nb t) k N = -1 then EX (d+1) m_Mod_looks 97 [(0, .inr (.inr (72))), (1, .inl (t)), (2, .inl (u)), (4, .inl (N))] [] (h) else some (.inl (-3), h) := by
  refine up_ind (hi := N) ?_ ?_
  · intro k hk h0 h1
    rw [Mod_looks_59, ff_stop hk]
    simp (disch := omega) only [wr_id, ix_id, okx, if_pos, if_neg, Int.toNat_of_nonneg, bak_v, bak_n, wr_b01, wr_bt, b01_or, b01_0, b01_1, lc_lt0, lc_gt0, lc_eq0, wl_wr, wr_wr, wl_id, true_and, and_true, true_or, or_true, not_true_eq_false, not_false_eq_true, nc0, nc1, nc2, nc3, nc4, nc5, nc6, nc7, nc8, nc9, nc10, nc11, nc12, nc13, nc14, nc15, nc16, nc17, nc18, nc19, nc20, nc21, nc22, nc23, nc35, nc47, nc59, nc60, nc61, nc73, nc74, nc214, nc215, nc1115, nc2230, nc3345, if_true, if_false, Int.reduceToNat]
  · intro k hk ih h0 h1
    have m3 := mt.2.2 (40 * t + k).toNat
    rw [show ((40 * t + k).toNat : Int) = 40 * t + k by omega] at m3
    have nr := tg.2 (40 * t + k)
    rw [Mod_looks_59, ff_step hk]
    by_cases c : 0 ≤ nb (40 * t + k) ∧ nb (40 * t + k) ≤ 999
    · have nn : ¬ lkB nb t k = true := by simp [lkB]; omega
      rw [if_neg nn]
      simp (disch := omega) only [Mod_looks_66, Mod_looks_85, Mod_looks_91, wr_id, ix_id, okx, if_pos, if_neg, Int.toNat_of_nonneg, bak_v, bak_n, wr_b01, wr_bt, b01_or, b01_0, b01_1, lc_lt0, lc_gt0, lc_eq0, wl_wr, wr_wr, wl_id, true_and, and_true, true_or, or_true, not_true_eq_false, not_false_eq_true, nc0, nc1, nc2, nc3, nc4, nc5, nc6, nc7, nc8, nc9, nc10, nc11, nc12, nc13, nc14, nc15, nc16, nc17, nc18, nc19, nc20, nc21, nc22, nc23, nc35, nc47, nc59, nc60, nc61, nc73, nc74, nc214, nc215, nc1115, nc2230, nc3345, if_true, if_false, Int.reduceToNat, hm.k, hm.r1, hm.r2, hm.r3, hm.r4, hm.r15, hm.r16, hm.r19, hm.r23, hm.r24, hm.r25, hm.r26, hm.r29, hm.r30, hm.r31, hm.r33, hm.r34, hm.r35, hm.k73, hm.k74, hm.k75, hm.k76, hm.k77, hm.k78, hm.k79, hm.k80, hm.k81, hm.k82, hm.k83, hm.k84, hm.k85, hm.k86, hm.k87, hm.k88, hm.k89, hm.n73, hm.n74, hm.n75, hm.n76, hm.n77, hm.n78, hm.n79, hm.n80, hm.n81, hm.n82, hm.n83, hm.n84, hm.n85, hm.n86, hm.n87, hm.n88, hm.n89, m3, m_within]
      exact ih (by omega) (by omega)
    · have nn : lkB nb t k = true := by simp only [lkB, decide_eq_true_eq]; exact c
      rw [if_pos nn, if_neg (show ¬ k = -1 by omega)]
      simp (disch := omega) only [Mod_looks_66, Mod_looks_85, Mod_looks_88, wr_id, ix_id, okx, if_pos, if_neg, Int.toNat_of_nonneg, bak_v, bak_n, wr_b01, wr_bt, b01_or, b01_0, b01_1, lc_lt0, lc_gt0, lc_eq0, wl_wr, wr_wr, wl_id, true_and, and_true, true_or, or_true, not_true_eq_false, not_false_eq_true, nc0, nc1, nc2, nc3, nc4, nc5, nc6, nc7, nc8, nc9, nc10, nc11, nc12, nc13, nc14, nc15, nc16, nc17, nc18, nc19, nc20, nc21, nc22, nc23, nc35, nc47, nc59, nc60, nc61, nc73, nc74, nc214, nc215, nc1115, nc2230, nc3345, if_true, if_false, Int.reduceToNat, hm.k, hm.r1, hm.r2, hm.r3, hm.r4, hm.r15, hm.r16, hm.r19, hm.r23, hm.r24, hm.r25, hm.r26, hm.r29, hm.r30, hm.r31, hm.r33, hm.r34, hm.r35, hm.k73, hm.k74, hm.k75, hm.k76, hm.k77, hm.k78, hm.k79, hm.k80, hm.k81, hm.k82, hm.k83, hm.k84, hm.k85, hm.k86, hm.k87, hm.k88, hm.k89, hm.n73, hm.n74, hm.n75, hm.n76, hm.n77, hm.n78, hm.n79, hm.n80, hm.n81, hm.n82, hm.n83, hm.n84, hm.n85, hm.n86, hm.n87, hm.n88, hm.n89, m3, m_within]
theorem m_looks_2 {d : Nat} {h : Hp} {rs rm nb : Int → Int} (hm : MR h) (mt : MT h rs rm nb) {t N : Int} (ht : 0 ≤ t ∧ t < 4) (hN : 1 ≤ N ∧ N ≤ 20) (hc : ∀ k, 0 ≤ k → k < N → 0 ≤ lkC nb t 0 k ∧ lkC nb t 0 k ≤ 999) (tb : ∀ i j, 0 ≤ i → i ≤ j → j ≤ N → lkV h (lkC nb t 0) i j) : ∀ k, 0 ≤ k → k ≤ 20 → ¬ ff (lkQ (lkC nb t 0) N) k N = -1 → EX (d+2) m_Mod_looks 132 [(0, .inr (.inr (72))), (1, .inl (t)), (4, .inl (N)), (5, .inl (LK (lkC nb t 0) 0 N)), (6, .inl (k))] [] (h) = some (.inl (ff (lkQ (lkC nb t 0) N) k N), h) := by
  have lr := LK_rng hc hN.2 (i := 0) (j := N) (by omega) (by omega)
  refine up_ind (hi := N) ?_ ?_
  · intro k hk h0 h1 q
    rw [ff_stop hk] at q
    exact absurd rfl q
  · intro k hk ih h0 h1 q
    have pr := lkP_rng hc hN.2 (i := 0) (j := N) (k := k) (by omega) (by omega) ⟨h0, hk⟩
    have e := m_lookAt (d := d) hm mt ht hN.2 hc (i := 0) (k := k) (j := N) (by omega) (by omega) (Or.inl rfl) (tb 0 k (by omega) h0 (by omega)) (tb (k + 1) N (by omega) (by omega) (by omega))
    rw [ff_step hk] at q ⊢
    rw [Mod_looks_132]
    by_cases c : lkP (lkC nb t 0) 0 N k = LK (lkC nb t 0) 0 N
    · have nn : lkQ (lkC nb t 0) N k = true := by simp [lkQ, c]
      rw [if_pos nn]
      simp (disch := omega) only [Mod_looks_143, Mod_looks_154, wr_id, ix_id, okx, if_pos, if_neg, Int.toNat_of_nonneg, bak_v, bak_n, wr_b01, wr_bt, b01_or, b01_0, b01_1, lc_lt0, lc_gt0, lc_eq0, wl_wr, wr_wr, wl_id, true_and, and_true, true_or, or_true, not_true_eq_false, not_false_eq_true, nc0, nc1, nc2, nc3, nc4, nc5, nc6, nc7, nc8, nc9, nc10, nc11, nc12, nc13, nc14, nc15, nc16, nc17, nc18, nc19, nc20, nc21, nc22, nc23, nc35, nc47, nc59, nc60, nc61, nc73, nc74, nc214, nc215, nc1115, nc2230, nc3345, if_true, if_false, Int.reduceToNat, hm.k, hm.r1, hm.r2, hm.r3, hm.r4, hm.r15, hm.r16, hm.r19, hm.r23, hm.r24, hm.r25, hm.r26, hm.r29, hm.r30, hm.r31, hm.r33, hm.r34, hm.r35, hm.k73, hm.k74, hm.k75, hm.k76, hm.k77, hm.k78, hm.k79, hm.k80, hm.k81, hm.k82, hm.k83, hm.k84, hm.k85, hm.k86, hm.k87, hm.k88, hm.k89, hm.n73, hm.n74, hm.n75, hm.n76, hm.n77, hm.n78, hm.n79, hm.n80, hm.n81, hm.n82, hm.n83, hm.n84, hm.n85, hm.n86, hm.n87, hm.n88, hm.n89, e]
    · have nn : ¬ lkQ (lkC nb t 0) N k = true := by simp [lkQ, c]
      rw [if_neg nn] at q ⊢
      simp (disch := omega) only [Mod_looks_143, Mod_looks_148, wr_id, ix_id, okx, if_pos, if_neg, Int.toNat_of_nonneg, bak_v, bak_n, wr_b01, wr_bt, b01_or, b01_0, b01_1, lc_lt0, lc_gt0, lc_eq0, wl_wr, wr_wr, wl_id, true_and, and_true, true_or, or_true, not_true_eq_false, not_false_eq_true, nc0, nc1, nc2, nc3, nc4, nc5, nc6, nc7, nc8, nc9, nc10, nc11, nc12, nc13, nc14, nc15, nc16, nc17, nc18, nc19, nc20, nc21, nc22, nc23, nc35, nc47, nc59, nc60, nc61, nc73, nc74, nc214, nc215, nc1115, nc2230, nc3345, if_true, if_false, Int.reduceToNat, hm.k, hm.r1, hm.r2, hm.r3, hm.r4, hm.r15, hm.r16, hm.r19, hm.r23, hm.r24, hm.r25, hm.r26, hm.r29, hm.r30, hm.r31, hm.r33, hm.r34, hm.r35, hm.k73, hm.k74, hm.k75, hm.k76, hm.k77, hm.k78, hm.k79, hm.k80, hm.k81, hm.k82, hm.k83, hm.k84, hm.k85, hm.k86, hm.k87, hm.k88, hm.k89, hm.n73, hm.n74, hm.n75, hm.n76, hm.n77, hm.n78, hm.n79, hm.n80, hm.n81, hm.n82, hm.n83, hm.n84, hm.n85, hm.n86, hm.n87, hm.n88, hm.n89, e]
      exact ih (by omega) (by omega) q
theorem mm_looks {d : Nat} {h : Hp} {S G T rs rm nb : Int → Int} {n fk fp : Int} (mb : MB h S G T rs rm nb n fk fp) (tg : TG rs rm nb) {t u : Int} (rt : -2147483648 ≤ t ∧ t ≤ 2147483647) (ru : -2147483648 ≤ u ∧ u ≤ 2147483647) : ∃ h', cal (d+4) m_Mod_looks [.inr (.inr (72)), .inl (t), .inl (u)] (h) = some (.inl (ansLook rs rm nb t u), h') ∧ MB h' S G T rs rm nb n fk fp ∧ Fr wQ h h' := by
  have ms0 : MS (pI h 72 0 0) S := mb.1.o (by omega)
  have f0 : Fr wQ h (pI h 72 0 0) := f72 (by omega)
  have mb0 := mb.fr f0 ms0
  have mt := mb0.2.2.2.2
  have hk := mb.1.1.k
  have hm := ms0.1
  have en := m_noTray (d := d + 1) hm mt tg rt
  unfold ansLook
  by_cases cu : 0 ≤ u ∧ u ≤ 2
  · rw [if_neg (show ¬ ¬ (0 ≤ u ∧ u ≤ 2) by omega)]
    by_cases ct : noT rs t = 0
    · rw [if_neg (fun q => q ct)]
      have ht : 0 ≤ t ∧ t < 4 := by
        unfold noT at ct
        split at ct
        · omega
        · omega
      have tr := tg.1 t ht.1 ht.2
      have m2 := mt.2.1 t.toNat
      rw [show (t.toNat : Int) = t by omega] at m2
      by_cases cn : 1 ≤ rm t ∧ rm t ≤ 20
      · rw [if_neg (show ¬ ¬ (1 ≤ rm t ∧ rm t ≤ 20) by omega)]
        have e1 := m_looks_1 (d := d + 2) (u := u) hm mt tg ht (N := rm t) (by omega) 0 (by omega) (by omega)
        have st : cal (d+4) m_Mod_looks [.inr (.inr (72)), .inl (t), .inl (u)] (h) = EX (d+3) m_Mod_looks 59 [(0, .inr (.inr (72))), (1, .inl (t)), (2, .inl (u)), (4, .inl (rm t)), (5, .inl (0))] [] (pI h 72 0 0) := by
          show EX (d+3) m_Mod_looks 0 [(0, .inr (.inr (72))), (1, .inl (t)), (2, .inl (u))] [] (h) = _
          simp (disch := omega) only [Mod_looks_0, Mod_looks_5, Mod_looks_14, Mod_looks_20, Mod_looks_25, Mod_looks_32, Mod_looks_50, Mod_looks_56, wr_id, ix_id, okx, if_pos, if_neg, Int.toNat_of_nonneg, bak_v, bak_n, wr_b01, wr_bt, b01_or, b01_0, b01_1, lc_lt0, lc_gt0, lc_eq0, wl_wr, wr_wr, wl_id, true_and, and_true, true_or, or_true, not_true_eq_false, not_false_eq_true, nc0, nc1, nc2, nc3, nc4, nc5, nc6, nc7, nc8, nc9, nc10, nc11, nc12, nc13, nc14, nc15, nc16, nc17, nc18, nc19, nc20, nc21, nc22, nc23, nc35, nc47, nc59, nc60, nc61, nc73, nc74, nc214, nc215, nc1115, nc2230, nc3345, if_true, if_false, Int.reduceToNat, hk, hm.k, hm.r1, hm.r2, hm.r3, hm.r4, hm.r15, hm.r16, hm.r19, hm.r23, hm.r24, hm.r25, hm.r26, hm.r29, hm.r30, hm.r31, hm.r33, hm.r34, hm.r35, hm.k73, hm.k74, hm.k75, hm.k76, hm.k77, hm.k78, hm.k79, hm.k80, hm.k81, hm.k82, hm.k83, hm.k84, hm.k85, hm.k86, hm.k87, hm.k88, hm.k89, hm.n73, hm.n74, hm.n75, hm.n76, hm.n77, hm.n78, hm.n79, hm.n80, hm.n81, hm.n82, hm.n83, hm.n84, hm.n85, hm.n86, hm.n87, hm.n88, hm.n89, m_within, en, ct, m2]
        by_cases cb : ff (lkB nb t) 0 (rm t) = -1
        · rw [if_neg (fun q => q cb)]
          rw [if_pos cb] at e1
          have hu : (if u = 2 then (1 : Int) else 0) = 0 ∨ (if u = 2 then (1 : Int) else 0) = 1 := by split <;> omega
          obtain ⟨h2, e2, k2, f2⟩ := m_laysLooks (d := d) hm mt ht (u := if u = 2 then 1 else 0) (by omega) (lkC_ok cb) hu
          have g2 : Fr wQ (pI h 72 0 0) h2 := f2.mo (fun a k q => by unfold p84 at q; unfold wQ; omega)
          have ms2 := ms0.q f2 (fun k => by unfold p84; omega)
          have mb2 := mb0.fr g2 ms2
          have mt2 := mb2.2.2.2.2
          have hm2 := ms2.1
          have lr := LK_rng (lkC_ok (u := if u = 2 then 1 else 0) cb) (by omega) (i := 0) (j := rm t) (by omega) (by omega)
          have k3 := k2 0 (rm t) (by omega) (by omega) (by omega)
          unfold lkV at k3
          rw [show 21 * 0 + rm t = rm t by omega] at k3
          refine ⟨h2, ?_, mb2, f0.tr g2⟩
          refine st.trans (e1.trans ?_)
          by_cases c2 : u = 2
          · subst c2
            rw [if_pos (show (2 : Int) = 2 from rfl)] at e2 k3 lr ⊢
            rw [if_neg (show ¬ (2 : Int) = 1 by omega)]
            simp (disch := omega) only [Mod_looks_97, Mod_looks_104, Mod_looks_109, wr_id, ix_id, okx, if_pos, if_neg, Int.toNat_of_nonneg, bak_v, bak_n, wr_b01, wr_bt, b01_or, b01_0, b01_1, lc_lt0, lc_gt0, lc_eq0, wl_wr, wr_wr, wl_id, true_and, and_true, true_or, or_true, not_true_eq_false, not_false_eq_true, nc0, nc1, nc2, nc3, nc4, nc5, nc6, nc7, nc8, nc9, nc10, nc11, nc12, nc13, nc14, nc15, nc16, nc17, nc18, nc19, nc20, nc21, nc22, nc23, nc35, nc47, nc59, nc60, nc61, nc73, nc74, nc214, nc215, nc1115, nc2230, nc3345, if_true, if_false, Int.reduceToNat, hm.k, hm.r1, hm.r2, hm.r3, hm.r4, hm.r15, hm.r16, hm.r19, hm.r23, hm.r24, hm.r25, hm.r26, hm.r29, hm.r30, hm.r31, hm.r33, hm.r34, hm.r35, hm.k73, hm.k74, hm.k75, hm.k76, hm.k77, hm.k78, hm.k79, hm.k80, hm.k81, hm.k82, hm.k83, hm.k84, hm.k85, hm.k86, hm.k87, hm.k88, hm.k89, hm.n73, hm.n74, hm.n75, hm.n76, hm.n77, hm.n78, hm.n79, hm.n80, hm.n81, hm.n82, hm.n83, hm.n84, hm.n85, hm.n86, hm.n87, hm.n88, hm.n89, e2]
            have hm := hm2
            simp (disch := omega) only [Mod_looks_112, Mod_looks_126, wr_id, ix_id, okx, if_pos, if_neg, Int.toNat_of_nonneg, bak_v, bak_n, wr_b01, wr_bt, b01_or, b01_0, b01_1, lc_lt0, lc_gt0, lc_eq0, wl_wr, wr_wr, wl_id, true_and, and_true, true_or, or_true, not_true_eq_false, not_false_eq_true, nc0, nc1, nc2, nc3, nc4, nc5, nc6, nc7, nc8, nc9, nc10, nc11, nc12, nc13, nc14, nc15, nc16, nc17, nc18, nc19, nc20, nc21, nc22, nc23, nc35, nc47, nc59, nc60, nc61, nc73, nc74, nc214, nc215, nc1115, nc2230, nc3345, if_true, if_false, Int.reduceToNat, hm.k, hm.r1, hm.r2, hm.r3, hm.r4, hm.r15, hm.r16, hm.r19, hm.r23, hm.r24, hm.r25, hm.r26, hm.r29, hm.r30, hm.r31, hm.r33, hm.r34, hm.r35, hm.k73, hm.k74, hm.k75, hm.k76, hm.k77, hm.k78, hm.k79, hm.k80, hm.k81, hm.k82, hm.k83, hm.k84, hm.k85, hm.k86, hm.k87, hm.k88, hm.k89, hm.n73, hm.n74, hm.n75, hm.n76, hm.n77, hm.n78, hm.n79, hm.n80, hm.n81, hm.n82, hm.n83, hm.n84, hm.n85, hm.n86, hm.n87, hm.n88, hm.n89, k3]
          · rw [if_neg c2] at e2 k2 k3 lr ⊢
            have st2 : EX (d+3) m_Mod_looks 97 [(0, .inr (.inr (72))), (1, .inl (t)), (2, .inl (u)), (4, .inl (rm t))] [] (pI h 72 0 0) = EX (d+3) m_Mod_looks 112 [(0, .inr (.inr (72))), (1, .inl (t)), (2, .inl (u)), (4, .inl (rm t))] [] (h2) := by
              simp (disch := omega) only [Mod_looks_97, Mod_looks_108, Mod_looks_109, wr_id, ix_id, okx, if_pos, if_neg, Int.toNat_of_nonneg, bak_v, bak_n, wr_b01, wr_bt, b01_or, b01_0, b01_1, lc_lt0, lc_gt0, lc_eq0, wl_wr, wr_wr, wl_id, true_and, and_true, true_or, or_true, not_true_eq_false, not_false_eq_true, nc0, nc1, nc2, nc3, nc4, nc5, nc6, nc7, nc8, nc9, nc10, nc11, nc12, nc13, nc14, nc15, nc16, nc17, nc18, nc19, nc20, nc21, nc22, nc23, nc35, nc47, nc59, nc60, nc61, nc73, nc74, nc214, nc215, nc1115, nc2230, nc3345, if_true, if_false, Int.reduceToNat, hm.k, hm.r1, hm.r2, hm.r3, hm.r4, hm.r15, hm.r16, hm.r19, hm.r23, hm.r24, hm.r25, hm.r26, hm.r29, hm.r30, hm.r31, hm.r33, hm.r34, hm.r35, hm.k73, hm.k74, hm.k75, hm.k76, hm.k77, hm.k78, hm.k79, hm.k80, hm.k81, hm.k82, hm.k83, hm.k84, hm.k85, hm.k86, hm.k87, hm.k88, hm.k89, hm.n73, hm.n74, hm.n75, hm.n76, hm.n77, hm.n78, hm.n79, hm.n80, hm.n81, hm.n82, hm.n83, hm.n84, hm.n85, hm.n86, hm.n87, hm.n88, hm.n89, e2]
            refine st2.trans ?_
            have hm := hm2
            by_cases c1 : u = 1
            · rw [if_pos c1]
              have e3 := m_looks_2 (d := d + 1) hm2 mt2 ht cn (lkC_ok cb) k2 0 (by omega) (by omega) (lkQ_ex cn (lkC_ok cb))
              simp (disch := omega) only [Mod_looks_112, Mod_looks_129, wr_id, ix_id, okx, if_pos, if_neg, Int.toNat_of_nonneg, bak_v, bak_n, wr_b01, wr_bt, b01_or, b01_0, b01_1, lc_lt0, lc_gt0, lc_eq0, wl_wr, wr_wr, wl_id, true_and, and_true, true_or, or_true, not_true_eq_false, not_false_eq_true, nc0, nc1, nc2, nc3, nc4, nc5, nc6, nc7, nc8, nc9, nc10, nc11, nc12, nc13, nc14, nc15, nc16, nc17, nc18, nc19, nc20, nc21, nc22, nc23, nc35, nc47, nc59, nc60, nc61, nc73, nc74, nc214, nc215, nc1115, nc2230, nc3345, if_true, if_false, Int.reduceToNat, hm.k, hm.r1, hm.r2, hm.r3, hm.r4, hm.r15, hm.r16, hm.r19, hm.r23, hm.r24, hm.r25, hm.r26, hm.r29, hm.r30, hm.r31, hm.r33, hm.r34, hm.r35, hm.k73, hm.k74, hm.k75, hm.k76, hm.k77, hm.k78, hm.k79, hm.k80, hm.k81, hm.k82, hm.k83, hm.k84, hm.k85, hm.k86, hm.k87, hm.k88, hm.k89, hm.n73, hm.n74, hm.n75, hm.n76, hm.n77, hm.n78, hm.n79, hm.n80, hm.n81, hm.n82, hm.n83, hm.n84, hm.n85, hm.n86, hm.n87, hm.n88, hm.n89, k3]
              exact e3
            · rw [if_neg c1]
              simp (disch := omega) only [Mod_looks_112, Mod_looks_126, wr_id, ix_id, okx, if_pos, if_neg, Int.toNat_of_nonneg, bak_v, bak_n, wr_b01, wr_bt, b01_or, b01_0, b01_1, lc_lt0, lc_gt0, lc_eq0, wl_wr, wr_wr, wl_id, true_and, and_true, true_or, or_true, not_true_eq_false, not_false_eq_true, nc0, nc1, nc2, nc3, nc4, nc5, nc6, nc7, nc8, nc9, nc10, nc11, nc12, nc13, nc14, nc15, nc16, nc17, nc18, nc19, nc20, nc21, nc22, nc23, nc35, nc47, nc59, nc60, nc61, nc73, nc74, nc214, nc215, nc1115, nc2230, nc3345, if_true, if_false, Int.reduceToNat, hm.k, hm.r1, hm.r2, hm.r3, hm.r4, hm.r15, hm.r16, hm.r19, hm.r23, hm.r24, hm.r25, hm.r26, hm.r29, hm.r30, hm.r31, hm.r33, hm.r34, hm.r35, hm.k73, hm.k74, hm.k75, hm.k76, hm.k77, hm.k78, hm.k79, hm.k80, hm.k81, hm.k82, hm.k83, hm.k84, hm.k85, hm.k86, hm.k87, hm.k88, hm.k89, hm.n73, hm.n74, hm.n75, hm.n76, hm.n77, hm.n78, hm.n79, hm.n80, hm.n81, hm.n82, hm.n83, hm.n84, hm.n85, hm.n86, hm.n87, hm.n88, hm.n89, k3]
        · rw [if_pos cb]
          rw [if_neg cb] at e1
          exact ⟨_, st.trans e1, mb0, f0⟩
      · rw [if_pos cn]
        refine ⟨_, ?_, mb0, f0⟩
        show EX (d+3) m_Mod_looks 0 [(0, .inr (.inr (72))), (1, .inl (t)), (2, .inl (u))] [] (h) = _
        simp (disch := omega) only [Mod_looks_0, Mod_looks_5, Mod_looks_14, Mod_looks_20, Mod_looks_25, Mod_looks_32, Mod_looks_50, Mod_looks_53, wr_id, ix_id, okx, if_pos, if_neg, Int.toNat_of_nonneg, bak_v, bak_n, wr_b01, wr_bt, b01_or, b01_0, b01_1, lc_lt0, lc_gt0, lc_eq0, wl_wr, wr_wr, wl_id, true_and, and_true, true_or, or_true, not_true_eq_false, not_false_eq_true, nc0, nc1, nc2, nc3, nc4, nc5, nc6, nc7, nc8, nc9, nc10, nc11, nc12, nc13, nc14, nc15, nc16, nc17, nc18, nc19, nc20, nc21, nc22, nc23, nc35, nc47, nc59, nc60, nc61, nc73, nc74, nc214, nc215, nc1115, nc2230, nc3345, if_true, if_false, Int.reduceToNat, hk, hm.k, hm.r1, hm.r2, hm.r3, hm.r4, hm.r15, hm.r16, hm.r19, hm.r23, hm.r24, hm.r25, hm.r26, hm.r29, hm.r30, hm.r31, hm.r33, hm.r34, hm.r35, hm.k73, hm.k74, hm.k75, hm.k76, hm.k77, hm.k78, hm.k79, hm.k80, hm.k81, hm.k82, hm.k83, hm.k84, hm.k85, hm.k86, hm.k87, hm.k88, hm.k89, hm.n73, hm.n74, hm.n75, hm.n76, hm.n77, hm.n78, hm.n79, hm.n80, hm.n81, hm.n82, hm.n83, hm.n84, hm.n85, hm.n86, hm.n87, hm.n88, hm.n89, m_within, en, ct, m2]
    · rw [if_pos ct]
      have nr : -6 ≤ noT rs t ∧ noT rs t ≤ 0 := by
        unfold noT
        repeat' split
        all_goals omega
      refine ⟨_, ?_, mb0, f0⟩
      show EX (d+3) m_Mod_looks 0 [(0, .inr (.inr (72))), (1, .inl (t)), (2, .inl (u))] [] (h) = _
      simp (disch := omega) only [Mod_looks_0, Mod_looks_5, Mod_looks_14, Mod_looks_20, Mod_looks_25, Mod_looks_30, wr_id, ix_id, okx, if_pos, if_neg, Int.toNat_of_nonneg, bak_v, bak_n, wr_b01, wr_bt, b01_or, b01_0, b01_1, lc_lt0, lc_gt0, lc_eq0, wl_wr, wr_wr, wl_id, true_and, and_true, true_or, or_true, not_true_eq_false, not_false_eq_true, nc0, nc1, nc2, nc3, nc4, nc5, nc6, nc7, nc8, nc9, nc10, nc11, nc12, nc13, nc14, nc15, nc16, nc17, nc18, nc19, nc20, nc21, nc22, nc23, nc35, nc47, nc59, nc60, nc61, nc73, nc74, nc214, nc215, nc1115, nc2230, nc3345, if_true, if_false, Int.reduceToNat, hk, hm.k, hm.r1, hm.r2, hm.r3, hm.r4, hm.r15, hm.r16, hm.r19, hm.r23, hm.r24, hm.r25, hm.r26, hm.r29, hm.r30, hm.r31, hm.r33, hm.r34, hm.r35, hm.k73, hm.k74, hm.k75, hm.k76, hm.k77, hm.k78, hm.k79, hm.k80, hm.k81, hm.k82, hm.k83, hm.k84, hm.k85, hm.k86, hm.k87, hm.k88, hm.k89, hm.n73, hm.n74, hm.n75, hm.n76, hm.n77, hm.n78, hm.n79, hm.n80, hm.n81, hm.n82, hm.n83, hm.n84, hm.n85, hm.n86, hm.n87, hm.n88, hm.n89, m_within, en]
  · rw [if_pos cu]
    refine ⟨_, ?_, mb0, f0⟩
    show EX (d+3) m_Mod_looks 0 [(0, .inr (.inr (72))), (1, .inl (t)), (2, .inl (u))] [] (h) = _
    simp (disch := omega) only [Mod_looks_0, Mod_looks_5, Mod_looks_14, Mod_looks_17, wr_id, ix_id, okx, if_pos, if_neg, Int.toNat_of_nonneg, bak_v, bak_n, wr_b01, wr_bt, b01_or, b01_0, b01_1, lc_lt0, lc_gt0, lc_eq0, wl_wr, wr_wr, wl_id, true_and, and_true, true_or, or_true, not_true_eq_false, not_false_eq_true, nc0, nc1, nc2, nc3, nc4, nc5, nc6, nc7, nc8, nc9, nc10, nc11, nc12, nc13, nc14, nc15, nc16, nc17, nc18, nc19, nc20, nc21, nc22, nc23, nc35, nc47, nc59, nc60, nc61, nc73, nc74, nc214, nc215, nc1115, nc2230, nc3345, if_true, if_false, Int.reduceToNat, hk, hm.k, hm.r1, hm.r2, hm.r3, hm.r4, hm.r15, hm.r16, hm.r19, hm.r23, hm.r24, hm.r25, hm.r26, hm.r29, hm.r30, hm.r31, hm.r33, hm.r34, hm.r35, hm.k73, hm.k74, hm.k75, hm.k76, hm.k77, hm.k78, hm.k79, hm.k80, hm.k81, hm.k82, hm.k83, hm.k84, hm.k85, hm.k86, hm.k87, hm.k88, hm.k89, hm.n73, hm.n74, hm.n75, hm.n76, hm.n77, hm.n78, hm.n79, hm.n80, hm.n81, hm.n82, hm.n83, hm.n84, hm.n85, hm.n86, hm.n87, hm.n88, hm.n89, m_within]
