/-! rounds: the model's call -/
def twB (nb : Int → Int) (t : Int) : Int → Bool := fun k => decide (¬ ff (fun i => decide (nb (40 * t + i) = nb (40 * t + k))) 0 k = -1)
def rnB (S nb : Int → Int) (t : Int) : Int → Bool := fun k => decide (wtB nb t 0 (S 2 - 1) k = true ∨ twB nb t k = true)
def ansRnd (S rs rm nb : Int → Int) (t u : Int) : Int := if ¬ (u = 0 ∨ (10 ≤ u ∧ u ≤ 17)) then -2 else if ¬ noT rs t = 0 then noT rs t else if ¬ (1 ≤ rm t ∧ rm t ≤ 8) then -4 else if ¬ ff (rnB S nb t) 0 (rm t) = -1 then -3 else if u = 0 then rdF S (fun i => nb (40 * t + i)) (rm t) (rm t).toNat 0 (S 59) else if u - 10 < rm t then roF S (fun i => nb (40 * t + i)) (rm t) (rm t).toNat 0 (S 59) (u - 10) else -1
theorem rn_ok {S nb : Int → Int} {t N : Int} (h : ff (rnB S nb t) 0 N = -1) : ∀ k, 0 ≤ k → k < N → (0 ≤ nb (40 * t + k) ∧ nb (40 * t + k) < S 2) ∧ ∀ i, 0 ≤ i → i < k → ¬ nb (40 * t + i) = nb (40 * t + k) := fun k k0 k1 => by
  have nn : rnB S nb t k = false := by
    rcases ff_spec (p := rnB S nb t) (N := N) 0 with z | z
    · exact z.2 _ k0 k1
    · omega
  unfold rnB at nn
  simp only [decide_eq_false_iff_not, not_or] at nn
  obtain ⟨n1, n2⟩ := nn
  unfold wtB at n1
  unfold twB at n2
  simp only [decide_eq_true_eq, Decidable.not_not] at n1 n2
  refine ⟨by omega, fun i i0 i1 e => ?_⟩
  rcases ff_spec (p := fun i => decide (nb (40 * t + i) = nb (40 * t + k))) (N := k) 0 with z | z
  · have := z.2 i i0 i1
    simp [e] at this
  · omega
theorem m_rn_1 {d : Nat} {h : Hp} {rs rm nb : Int → Int} (hm : MR h) (mt : MT h rs rm nb) (tg : TG rs rm nb) {t u k : Int} (ht : 0 ≤ t ∧ t < 4) (hk : 0 ≤ k ∧ k < 40) : ∀ i, 0 ≤ i → i ≤ 40 → EX (d) m_Mod_rounds 97 [(0, .inr (.inr (72))), (1, .inl (t)), (2, .inl (u)), (4, .inl (k)), (5, .inl (i))] [] (h) = if ff (fun i => decide (nb (40 * t + i) = nb (40 * t + k))) i k = -1 then EX (d) m_Mod_rounds 141 [(0, .inr (.inr (72))), (1, .inl (t)), (2, .inl (u)), (4, .inl (k))] [] (h) else some (.inl (-3), h) := by
  have m4 := mt.2.2 (40 * t + k).toNat
  rw [show ((40 * t + k).toNat : Int) = 40 * t + k by omega] at m4
  have nk := tg.2 (40 * t + k)
  refine up_ind (hi := k) ?_ ?_
  · intro i hi h0 h1
    rw [Mod_rounds_97, ff_stop hi]
    simp (disch := omega) only [wr_id, ix_id, okx, if_pos, if_neg, Int.toNat_of_nonneg, bak_v, bak_n, wr_b01, wr_bt, b01_or, b01_0, b01_1, lc_lt0, lc_gt0, lc_eq0, wl_wr, wr_wr, wl_id, true_and, and_true, true_or, or_true, not_true_eq_false, not_false_eq_true, nc0, nc1, nc2, nc3, nc4, nc5, nc6, nc7, nc8, nc9, nc10, nc11, nc12, nc13, nc14, nc15, nc16, nc17, nc18, nc19, nc20, nc21, nc22, nc23, nc35, nc47, nc59, nc60, nc61, nc73, nc74, nc214, nc215, nc1115, nc2230, nc3345, if_true, if_false, Int.reduceToNat]
  · intro i hi ih h0 h1
    have m3 := mt.2.2 (40 * t + i).toNat
    rw [show ((40 * t + i).toNat : Int) = 40 * t + i by omega] at m3
    have nr := tg.2 (40 * t + i)
    rw [Mod_rounds_97, ff_step hi]
    by_cases c : nb (40 * t + i) = nb (40 * t + k)
    · rw [if_pos (show decide (nb (40 * t + i) = nb (40 * t + k)) = true by simp [c]), if_neg (show ¬ i = -1 by omega)]
      simp (disch := omega) only [Mod_rounds_104, Mod_rounds_132, wr_id, ix_id, okx, if_pos, if_neg, Int.toNat_of_nonneg, bak_v, bak_n, wr_b01, wr_bt, b01_or, b01_0, b01_1, lc_lt0, lc_gt0, lc_eq0, wl_wr, wr_wr, wl_id, true_and, and_true, true_or, or_true, not_true_eq_false, not_false_eq_true, nc0, nc1, nc2, nc3, nc4, nc5, nc6, nc7, nc8, nc9, nc10, nc11, nc12, nc13, nc14, nc15, nc16, nc17, nc18, nc19, nc20, nc21, nc22, nc23, nc35, nc47, nc59, nc60, nc61, nc73, nc74, nc214, nc215, nc1115, nc2230, nc3345, if_true, if_false, Int.reduceToNat, hm.k, hm.r1, hm.r2, hm.r3, hm.r4, hm.r15, hm.r16, hm.r19, hm.r23, hm.r24, hm.r25, hm.r26, hm.r29, hm.r30, hm.r31, hm.r33, hm.r34, hm.r35, hm.k73, hm.k74, hm.k75, hm.k76, hm.k77, hm.k78, hm.k79, hm.k80, hm.k81, hm.k82, hm.k83, hm.k84, hm.k85, hm.k86, hm.k87, hm.k88, hm.k89, hm.n73, hm.n74, hm.n75, hm.n76, hm.n77, hm.n78, hm.n79, hm.n80, hm.n81, hm.n82, hm.n83, hm.n84, hm.n85, hm.n86, hm.n87, hm.n88, hm.n89, m3, m4]
    · rw [if_neg (show ¬ decide (nb (40 * t + i) = nb (40 * t + k)) = true by simp [c])]
      simp (disch := omega) only [Mod_rounds_104, Mod_rounds_135, wr_id, ix_id, okx, if_pos, if_neg, Int.toNat_of_nonneg, bak_v, bak_n, wr_b01, wr_bt, b01_or, b01_0, b01_1, lc_lt0, lc_gt0, lc_eq0, wl_wr, wr_wr, wl_id, true_and, and_true, true_or, or_true, not_true_eq_false, not_false_eq_true, nc0, nc1, nc2, nc3, nc4, nc5, nc6, nc7, nc8, nc9, nc10, nc11, nc12, nc13, nc14, nc15, nc16, nc17, nc18, nc19, nc20, nc21, nc22, nc23, nc35, nc47, nc59, nc60, nc61, nc73, nc74, nc214, nc215, nc1115, nc2230, nc3345, if_true, if_false, Int.reduceToNat, hm.k, hm.r1, hm.r2, hm.r3, hm.r4, hm.r15, hm.r16, hm.r19, hm.r23, hm.r24, hm.r25, hm.r26, hm.r29, hm.r30, hm.r31, hm.r33, hm.r34, hm.r35, hm.k73, hm.k74, hm.k75, hm.k76, hm.k77, hm.k78, hm.k79, hm.k80, hm.k81, hm.k82, hm.k83, hm.k84, hm.k85, hm.k86, hm.k87, hm.k88, hm.k89, hm.n73, hm.n74, hm.n75, hm.n76, hm.n77, hm.n78, hm.n79, hm.n80, hm.n81, hm.n82, hm.n83, hm.n84, hm.n85, hm.n86, hm.n87, hm.n88, hm.n89, m3, m4]
      exact ih (by omega) (by omega)
theorem m_rn_2 {d : Nat} {h : Hp} {S rs rm nb : Int → Int} (ms : MS h S) (gS : GdW S) (mt : MT h rs rm nb) (tg : TG rs rm nb) {t u : Int} (ht : 0 ≤ t ∧ t < 4) : ∀ k, 0 ≤ k → k ≤ 40 → EX (d+2) m_Mod_rounds 61 [(0, .inr (.inr (72))), (1, .inl (t)), (2, .inl (u)), (4, .inl (k))] [] (h) = if ff (rnB S nb t) k (rm t) = -1 then EX (d+2) m_Mod_rounds 147 [(0, .inr (.inr (72))), (1, .inl (t)), (2, .inl (u))] [] (h) else some (.inl (-3), h) := by
  have hm := ms.1
  have tr := tg.1 t ht.1 ht.2
  have m2 := mt.2.1 t.toNat
  rw [show (t.toNat : Int) = t by omega] at m2
  refine up_ind (hi := rm t) ?_ ?_
  · intro k hk h0 h1
    rw [Mod_rounds_61, ff_stop hk]
    simp (disch := omega) only [wr_id, ix_id, okx, if_pos, if_neg, Int.toNat_of_nonneg, bak_v, bak_n, wr_b01, wr_bt, b01_or, b01_0, b01_1, lc_lt0, lc_gt0, lc_eq0, wl_wr, wr_wr, wl_id, true_and, and_true, true_or, or_true, not_true_eq_false, not_false_eq_true, nc0, nc1, nc2, nc3, nc4, nc5, nc6, nc7, nc8, nc9, nc10, nc11, nc12, nc13, nc14, nc15, nc16, nc17, nc18, nc19, nc20, nc21, nc22, nc23, nc35, nc47, nc59, nc60, nc61, nc73, nc74, nc214, nc215, nc1115, nc2230, nc3345, if_true, if_false, Int.reduceToNat, hm.k, hm.r1, hm.r2, hm.r3, hm.r4, hm.r15, hm.r16, hm.r19, hm.r23, hm.r24, hm.r25, hm.r26, hm.r29, hm.r30, hm.r31, hm.r33, hm.r34, hm.r35, hm.k73, hm.k74, hm.k75, hm.k76, hm.k77, hm.k78, hm.k79, hm.k80, hm.k81, hm.k82, hm.k83, hm.k84, hm.k85, hm.k86, hm.k87, hm.k88, hm.k89, hm.n73, hm.n74, hm.n75, hm.n76, hm.n77, hm.n78, hm.n79, hm.n80, hm.n81, hm.n82, hm.n83, hm.n84, hm.n85, hm.n86, hm.n87, hm.n88, hm.n89, m2]
  · intro k hk ih h0 h1
    have m3 := mt.2.2 (40 * t + k).toNat
    rw [show ((40 * t + k).toNat : Int) = 40 * t + k by omega] at m3
    have nr := tg.2 (40 * t + k)
    have er := m_isRing (d := d) ms gS.2.1 (x := nb (40 * t + k)) nr
    rw [Mod_rounds_61, ff_step hk]
    by_cases c : 0 ≤ nb (40 * t + k) ∧ nb (40 * t + k) < S 2
    · have e1 := m_rn_1 (d := d + 2) (u := u) hm mt tg ht (k := k) (by omega) 0 (by omega) (by omega)
      by_cases c2 : ff (fun i => decide (nb (40 * t + i) = nb (40 * t + k))) 0 k = -1
      · rw [if_pos c2] at e1
        have nn : ¬ rnB S nb t k = true := by
          unfold rnB wtB twB
          simp only [decide_eq_true_eq, not_or, Decidable.not_not]
          exact ⟨by omega, c2⟩
        rw [if_neg nn]
        have eb : b01 (0 ≤ nb (40 * t + k) ∧ nb (40 * t + k) < S 2) = 1 := by unfold b01; rw [if_pos c]
        rw [eb] at er
        simp (disch := omega) only [Mod_rounds_72, Mod_rounds_88, Mod_rounds_94, wr_id, ix_id, okx, if_pos, if_neg, Int.toNat_of_nonneg, bak_v, bak_n, wr_b01, wr_bt, b01_or, b01_0, b01_1, lc_lt0, lc_gt0, lc_eq0, wl_wr, wr_wr, wl_id, true_and, and_true, true_or, or_true, not_true_eq_false, not_false_eq_true, nc0, nc1, nc2, nc3, nc4, nc5, nc6, nc7, nc8, nc9, nc10, nc11, nc12, nc13, nc14, nc15, nc16, nc17, nc18, nc19, nc20, nc21, nc22, nc23, nc35, nc47, nc59, nc60, nc61, nc73, nc74, nc214, nc215, nc1115, nc2230, nc3345, if_true, if_false, Int.reduceToNat, hm.k, hm.r1, hm.r2, hm.r3, hm.r4, hm.r15, hm.r16, hm.r19, hm.r23, hm.r24, hm.r25, hm.r26, hm.r29, hm.r30, hm.r31, hm.r33, hm.r34, hm.r35, hm.k73, hm.k74, hm.k75, hm.k76, hm.k77, hm.k78, hm.k79, hm.k80, hm.k81, hm.k82, hm.k83, hm.k84, hm.k85, hm.k86, hm.k87, hm.k88, hm.k89, hm.n73, hm.n74, hm.n75, hm.n76, hm.n77, hm.n78, hm.n79, hm.n80, hm.n81, hm.n82, hm.n83, hm.n84, hm.n85, hm.n86, hm.n87, hm.n88, hm.n89, m2, m3, er]
        refine e1.trans ?_
        rw [Mod_rounds_141]
        exact ih (by omega) (by omega)
      · rw [if_neg c2] at e1
        have nn : rnB S nb t k = true := by
          unfold rnB wtB twB
          simp only [decide_eq_true_eq]
          exact Or.inr c2
        rw [if_pos nn, if_neg (show ¬ k = -1 by omega)]
        have eb : b01 (0 ≤ nb (40 * t + k) ∧ nb (40 * t + k) < S 2) = 1 := by unfold b01; rw [if_pos c]
        rw [eb] at er
        simp (disch := omega) only [Mod_rounds_72, Mod_rounds_88, Mod_rounds_94, wr_id, ix_id, okx, if_pos, if_neg, Int.toNat_of_nonneg, bak_v, bak_n, wr_b01, wr_bt, b01_or, b01_0, b01_1, lc_lt0, lc_gt0, lc_eq0, wl_wr, wr_wr, wl_id, true_and, and_true, true_or, or_true, not_true_eq_false, not_false_eq_true, nc0, nc1, nc2, nc3, nc4, nc5, nc6, nc7, nc8, nc9, nc10, nc11, nc12, nc13, nc14, nc15, nc16, nc17, nc18, nc19, nc20, nc21, nc22, nc23, nc35, nc47, nc59, nc60, nc61, nc73, nc74, nc214, nc215, nc1115, nc2230, nc3345, if_true, if_false, Int.reduceToNat, hm.k, hm.r1, hm.r2, hm.r3, hm.r4, hm.r15, hm.r16, hm.r19, hm.r23, hm.r24, hm.r25, hm.r26, hm.r29, hm.r30, hm.r31, hm.r33, hm.r34, hm.r35, hm.k73, hm.k74, hm.k75, hm.k76, hm.k77, hm.k78, hm.k79, hm.k80, hm.k81, hm.k82, hm.k83, hm.k84, hm.k85, hm.k86, hm.k87, hm.k88, hm.k89, hm.n73, hm.n74, hm.n75, hm.n76, hm.n77, hm.n78, hm.n79, hm.n80, hm.n81, hm.n82, hm.n83, hm.n84, hm.n85, hm.n86, hm.n87, hm.n88, hm.n89, m2, m3, er]
        exact e1
    · have nn : rnB S nb t k = true := by
        unfold rnB wtB twB
        simp only [decide_eq_true_eq]
        exact Or.inl (by omega)
      rw [if_pos nn, if_neg (show ¬ k = -1 by omega)]
      have eb : b01 (0 ≤ nb (40 * t + k) ∧ nb (40 * t + k) < S 2) = 0 := by unfold b01; rw [if_neg c]
      rw [eb] at er
      simp (disch := omega) only [Mod_rounds_72, Mod_rounds_88, Mod_rounds_91, wr_id, ix_id, okx, if_pos, if_neg, Int.toNat_of_nonneg, bak_v, bak_n, wr_b01, wr_bt, b01_or, b01_0, b01_1, lc_lt0, lc_gt0, lc_eq0, wl_wr, wr_wr, wl_id, true_and, and_true, true_or, or_true, not_true_eq_false, not_false_eq_true, nc0, nc1, nc2, nc3, nc4, nc5, nc6, nc7, nc8, nc9, nc10, nc11, nc12, nc13, nc14, nc15, nc16, nc17, nc18, nc19, nc20, nc21, nc22, nc23, nc35, nc47, nc59, nc60, nc61, nc73, nc74, nc214, nc215, nc1115, nc2230, nc3345, if_true, if_false, Int.reduceToNat, hm.k, hm.r1, hm.r2, hm.r3, hm.r4, hm.r15, hm.r16, hm.r19, hm.r23, hm.r24, hm.r25, hm.r26, hm.r29, hm.r30, hm.r31, hm.r33, hm.r34, hm.r35, hm.k73, hm.k74, hm.k75, hm.k76, hm.k77, hm.k78, hm.k79, hm.k80, hm.k81, hm.k82, hm.k83, hm.k84, hm.k85, hm.k86, hm.k87, hm.k88, hm.k89, hm.n73, hm.n74, hm.n75, hm.n76, hm.n77, hm.n78, hm.n79, hm.n80, hm.n81, hm.n82, hm.n83, hm.n84, hm.n85, hm.n86, hm.n87, hm.n88, hm.n89, m2, m3, er]
theorem fRd {h h' : Hp} (f : Fr rdP h h') : Fr wQ h h' := f.mo (fun a k q => by unfold rdP at q; unfold wQ; omega)
theorem pw_le8 {n : Nat} (h : n ≤ 8) : (0 : Int) < pw (n : Int) := by have := pw_pos (n : Int); omega
theorem mm_rounds {d : Nat} {h : Hp} {S G T rs rm nb : Int → Int} {n fk fp : Int} (mb : MB h S G T rs rm nb n fk fp) (g : Gd S) (tg : TG rs rm nb) {t u : Int} (rt : -2147483648 ≤ t ∧ t ≤ 2147483647) (ru : -2147483648 ≤ u ∧ u ≤ 2147483647) : ∃ h', cal (d+12) m_Mod_rounds [.inr (.inr (72)), .inl (t), .inl (u)] (h) = some (.inl (ansRnd S rs rm nb t u), h') ∧ MB h' S G T rs rm nb n fk fp ∧ Fr wQ h h' := by
  have ms0 : MS (pI h 72 0 0) S := mb.1.o (by omega)
  have f0 : Fr wQ h (pI h 72 0 0) := f72 (by omega)
  have mb0 := mb.fr f0 ms0
  have mt := mb0.2.2.2.2
  have hk := mb.1.1.k
  have hm := ms0.1
  have g59 := g.2.1
  have en := m_noTray (d := d + 9) hm mt tg rt
  unfold ansRnd
  by_cases cu : u = 0 ∨ (10 ≤ u ∧ u ≤ 17)
  · rw [if_neg (show ¬ ¬ (u = 0 ∨ (10 ≤ u ∧ u ≤ 17)) by omega)]
    have st0 : cal (d+12) m_Mod_rounds [.inr (.inr (72)), .inl (t), .inl (u)] (h) = EX (d+11) m_Mod_rounds 26 [(0, .inr (.inr (72))), (1, .inl (t)), (2, .inl (u))] [] (pI h 72 0 0) := by
      show EX (d+11) m_Mod_rounds 0 [(0, .inr (.inr (72))), (1, .inl (t)), (2, .inl (u))] [] (h) = _
      by_cases c0 : u = 0
      · simp (disch := omega) only [Mod_rounds_0, Mod_rounds_5, wr_id, ix_id, okx, if_pos, if_neg, Int.toNat_of_nonneg, bak_v, bak_n, wr_b01, wr_bt, b01_or, b01_0, b01_1, lc_lt0, lc_gt0, lc_eq0, wl_wr, wr_wr, wl_id, true_and, and_true, true_or, or_true, not_true_eq_false, not_false_eq_true, nc0, nc1, nc2, nc3, nc4, nc5, nc6, nc7, nc8, nc9, nc10, nc11, nc12, nc13, nc14, nc15, nc16, nc17, nc18, nc19, nc20, nc21, nc22, nc23, nc35, nc47, nc59, nc60, nc61, nc73, nc74, nc214, nc215, nc1115, nc2230, nc3345, if_true, if_false, Int.reduceToNat, hk, c0]
      · have eb : b01 (10 ≤ u ∧ u ≤ 17) = 1 := by unfold b01; rw [if_pos (by omega)]
        simp (disch := omega) only [Mod_rounds_0, Mod_rounds_5, Mod_rounds_9, Mod_rounds_20, wr_id, ix_id, okx, if_pos, if_neg, Int.toNat_of_nonneg, bak_v, bak_n, wr_b01, wr_bt, b01_or, b01_0, b01_1, lc_lt0, lc_gt0, lc_eq0, wl_wr, wr_wr, wl_id, true_and, and_true, true_or, or_true, not_true_eq_false, not_false_eq_true, nc0, nc1, nc2, nc3, nc4, nc5, nc6, nc7, nc8, nc9, nc10, nc11, nc12, nc13, nc14, nc15, nc16, nc17, nc18, nc19, nc20, nc21, nc22, nc23, nc35, nc47, nc59, nc60, nc61, nc73, nc74, nc214, nc215, nc1115, nc2230, nc3345, if_true, if_false, Int.reduceToNat, hk, m_within, eb]
    by_cases ct : noT rs t = 0
    · rw [if_neg (fun q => q ct)]
      have ht : 0 ≤ t ∧ t < 4 := by
        unfold noT at ct
        split at ct
        · omega
        · omega
      have tr := tg.1 t ht.1 ht.2
      have m2 := mt.2.1 t.toNat
      rw [show (t.toNat : Int) = t by omega] at m2
      by_cases cn : 1 ≤ rm t ∧ rm t ≤ 8
      · rw [if_neg (show ¬ ¬ (1 ≤ rm t ∧ rm t ≤ 8) by omega)]
        have e1 := m_rn_2 (d := d + 9) (u := u) ms0 g.1 mt tg ht 0 (by omega) (by omega)
        have eb : b01 (1 ≤ rm t ∧ rm t ≤ 8) = 1 := by unfold b01; rw [if_pos cn]
        have st : cal (d+12) m_Mod_rounds [.inr (.inr (72)), .inl (t), .inl (u)] (h) = EX (d+11) m_Mod_rounds 61 [(0, .inr (.inr (72))), (1, .inl (t)), (2, .inl (u)), (4, .inl (0))] [] (pI h 72 0 0) := by
          refine st0.trans ?_
          simp (disch := omega) only [Mod_rounds_26, Mod_rounds_31, Mod_rounds_38, Mod_rounds_52, Mod_rounds_58, wr_id, ix_id, okx, if_pos, if_neg, Int.toNat_of_nonneg, bak_v, bak_n, wr_b01, wr_bt, b01_or, b01_0, b01_1, lc_lt0, lc_gt0, lc_eq0, wl_wr, wr_wr, wl_id, true_and, and_true, true_or, or_true, not_true_eq_false, not_false_eq_true, nc0, nc1, nc2, nc3, nc4, nc5, nc6, nc7, nc8, nc9, nc10, nc11, nc12, nc13, nc14, nc15, nc16, nc17, nc18, nc19, nc20, nc21, nc22, nc23, nc35, nc47, nc59, nc60, nc61, nc73, nc74, nc214, nc215, nc1115, nc2230, nc3345, if_true, if_false, Int.reduceToNat, hm.k, hm.r1, hm.r2, hm.r3, hm.r4, hm.r15, hm.r16, hm.r19, hm.r23, hm.r24, hm.r25, hm.r26, hm.r29, hm.r30, hm.r31, hm.r33, hm.r34, hm.r35, hm.k73, hm.k74, hm.k75, hm.k76, hm.k77, hm.k78, hm.k79, hm.k80, hm.k81, hm.k82, hm.k83, hm.k84, hm.k85, hm.k86, hm.k87, hm.k88, hm.k89, hm.n73, hm.n74, hm.n75, hm.n76, hm.n77, hm.n78, hm.n79, hm.n80, hm.n81, hm.n82, hm.n83, hm.n84, hm.n85, hm.n86, hm.n87, hm.n88, hm.n89, m_within, en, ct, m2, eb]
        by_cases cb : ff (rnB S nb t) 0 (rm t) = -1
        · rw [if_neg (fun q => q cb)]
          rw [if_pos cb] at e1
          have ok := rn_ok cb
          have gb := g.b
          have hq : qOk (fun i => nb (40 * t + i)) (rm t) := fun i i0 i1 => by
            have := (ok i i0 i1).1
            dsimp only
            omega
          have f1 : Fr rdP (pI h 72 0 0) (pI (pI h 72 0 0) 72 32 (-1)) := Fr.pI Fr.rf (Or.inr (Or.inr ⟨rfl, rfl⟩))
          have ms1 : MS (pI (pI h 72 0 0) 72 32 (-1)) S := ms0.o (by omega)
          have mt1 := mt.fr f1 (fun a k q1 q2 => by unfold rdP; omega)
          have pc0 : pc8 0 = 0 := by decide
          obtain ⟨h2, e2, Q2, t2, f2⟩ := m_goesRound (d := d + 8 - (rm t).toNat) g.1 ht cn rfl hq (rm t).toNat 0 0 (S 59) 0 (fun _ => 0) _ ms1 mt1 (by omega) (by omega) (by omega) (by have := pw_pos (rm t); omega) pc0 (by omega) (by omega) (by rw [hI_pI, if_pos ⟨rfl, rfl⟩]; omega) (fun z z0 z1 => by omega)
          rw [show d + 8 - (rm t).toNat + (rm t).toNat + 3 = d + 11 by omega] at e2
          have ff' := f0.tr ((fRd f1).tr (fRd f2))
          have ms2 := ms1.q f2 (fun k => by unfold rdP; omega)
          have mb2 := mb.fr ff' ms2
          have mt2 := mb2.2.2.2.2
          have rr := rdF_rng g.1 cn hq (rm t).toNat 0 (S 59) (by rw [pc0]; omega) (by omega) (by have := pw_pos (rm t); omega) (by omega) (by omega)
          unfold rdQ at Q2
          obtain ⟨L2, B2⟩ := Q2.1 ⟨by omega, Or.inl (by rw [hI_pI, if_pos ⟨rfl, rfl⟩])⟩
          rw [Int.zero_add] at L2
          have hm1 := ms1.1
          have e59 : hI (pI (pI h 72 0 0) 72 32 (-1)) 73 59 = S 59 := ms1.2 59
          refine ⟨h2, ?_, mb2, ff'⟩
          refine st.trans (e1.trans ?_)
          have s1 : EX (d+11) m_Mod_rounds 147 [(0, .inr (.inr (72))), (1, .inl (t)), (2, .inl (u))] [] (pI h 72 0 0) = EX (d+11) m_Mod_rounds 167 [(0, .inr (.inr (72))), (1, .inl (t)), (2, .inl (u))] [] (h2) := by
            rw [Mod_rounds_147, if_pos hm.k]
            simp (disch := omega) only [Mod_rounds_152, wr_id, ix_id, okx, if_pos, if_neg, Int.toNat_of_nonneg, bak_v, bak_n, wr_b01, wr_bt, b01_or, b01_0, b01_1, lc_lt0, lc_gt0, lc_eq0, wl_wr, wr_wr, wl_id, true_and, and_true, true_or, or_true, not_true_eq_false, not_false_eq_true, nc0, nc1, nc2, nc3, nc4, nc5, nc6, nc7, nc8, nc9, nc10, nc11, nc12, nc13, nc14, nc15, nc16, nc17, nc18, nc19, nc20, nc21, nc22, nc23, nc35, nc47, nc59, nc60, nc61, nc73, nc74, nc214, nc215, nc1115, nc2230, nc3345, if_true, if_false, Int.reduceToNat, hm1.k, hm1.r1, hm1.k73, hm1.n73, e59, e2]
          refine s1.trans ?_
          have hm := ms2.1
          have m2 := mt2.2.1 t.toNat
          rw [show (t.toNat : Int) = t by omega] at m2
          by_cases c0 : u = 0
          · rw [if_pos c0]
            simp (disch := omega) only [Mod_rounds_167, Mod_rounds_171, Mod_rounds_204, wr_id, ix_id, okx, if_pos, if_neg, Int.toNat_of_nonneg, bak_v, bak_n, wr_b01, wr_bt, b01_or, b01_0, b01_1, lc_lt0, lc_gt0, lc_eq0, wl_wr, wr_wr, wl_id, true_and, and_true, true_or, or_true, not_true_eq_false, not_false_eq_true, nc0, nc1, nc2, nc3, nc4, nc5, nc6, nc7, nc8, nc9, nc10, nc11, nc12, nc13, nc14, nc15, nc16, nc17, nc18, nc19, nc20, nc21, nc22, nc23, nc35, nc47, nc59, nc60, nc61, nc73, nc74, nc214, nc215, nc1115, nc2230, nc3345, if_true, if_false, Int.reduceToNat, hm.k, hm.r1, hm.r2, hm.r3, hm.r4, hm.r15, hm.r16, hm.r19, hm.r23, hm.r24, hm.r25, hm.r26, hm.r29, hm.r30, hm.r31, hm.r33, hm.r34, hm.r35, hm.k73, hm.k74, hm.k75, hm.k76, hm.k77, hm.k78, hm.k79, hm.k80, hm.k81, hm.k82, hm.k83, hm.k84, hm.k85, hm.k86, hm.k87, hm.k88, hm.k89, hm.n73, hm.n74, hm.n75, hm.n76, hm.n77, hm.n78, hm.n79, hm.n80, hm.n81, hm.n82, hm.n83, hm.n84, hm.n85, hm.n86, hm.n87, hm.n88, hm.n89, c0, L2]
          · rw [if_neg c0]
            by_cases c1 : u - 10 < rm t
            · rw [if_pos c1]
              have b2 := B2 (u - 10) (by omega) c1
              rw [if_neg (show ¬ u - 10 < 0 by omega), show u - 10 - 0 = u - 10 by omega] at b2
              simp (disch := omega) only [Mod_rounds_167, Mod_rounds_178, Mod_rounds_191, Mod_rounds_204, wr_id, ix_id, okx, if_pos, if_neg, Int.toNat_of_nonneg, bak_v, bak_n, wr_b01, wr_bt, b01_or, b01_0, b01_1, lc_lt0, lc_gt0, lc_eq0, wl_wr, wr_wr, wl_id, true_and, and_true, true_or, or_true, not_true_eq_false, not_false_eq_true, nc0, nc1, nc2, nc3, nc4, nc5, nc6, nc7, nc8, nc9, nc10, nc11, nc12, nc13, nc14, nc15, nc16, nc17, nc18, nc19, nc20, nc21, nc22, nc23, nc35, nc47, nc59, nc60, nc61, nc73, nc74, nc214, nc215, nc1115, nc2230, nc3345, if_true, if_false, Int.reduceToNat, hm.k, hm.r1, hm.r2, hm.r3, hm.r4, hm.r15, hm.r16, hm.r19, hm.r23, hm.r24, hm.r25, hm.r26, hm.r29, hm.r30, hm.r31, hm.r33, hm.r34, hm.r35, hm.k73, hm.k74, hm.k75, hm.k76, hm.k77, hm.k78, hm.k79, hm.k80, hm.k81, hm.k82, hm.k83, hm.k84, hm.k85, hm.k86, hm.k87, hm.k88, hm.k89, hm.n73, hm.n74, hm.n75, hm.n76, hm.n77, hm.n78, hm.n79, hm.n80, hm.n81, hm.n82, hm.n83, hm.n84, hm.n85, hm.n86, hm.n87, hm.n88, hm.n89, m2, b2]
            · rw [if_neg c1]
              simp (disch := omega) only [Mod_rounds_167, Mod_rounds_178, Mod_rounds_203, Mod_rounds_204, wr_id, ix_id, okx, if_pos, if_neg, Int.toNat_of_nonneg, bak_v, bak_n, wr_b01, wr_bt, b01_or, b01_0, b01_1, lc_lt0, lc_gt0, lc_eq0, wl_wr, wr_wr, wl_id, true_and, and_true, true_or, or_true, not_true_eq_false, not_false_eq_true, nc0, nc1, nc2, nc3, nc4, nc5, nc6, nc7, nc8, nc9, nc10, nc11, nc12, nc13, nc14, nc15, nc16, nc17, nc18, nc19, nc20, nc21, nc22, nc23, nc35, nc47, nc59, nc60, nc61, nc73, nc74, nc214, nc215, nc1115, nc2230, nc3345, if_true, if_false, Int.reduceToNat, hm.k, hm.r1, hm.r2, hm.r3, hm.r4, hm.r15, hm.r16, hm.r19, hm.r23, hm.r24, hm.r25, hm.r26, hm.r29, hm.r30, hm.r31, hm.r33, hm.r34, hm.r35, hm.k73, hm.k74, hm.k75, hm.k76, hm.k77, hm.k78, hm.k79, hm.k80, hm.k81, hm.k82, hm.k83, hm.k84, hm.k85, hm.k86, hm.k87, hm.k88, hm.k89, hm.n73, hm.n74, hm.n75, hm.n76, hm.n77, hm.n78, hm.n79, hm.n80, hm.n81, hm.n82, hm.n83, hm.n84, hm.n85, hm.n86, hm.n87, hm.n88, hm.n89, m2]
        · rw [if_pos cb]
          rw [if_neg cb] at e1
          exact ⟨_, st.trans e1, mb0, f0⟩
      · rw [if_pos cn]
        have eb : b01 (1 ≤ rm t ∧ rm t ≤ 8) = 0 := by unfold b01; rw [if_neg cn]
        refine ⟨_, ?_, mb0, f0⟩
        refine st0.trans ?_
        simp (disch := omega) only [Mod_rounds_26, Mod_rounds_31, Mod_rounds_38, Mod_rounds_52, Mod_rounds_55, wr_id, ix_id, okx, if_pos, if_neg, Int.toNat_of_nonneg, bak_v, bak_n, wr_b01, wr_bt, b01_or, b01_0, b01_1, lc_lt0, lc_gt0, lc_eq0, wl_wr, wr_wr, wl_id, true_and, and_true, true_or, or_true, not_true_eq_false, not_false_eq_true, nc0, nc1, nc2, nc3, nc4, nc5, nc6, nc7, nc8, nc9, nc10, nc11, nc12, nc13, nc14, nc15, nc16, nc17, nc18, nc19, nc20, nc21, nc22, nc23, nc35, nc47, nc59, nc60, nc61, nc73, nc74, nc214, nc215, nc1115, nc2230, nc3345, if_true, if_false, Int.reduceToNat, hm.k, hm.r1, hm.r2, hm.r3, hm.r4, hm.r15, hm.r16, hm.r19, hm.r23, hm.r24, hm.r25, hm.r26, hm.r29, hm.r30, hm.r31, hm.r33, hm.r34, hm.r35, hm.k73, hm.k74, hm.k75, hm.k76, hm.k77, hm.k78, hm.k79, hm.k80, hm.k81, hm.k82, hm.k83, hm.k84, hm.k85, hm.k86, hm.k87, hm.k88, hm.k89, hm.n73, hm.n74, hm.n75, hm.n76, hm.n77, hm.n78, hm.n79, hm.n80, hm.n81, hm.n82, hm.n83, hm.n84, hm.n85, hm.n86, hm.n87, hm.n88, hm.n89, m_within, en, ct, m2, eb]
    · rw [if_pos ct]
      have nr := noT_rng rs t
      refine ⟨_, ?_, mb0, f0⟩
      refine st0.trans ?_
      simp (disch := omega) only [Mod_rounds_26, Mod_rounds_31, Mod_rounds_36, wr_id, ix_id, okx, if_pos, if_neg, Int.toNat_of_nonneg, bak_v, bak_n, wr_b01, wr_bt, b01_or, b01_0, b01_1, lc_lt0, lc_gt0, lc_eq0, wl_wr, wr_wr, wl_id, true_and, and_true, true_or, or_true, not_true_eq_false, not_false_eq_true, nc0, nc1, nc2, nc3, nc4, nc5, nc6, nc7, nc8, nc9, nc10, nc11, nc12, nc13, nc14, nc15, nc16, nc17, nc18, nc19, nc20, nc21, nc22, nc23, nc35, nc47, nc59, nc60, nc61, nc73, nc74, nc214, nc215, nc1115, nc2230, nc3345, if_true, if_false, Int.reduceToNat, hm.k, hm.r1, hm.r2, hm.r3, hm.r4, hm.r15, hm.r16, hm.r19, hm.r23, hm.r24, hm.r25, hm.r26, hm.r29, hm.r30, hm.r31, hm.r33, hm.r34, hm.r35, hm.k73, hm.k74, hm.k75, hm.k76, hm.k77, hm.k78, hm.k79, hm.k80, hm.k81, hm.k82, hm.k83, hm.k84, hm.k85, hm.k86, hm.k87, hm.k88, hm.k89, hm.n73, hm.n74, hm.n75, hm.n76, hm.n77, hm.n78, hm.n79, hm.n80, hm.n81, hm.n82, hm.n83, hm.n84, hm.n85, hm.n86, hm.n87, hm.n88, hm.n89, en]
  · rw [if_pos cu]
    have eb : b01 (10 ≤ u ∧ u ≤ 17) = 0 := by unfold b01; rw [if_neg (by omega)]
    refine ⟨_, ?_, mb0, f0⟩
    show EX (d+11) m_Mod_rounds 0 [(0, .inr (.inr (72))), (1, .inl (t)), (2, .inl (u))] [] (h) = _
    simp (disch := omega) only [Mod_rounds_0, Mod_rounds_5, Mod_rounds_9, Mod_rounds_20, Mod_rounds_23, wr_id, ix_id, okx, if_pos, if_neg, Int.toNat_of_nonneg, bak_v, bak_n, wr_b01, wr_bt, b01_or, b01_0, b01_1, lc_lt0, lc_gt0, lc_eq0, wl_wr, wr_wr, wl_id, true_and, and_true, true_or, or_true, not_true_eq_false, not_false_eq_true, nc0, nc1, nc2, nc3, nc4, nc5, nc6, nc7, nc8, nc9, nc10, nc11, nc12, nc13, nc14, nc15, nc16, nc17, nc18, nc19, nc20, nc21, nc22, nc23, nc35, nc47, nc59, nc60, nc61, nc73, nc74, nc214, nc215, nc1115, nc2230, nc3345, if_true, if_false, Int.reduceToNat, hk, hm.k, hm.r1, hm.r2, hm.r3, hm.r4, hm.r15, hm.r16, hm.r19, hm.r23, hm.r24, hm.r25, hm.r26, hm.r29, hm.r30, hm.r31, hm.r33, hm.r34, hm.r35, hm.k73, hm.k74, hm.k75, hm.k76, hm.k77, hm.k78, hm.k79, hm.k80, hm.k81, hm.k82, hm.k83, hm.k84, hm.k85, hm.k86, hm.k87, hm.k88, hm.k89, hm.n73, hm.n74, hm.n75, hm.n76, hm.n77, hm.n78, hm.n79, hm.n80, hm.n81, hm.n82, hm.n83, hm.n84, hm.n85, hm.n86, hm.n87, hm.n88, hm.n89, m_within, eb]
