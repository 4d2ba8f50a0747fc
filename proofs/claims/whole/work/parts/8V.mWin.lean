/-! the model: a line, a window, the tape -/
theorem m_readLine {d : Nat} {T : Int → Int} {n a : Int} {S : Int → Int} {h : Hp} (m : MP h T n a S) (g : Gd S) : ∃ h', cal (d+50) m_Mod_readLine [.inr (.inr (72))] (h) = some (.inl 0, h') ∧ mrW h' T n (lnP T n a S) ∧ Fr pPs h h' := by
  have hm := m.1.1
  have rg := m.rng
  have ga := g.a
  have gb := g.b
  have s1 : hI h 76 1 = S 1 := m.2.2.2.1 1
  have s2 : hI h 76 2 = S 2 := m.2.2.2.1 2
  have i0 := m_is (d := d + 48) m (k := 0) (by omega)
  have i1 := m_is (d := d + 48) m (k := 1) (by omega)
  have i6 := m_is (d := d + 48) m (k := 6) (by omega)
  have nN := fun k (hk : 0 ≤ k ∧ k ≤ 100) => m_eatsN (d := d + 46) m (k := k) hk
  have mfw : ∀ {h2 : Hp} {e : Int × Int} (z : Nat) (v : Int), MF h2 e → MF (pI h2 76 z v) e := fun z v q => ⟨by rw [hI_pI, if_neg (by omega)]; exact q.1, by rw [hI_pI, if_neg (by omega)]; exact q.2.1, q.2.2⟩
  show ∃ h', EX (d+49) m_Mod_readLine 0 [(0, .inr (.inr (72)))] [] (h) = some (.inl 0, h') ∧ mrW h' T n (lnP T n a S) ∧ Fr pPs h h'
  unfold lnP
  by_cases c0 : tkK T n a = 0 ∧ S 2 = 0
  · rw [if_pos c0]
    have b : b01 (tkK T n a = 0) = 1 := by unfold b01; rw [if_pos c0.1]
    rw [b] at i0
    obtain ⟨h1, e1, m1, f1⟩ := m_nextP (d := d + 47) m
    have hm1 := m1.1.1
    obtain ⟨h2, v, e2, r2, f2⟩ := m_takesRow (d := d + 45) (o := 23) (Or.inr rfl) m1
    have x2 := m1.1.ps f2
    have hm2 := x2.1
    have st : EX (d+49) m_Mod_readLine 0 [(0, .inr (.inr (72)))] [] (h) = some (.inl 0, pI h2 76 2 (1 + v)) := by
      simp (disch := omega) only [Mod_readLine_0, Mod_readLine_5, Mod_readLine_8, Mod_readLine_17, wr_id, ix_id, okx, if_pos, if_neg, Int.toNat_of_nonneg, bak_v, bak_n, wr_b01, wr_bt, b01_or, b01_0, b01_1, lc_lt0, lc_gt0, lc_eq0, wl_wr, wr_wr, wl_id, true_and, and_true, true_or, or_true, not_true_eq_false, not_false_eq_true, nc0, nc1, nc2, nc3, nc4, nc5, nc6, nc7, nc8, nc9, nc10, nc11, nc12, nc13, nc14, nc15, nc16, nc17, nc18, nc19, nc20, nc21, nc22, nc23, nc35, nc47, nc59, nc60, nc61, nc73, nc74, nc214, nc215, nc1115, nc2230, nc3345, if_true, if_false, Int.reduceToNat, hm.k, hm.r1, hm.r2, hm.r3, hm.r4, hm.r15, hm.r16, hm.r19, hm.r23, hm.r24, hm.r25, hm.r26, hm.r29, hm.r30, hm.r31, hm.r33, hm.r34, hm.r35, hm.k73, hm.k74, hm.k75, hm.k76, hm.k77, hm.k78, hm.k79, hm.k80, hm.k81, hm.k82, hm.k83, hm.k84, hm.k85, hm.k86, hm.k87, hm.k88, hm.k89, hm.n73, hm.n74, hm.n75, hm.n76, hm.n77, hm.n78, hm.n79, hm.n80, hm.n81, hm.n82, hm.n83, hm.n84, hm.n85, hm.n86, hm.n87, hm.n88, hm.n89, i0, s2, c0.2, e1]
      have hm := hm1
      simp (disch := omega) only [Mod_readLine_21, wr_id, ix_id, okx, if_pos, if_neg, Int.toNat_of_nonneg, bak_v, bak_n, wr_b01, wr_bt, b01_or, b01_0, b01_1, lc_lt0, lc_gt0, lc_eq0, wl_wr, wr_wr, wl_id, true_and, and_true, true_or, or_true, not_true_eq_false, not_false_eq_true, nc0, nc1, nc2, nc3, nc4, nc5, nc6, nc7, nc8, nc9, nc10, nc11, nc12, nc13, nc14, nc15, nc16, nc17, nc18, nc19, nc20, nc21, nc22, nc23, nc35, nc47, nc59, nc60, nc61, nc73, nc74, nc214, nc215, nc1115, nc2230, nc3345, if_true, if_false, Int.reduceToNat, hm.k, hm.r1, hm.r2, hm.r3, hm.r4, hm.r15, hm.r16, hm.r19, hm.r23, hm.r24, hm.r25, hm.r26, hm.r29, hm.r30, hm.r31, hm.r33, hm.r34, hm.r35, hm.k73, hm.k74, hm.k75, hm.k76, hm.k77, hm.k78, hm.k79, hm.k80, hm.k81, hm.k82, hm.k83, hm.k84, hm.k85, hm.k86, hm.k87, hm.k88, hm.k89, hm.n73, hm.n74, hm.n75, hm.n76, hm.n77, hm.n78, hm.n79, hm.n80, hm.n81, hm.n82, hm.n83, hm.n84, hm.n85, hm.n86, hm.n87, hm.n88, hm.n89, e2]
      have hm := hm2
      simp (disch := omega) only [Mod_readLine_33, Mod_readLine_35, Mod_readLine_277, wr_id, ix_id, okx, if_pos, if_neg, Int.toNat_of_nonneg, bak_v, bak_n, wr_b01, wr_bt, b01_or, b01_0, b01_1, lc_lt0, lc_gt0, lc_eq0, wl_wr, wr_wr, wl_id, true_and, and_true, true_or, or_true, not_true_eq_false, not_false_eq_true, nc0, nc1, nc2, nc3, nc4, nc5, nc6, nc7, nc8, nc9, nc10, nc11, nc12, nc13, nc14, nc15, nc16, nc17, nc18, nc19, nc20, nc21, nc22, nc23, nc35, nc47, nc59, nc60, nc61, nc73, nc74, nc214, nc215, nc1115, nc2230, nc3345, if_true, if_false, Int.reduceToNat, hm.k, hm.r1, hm.r2, hm.r3, hm.r4, hm.r15, hm.r16, hm.r19, hm.r23, hm.r24, hm.r25, hm.r26, hm.r29, hm.r30, hm.r31, hm.r33, hm.r34, hm.r35, hm.k73, hm.k74, hm.k75, hm.k76, hm.k77, hm.k78, hm.k79, hm.k80, hm.k81, hm.k82, hm.k83, hm.k84, hm.k85, hm.k86, hm.k87, hm.k88, hm.k89, hm.n73, hm.n74, hm.n75, hm.n76, hm.n77, hm.n78, hm.n79, hm.n80, hm.n81, hm.n82, hm.n83, hm.n84, hm.n85, hm.n86, hm.n87, hm.n88, hm.n89]
    refine ⟨_, st, ?_, (f1.tr f2).tr pR76⟩
    unfold rlP
    cases hq : rwP T n 23 13 0 (nx T n a) S with
    | inl e => rw [hq] at r2; exact mfw 2 _ r2
    | inr q =>
      rw [hq] at r2
      obtain ⟨rv, rm⟩ := r2
      rw [rv]
      exact rm.row (z := 2) (by omega)
  rw [if_neg c0]
  have st1 : EX (d+49) m_Mod_readLine 0 [(0, .inr (.inr (72)))] [] (h) = EX (d+49) m_Mod_readLine 38 [(0, .inr (.inr (72)))] [] (h) := by
    by_cases z : tkK T n a = 0
    · have b : b01 (tkK T n a = 0) = 1 := by unfold b01; rw [if_pos z]
      rw [b] at i0
      simp (disch := omega) only [Mod_readLine_0, Mod_readLine_5, Mod_readLine_8, wr_id, ix_id, okx, if_pos, if_neg, Int.toNat_of_nonneg, bak_v, bak_n, wr_b01, wr_bt, b01_or, b01_0, b01_1, lc_lt0, lc_gt0, lc_eq0, wl_wr, wr_wr, wl_id, true_and, and_true, true_or, or_true, not_true_eq_false, not_false_eq_true, nc0, nc1, nc2, nc3, nc4, nc5, nc6, nc7, nc8, nc9, nc10, nc11, nc12, nc13, nc14, nc15, nc16, nc17, nc18, nc19, nc20, nc21, nc22, nc23, nc35, nc47, nc59, nc60, nc61, nc73, nc74, nc214, nc215, nc1115, nc2230, nc3345, if_true, if_false, Int.reduceToNat, hm.k, hm.r1, hm.r2, hm.r3, hm.r4, hm.r15, hm.r16, hm.r19, hm.r23, hm.r24, hm.r25, hm.r26, hm.r29, hm.r30, hm.r31, hm.r33, hm.r34, hm.r35, hm.k73, hm.k74, hm.k75, hm.k76, hm.k77, hm.k78, hm.k79, hm.k80, hm.k81, hm.k82, hm.k83, hm.k84, hm.k85, hm.k86, hm.k87, hm.k88, hm.k89, hm.n73, hm.n74, hm.n75, hm.n76, hm.n77, hm.n78, hm.n79, hm.n80, hm.n81, hm.n82, hm.n83, hm.n84, hm.n85, hm.n86, hm.n87, hm.n88, hm.n89, i0, s2]
    · have b : b01 (tkK T n a = 0) = 0 := by unfold b01; rw [if_neg z]
      rw [b] at i0
      simp (disch := omega) only [Mod_readLine_0, Mod_readLine_5, wr_id, ix_id, okx, if_pos, if_neg, Int.toNat_of_nonneg, bak_v, bak_n, wr_b01, wr_bt, b01_or, b01_0, b01_1, lc_lt0, lc_gt0, lc_eq0, wl_wr, wr_wr, wl_id, true_and, and_true, true_or, or_true, not_true_eq_false, not_false_eq_true, nc0, nc1, nc2, nc3, nc4, nc5, nc6, nc7, nc8, nc9, nc10, nc11, nc12, nc13, nc14, nc15, nc16, nc17, nc18, nc19, nc20, nc21, nc22, nc23, nc35, nc47, nc59, nc60, nc61, nc73, nc74, nc214, nc215, nc1115, nc2230, nc3345, if_true, if_false, Int.reduceToNat, hm.k, hm.r1, hm.r2, hm.r3, hm.r4, hm.r15, hm.r16, hm.r19, hm.r23, hm.r24, hm.r25, hm.r26, hm.r29, hm.r30, hm.r31, hm.r33, hm.r34, hm.r35, hm.k73, hm.k74, hm.k75, hm.k76, hm.k77, hm.k78, hm.k79, hm.k80, hm.k81, hm.k82, hm.k83, hm.k84, hm.k85, hm.k86, hm.k87, hm.k88, hm.k89, hm.n73, hm.n74, hm.n75, hm.n76, hm.n77, hm.n78, hm.n79, hm.n80, hm.n81, hm.n82, hm.n83, hm.n84, hm.n85, hm.n86, hm.n87, hm.n88, hm.n89, i0]
  by_cases c1 : tkK T n a = 1 ∧ S 1 = 0
  · rw [if_pos c1]
    have b : b01 (tkK T n a = 1) = 1 := by unfold b01; rw [if_pos c1.1]
    rw [b] at i1
    obtain ⟨h1, e1, m1, f1⟩ := m_nextP (d := d + 47) m
    have hm1 := m1.1.1
    obtain ⟨h2, v, e2, r2, f2⟩ := m_takesRow (d := d + 45) (o := 11) (Or.inl rfl) m1
    have x2 := m1.1.ps f2
    have hm2 := x2.1
    have st : EX (d+49) m_Mod_readLine 38 [(0, .inr (.inr (72)))] [] (h) = some (.inl 0, pI h2 76 1 (1 + v)) := by
      simp (disch := omega) only [Mod_readLine_38, Mod_readLine_43, Mod_readLine_46, Mod_readLine_55, wr_id, ix_id, okx, if_pos, if_neg, Int.toNat_of_nonneg, bak_v, bak_n, wr_b01, wr_bt, b01_or, b01_0, b01_1, lc_lt0, lc_gt0, lc_eq0, wl_wr, wr_wr, wl_id, true_and, and_true, true_or, or_true, not_true_eq_false, not_false_eq_true, nc0, nc1, nc2, nc3, nc4, nc5, nc6, nc7, nc8, nc9, nc10, nc11, nc12, nc13, nc14, nc15, nc16, nc17, nc18, nc19, nc20, nc21, nc22, nc23, nc35, nc47, nc59, nc60, nc61, nc73, nc74, nc214, nc215, nc1115, nc2230, nc3345, if_true, if_false, Int.reduceToNat, hm.k, hm.r1, hm.r2, hm.r3, hm.r4, hm.r15, hm.r16, hm.r19, hm.r23, hm.r24, hm.r25, hm.r26, hm.r29, hm.r30, hm.r31, hm.r33, hm.r34, hm.r35, hm.k73, hm.k74, hm.k75, hm.k76, hm.k77, hm.k78, hm.k79, hm.k80, hm.k81, hm.k82, hm.k83, hm.k84, hm.k85, hm.k86, hm.k87, hm.k88, hm.k89, hm.n73, hm.n74, hm.n75, hm.n76, hm.n77, hm.n78, hm.n79, hm.n80, hm.n81, hm.n82, hm.n83, hm.n84, hm.n85, hm.n86, hm.n87, hm.n88, hm.n89, i1, s1, c1.2, e1]
      have hm := hm1
      simp (disch := omega) only [Mod_readLine_59, wr_id, ix_id, okx, if_pos, if_neg, Int.toNat_of_nonneg, bak_v, bak_n, wr_b01, wr_bt, b01_or, b01_0, b01_1, lc_lt0, lc_gt0, lc_eq0, wl_wr, wr_wr, wl_id, true_and, and_true, true_or, or_true, not_true_eq_false, not_false_eq_true, nc0, nc1, nc2, nc3, nc4, nc5, nc6, nc7, nc8, nc9, nc10, nc11, nc12, nc13, nc14, nc15, nc16, nc17, nc18, nc19, nc20, nc21, nc22, nc23, nc35, nc47, nc59, nc60, nc61, nc73, nc74, nc214, nc215, nc1115, nc2230, nc3345, if_true, if_false, Int.reduceToNat, hm.k, hm.r1, hm.r2, hm.r3, hm.r4, hm.r15, hm.r16, hm.r19, hm.r23, hm.r24, hm.r25, hm.r26, hm.r29, hm.r30, hm.r31, hm.r33, hm.r34, hm.r35, hm.k73, hm.k74, hm.k75, hm.k76, hm.k77, hm.k78, hm.k79, hm.k80, hm.k81, hm.k82, hm.k83, hm.k84, hm.k85, hm.k86, hm.k87, hm.k88, hm.k89, hm.n73, hm.n74, hm.n75, hm.n76, hm.n77, hm.n78, hm.n79, hm.n80, hm.n81, hm.n82, hm.n83, hm.n84, hm.n85, hm.n86, hm.n87, hm.n88, hm.n89, e2]
      have hm := hm2
      simp (disch := omega) only [Mod_readLine_71, Mod_readLine_73, Mod_readLine_277, wr_id, ix_id, okx, if_pos, if_neg, Int.toNat_of_nonneg, bak_v, bak_n, wr_b01, wr_bt, b01_or, b01_0, b01_1, lc_lt0, lc_gt0, lc_eq0, wl_wr, wr_wr, wl_id, true_and, and_true, true_or, or_true, not_true_eq_false, not_false_eq_true, nc0, nc1, nc2, nc3, nc4, nc5, nc6, nc7, nc8, nc9, nc10, nc11, nc12, nc13, nc14, nc15, nc16, nc17, nc18, nc19, nc20, nc21, nc22, nc23, nc35, nc47, nc59, nc60, nc61, nc73, nc74, nc214, nc215, nc1115, nc2230, nc3345, if_true, if_false, Int.reduceToNat, hm.k, hm.r1, hm.r2, hm.r3, hm.r4, hm.r15, hm.r16, hm.r19, hm.r23, hm.r24, hm.r25, hm.r26, hm.r29, hm.r30, hm.r31, hm.r33, hm.r34, hm.r35, hm.k73, hm.k74, hm.k75, hm.k76, hm.k77, hm.k78, hm.k79, hm.k80, hm.k81, hm.k82, hm.k83, hm.k84, hm.k85, hm.k86, hm.k87, hm.k88, hm.k89, hm.n73, hm.n74, hm.n75, hm.n76, hm.n77, hm.n78, hm.n79, hm.n80, hm.n81, hm.n82, hm.n83, hm.n84, hm.n85, hm.n86, hm.n87, hm.n88, hm.n89]
    refine ⟨_, st1.trans st, ?_, (f1.tr f2).tr pR76⟩
    unfold rlP
    cases hq : rwP T n 11 13 0 (nx T n a) S with
    | inl e => rw [hq] at r2; exact mfw 1 _ r2
    | inr q =>
      rw [hq] at r2
      obtain ⟨rv, rm⟩ := r2
      rw [rv]
      exact rm.row (z := 1) (by omega)
  rw [if_neg c1]
  have st2 : EX (d+49) m_Mod_readLine 0 [(0, .inr (.inr (72)))] [] (h) = EX (d+49) m_Mod_readLine 76 [(0, .inr (.inr (72)))] [] (h) := by
    refine st1.trans ?_
    by_cases z : tkK T n a = 1
    · have b : b01 (tkK T n a = 1) = 1 := by unfold b01; rw [if_pos z]
      rw [b] at i1
      simp (disch := omega) only [Mod_readLine_38, Mod_readLine_43, Mod_readLine_46, wr_id, ix_id, okx, if_pos, if_neg, Int.toNat_of_nonneg, bak_v, bak_n, wr_b01, wr_bt, b01_or, b01_0, b01_1, lc_lt0, lc_gt0, lc_eq0, wl_wr, wr_wr, wl_id, true_and, and_true, true_or, or_true, not_true_eq_false, not_false_eq_true, nc0, nc1, nc2, nc3, nc4, nc5, nc6, nc7, nc8, nc9, nc10, nc11, nc12, nc13, nc14, nc15, nc16, nc17, nc18, nc19, nc20, nc21, nc22, nc23, nc35, nc47, nc59, nc60, nc61, nc73, nc74, nc214, nc215, nc1115, nc2230, nc3345, if_true, if_false, Int.reduceToNat, hm.k, hm.r1, hm.r2, hm.r3, hm.r4, hm.r15, hm.r16, hm.r19, hm.r23, hm.r24, hm.r25, hm.r26, hm.r29, hm.r30, hm.r31, hm.r33, hm.r34, hm.r35, hm.k73, hm.k74, hm.k75, hm.k76, hm.k77, hm.k78, hm.k79, hm.k80, hm.k81, hm.k82, hm.k83, hm.k84, hm.k85, hm.k86, hm.k87, hm.k88, hm.k89, hm.n73, hm.n74, hm.n75, hm.n76, hm.n77, hm.n78, hm.n79, hm.n80, hm.n81, hm.n82, hm.n83, hm.n84, hm.n85, hm.n86, hm.n87, hm.n88, hm.n89, i1, s1]
    · have b : b01 (tkK T n a = 1) = 0 := by unfold b01; rw [if_neg z]
      rw [b] at i1
      simp (disch := omega) only [Mod_readLine_38, Mod_readLine_43, wr_id, ix_id, okx, if_pos, if_neg, Int.toNat_of_nonneg, bak_v, bak_n, wr_b01, wr_bt, b01_or, b01_0, b01_1, lc_lt0, lc_gt0, lc_eq0, wl_wr, wr_wr, wl_id, true_and, and_true, true_or, or_true, not_true_eq_false, not_false_eq_true, nc0, nc1, nc2, nc3, nc4, nc5, nc6, nc7, nc8, nc9, nc10, nc11, nc12, nc13, nc14, nc15, nc16, nc17, nc18, nc19, nc20, nc21, nc22, nc23, nc35, nc47, nc59, nc60, nc61, nc73, nc74, nc214, nc215, nc1115, nc2230, nc3345, if_true, if_false, Int.reduceToNat, hm.k, hm.r1, hm.r2, hm.r3, hm.r4, hm.r15, hm.r16, hm.r19, hm.r23, hm.r24, hm.r25, hm.r26, hm.r29, hm.r30, hm.r31, hm.r33, hm.r34, hm.r35, hm.k73, hm.k74, hm.k75, hm.k76, hm.k77, hm.k78, hm.k79, hm.k80, hm.k81, hm.k82, hm.k83, hm.k84, hm.k85, hm.k86, hm.k87, hm.k88, hm.k89, hm.n73, hm.n74, hm.n75, hm.n76, hm.n77, hm.n78, hm.n79, hm.n80, hm.n81, hm.n82, hm.n83, hm.n84, hm.n85, hm.n86, hm.n87, hm.n88, hm.n89, i1]
  by_cases c6 : tkK T n a = 6
  · rw [if_pos c6]
    have b : b01 (tkK T n a = 6) = 1 := by unfold b01; rw [if_pos c6]
    rw [b] at i6
    obtain ⟨h1, e1, r1, f1⟩ := m_readLaw (d := d + 1) m
    refine ⟨h1, st2.trans ?_, r1, f1⟩
    simp (disch := omega) only [Mod_readLine_76, Mod_readLine_82, Mod_readLine_85, Mod_readLine_89, Mod_readLine_277, wr_id, ix_id, okx, if_pos, if_neg, Int.toNat_of_nonneg, bak_v, bak_n, wr_b01, wr_bt, b01_or, b01_0, b01_1, lc_lt0, lc_gt0, lc_eq0, wl_wr, wr_wr, wl_id, true_and, and_true, true_or, or_true, not_true_eq_false, not_false_eq_true, nc0, nc1, nc2, nc3, nc4, nc5, nc6, nc7, nc8, nc9, nc10, nc11, nc12, nc13, nc14, nc15, nc16, nc17, nc18, nc19, nc20, nc21, nc22, nc23, nc35, nc47, nc59, nc60, nc61, nc73, nc74, nc214, nc215, nc1115, nc2230, nc3345, if_true, if_false, Int.reduceToNat, hm.k, i6, e1]
  rw [if_neg c6]
  have st3 : EX (d+49) m_Mod_readLine 0 [(0, .inr (.inr (72)))] [] (h) = EX (d+49) m_Mod_readLine 92 [(0, .inr (.inr (72)))] [] (h) := by
    refine st2.trans ?_
    have b : b01 (tkK T n a = 6) = 0 := by unfold b01; rw [if_neg c6]
    rw [b] at i6
    simp (disch := omega) only [Mod_readLine_76, Mod_readLine_82, wr_id, ix_id, okx, if_pos, if_neg, Int.toNat_of_nonneg, bak_v, bak_n, wr_b01, wr_bt, b01_or, b01_0, b01_1, lc_lt0, lc_gt0, lc_eq0, wl_wr, wr_wr, wl_id, true_and, and_true, true_or, or_true, not_true_eq_false, not_false_eq_true, nc0, nc1, nc2, nc3, nc4, nc5, nc6, nc7, nc8, nc9, nc10, nc11, nc12, nc13, nc14, nc15, nc16, nc17, nc18, nc19, nc20, nc21, nc22, nc23, nc35, nc47, nc59, nc60, nc61, nc73, nc74, nc214, nc215, nc1115, nc2230, nc3345, if_true, if_false, Int.reduceToNat, hm.k, i6]
  by_cases c7 : tkK T n a = 7
  · rw [if_pos c7]
    obtain ⟨h1, e1, m1, f1⟩ := m_eats (d := d + 46) m (k := 7) (by omega) c7
    have hm1 := m1.1.1
    obtain ⟨h2, e2, r2, f2⟩ := m_readChair (d := d + 45) m1
    refine ⟨h2, st3.trans ?_, r2, f1.tr f2⟩
    simp (disch := omega) only [Mod_readLine_92, Mod_readLine_98, Mod_readLine_101, Mod_readLine_105, Mod_readLine_277, wr_id, ix_id, okx, if_pos, if_neg, Int.toNat_of_nonneg, bak_v, bak_n, wr_b01, wr_bt, b01_or, b01_0, b01_1, lc_lt0, lc_gt0, lc_eq0, wl_wr, wr_wr, wl_id, true_and, and_true, true_or, or_true, not_true_eq_false, not_false_eq_true, nc0, nc1, nc2, nc3, nc4, nc5, nc6, nc7, nc8, nc9, nc10, nc11, nc12, nc13, nc14, nc15, nc16, nc17, nc18, nc19, nc20, nc21, nc22, nc23, nc35, nc47, nc59, nc60, nc61, nc73, nc74, nc214, nc215, nc1115, nc2230, nc3345, if_true, if_false, Int.reduceToNat, hm.k, e1, hm1.k, e2]
  rw [if_neg c7]
  have n7 := nN 7 (by omega) c7
  have st4 : EX (d+49) m_Mod_readLine 0 [(0, .inr (.inr (72)))] [] (h) = EX (d+49) m_Mod_readLine 108 [(0, .inr (.inr (72)))] [] (h) := by
    refine st3.trans ?_
    simp (disch := omega) only [Mod_readLine_92, Mod_readLine_98, wr_id, ix_id, okx, if_pos, if_neg, Int.toNat_of_nonneg, bak_v, bak_n, wr_b01, wr_bt, b01_or, b01_0, b01_1, lc_lt0, lc_gt0, lc_eq0, wl_wr, wr_wr, wl_id, true_and, and_true, true_or, or_true, not_true_eq_false, not_false_eq_true, nc0, nc1, nc2, nc3, nc4, nc5, nc6, nc7, nc8, nc9, nc10, nc11, nc12, nc13, nc14, nc15, nc16, nc17, nc18, nc19, nc20, nc21, nc22, nc23, nc35, nc47, nc59, nc60, nc61, nc73, nc74, nc214, nc215, nc1115, nc2230, nc3345, if_true, if_false, Int.reduceToNat, hm.k, n7]
  by_cases c8 : tkK T n a = 8
  · rw [if_pos c8]
    obtain ⟨h1, e1, m1, f1⟩ := m_eats (d := d + 46) m (k := 8) (by omega) c8
    have hm1 := m1.1.1
    unfold plP
    cases hq : tak T n 2 6 (nx T n a) with
    | inl e =>
      obtain ⟨h2, v, e2, m2, f2⟩ := m_takesN (d := d + 46) m1 (by omega) (by omega) hq
      have hm2 := (m1.1.ps f2).1
      refine ⟨pI h2 76 6 v, st4.trans ?_, mfw 6 v m2, (f1.tr f2).tr pR76⟩
      simp (disch := omega) only [Mod_readLine_108, Mod_readLine_114, wr_id, ix_id, okx, if_pos, if_neg, Int.toNat_of_nonneg, bak_v, bak_n, wr_b01, wr_bt, b01_or, b01_0, b01_1, lc_lt0, lc_gt0, lc_eq0, wl_wr, wr_wr, wl_id, true_and, and_true, true_or, or_true, not_true_eq_false, not_false_eq_true, nc0, nc1, nc2, nc3, nc4, nc5, nc6, nc7, nc8, nc9, nc10, nc11, nc12, nc13, nc14, nc15, nc16, nc17, nc18, nc19, nc20, nc21, nc22, nc23, nc35, nc47, nc59, nc60, nc61, nc73, nc74, nc214, nc215, nc1115, nc2230, nc3345, if_true, if_false, Int.reduceToNat, hm.k, e1]
      have hm := hm1
      simp (disch := omega) only [Mod_readLine_117, wr_id, ix_id, okx, if_pos, if_neg, Int.toNat_of_nonneg, bak_v, bak_n, wr_b01, wr_bt, b01_or, b01_0, b01_1, lc_lt0, lc_gt0, lc_eq0, wl_wr, wr_wr, wl_id, true_and, and_true, true_or, or_true, not_true_eq_false, not_false_eq_true, nc0, nc1, nc2, nc3, nc4, nc5, nc6, nc7, nc8, nc9, nc10, nc11, nc12, nc13, nc14, nc15, nc16, nc17, nc18, nc19, nc20, nc21, nc22, nc23, nc35, nc47, nc59, nc60, nc61, nc73, nc74, nc214, nc215, nc1115, nc2230, nc3345, if_true, if_false, Int.reduceToNat, hm.k, hm.r1, hm.r2, hm.r3, hm.r4, hm.r15, hm.r16, hm.r19, hm.r23, hm.r24, hm.r25, hm.r26, hm.r29, hm.r30, hm.r31, hm.r33, hm.r34, hm.r35, hm.k73, hm.k74, hm.k75, hm.k76, hm.k77, hm.k78, hm.k79, hm.k80, hm.k81, hm.k82, hm.k83, hm.k84, hm.k85, hm.k86, hm.k87, hm.k88, hm.k89, hm.n73, hm.n74, hm.n75, hm.n76, hm.n77, hm.n78, hm.n79, hm.n80, hm.n81, hm.n82, hm.n83, hm.n84, hm.n85, hm.n86, hm.n87, hm.n88, hm.n89, e2]
      have hm := hm2
      simp (disch := omega) only [Mod_readLine_130, Mod_readLine_131, Mod_readLine_277, wr_id, ix_id, okx, if_pos, if_neg, Int.toNat_of_nonneg, bak_v, bak_n, wr_b01, wr_bt, b01_or, b01_0, b01_1, lc_lt0, lc_gt0, lc_eq0, wl_wr, wr_wr, wl_id, true_and, and_true, true_or, or_true, not_true_eq_false, not_false_eq_true, nc0, nc1, nc2, nc3, nc4, nc5, nc6, nc7, nc8, nc9, nc10, nc11, nc12, nc13, nc14, nc15, nc16, nc17, nc18, nc19, nc20, nc21, nc22, nc23, nc35, nc47, nc59, nc60, nc61, nc73, nc74, nc214, nc215, nc1115, nc2230, nc3345, if_true, if_false, Int.reduceToNat, hm.k, hm.r1, hm.r2, hm.r3, hm.r4, hm.r15, hm.r16, hm.r19, hm.r23, hm.r24, hm.r25, hm.r26, hm.r29, hm.r30, hm.r31, hm.r33, hm.r34, hm.r35, hm.k73, hm.k74, hm.k75, hm.k76, hm.k77, hm.k78, hm.k79, hm.k80, hm.k81, hm.k82, hm.k83, hm.k84, hm.k85, hm.k86, hm.k87, hm.k88, hm.k89, hm.n73, hm.n74, hm.n75, hm.n76, hm.n77, hm.n78, hm.n79, hm.n80, hm.n81, hm.n82, hm.n83, hm.n84, hm.n85, hm.n86, hm.n87, hm.n88, hm.n89]
    | inr q =>
      obtain ⟨h2, e2, m2, f2⟩ := m_takes (d := d + 46) m1 (by omega) (by omega) (a' := q.1) (v := q.2) hq
      have hm2 := m2.1.1
      refine ⟨pI h2 76 6 q.2, st4.trans ?_, m2.row (z := 6) (by omega), (f1.tr f2).tr pR76⟩
      simp (disch := omega) only [Mod_readLine_108, Mod_readLine_114, wr_id, ix_id, okx, if_pos, if_neg, Int.toNat_of_nonneg, bak_v, bak_n, wr_b01, wr_bt, b01_or, b01_0, b01_1, lc_lt0, lc_gt0, lc_eq0, wl_wr, wr_wr, wl_id, true_and, and_true, true_or, or_true, not_true_eq_false, not_false_eq_true, nc0, nc1, nc2, nc3, nc4, nc5, nc6, nc7, nc8, nc9, nc10, nc11, nc12, nc13, nc14, nc15, nc16, nc17, nc18, nc19, nc20, nc21, nc22, nc23, nc35, nc47, nc59, nc60, nc61, nc73, nc74, nc214, nc215, nc1115, nc2230, nc3345, if_true, if_false, Int.reduceToNat, hm.k, e1]
      have hm := hm1
      simp (disch := omega) only [Mod_readLine_117, wr_id, ix_id, okx, if_pos, if_neg, Int.toNat_of_nonneg, bak_v, bak_n, wr_b01, wr_bt, b01_or, b01_0, b01_1, lc_lt0, lc_gt0, lc_eq0, wl_wr, wr_wr, wl_id, true_and, and_true, true_or, or_true, not_true_eq_false, not_false_eq_true, nc0, nc1, nc2, nc3, nc4, nc5, nc6, nc7, nc8, nc9, nc10, nc11, nc12, nc13, nc14, nc15, nc16, nc17, nc18, nc19, nc20, nc21, nc22, nc23, nc35, nc47, nc59, nc60, nc61, nc73, nc74, nc214, nc215, nc1115, nc2230, nc3345, if_true, if_false, Int.reduceToNat, hm.k, hm.r1, hm.r2, hm.r3, hm.r4, hm.r15, hm.r16, hm.r19, hm.r23, hm.r24, hm.r25, hm.r26, hm.r29, hm.r30, hm.r31, hm.r33, hm.r34, hm.r35, hm.k73, hm.k74, hm.k75, hm.k76, hm.k77, hm.k78, hm.k79, hm.k80, hm.k81, hm.k82, hm.k83, hm.k84, hm.k85, hm.k86, hm.k87, hm.k88, hm.k89, hm.n73, hm.n74, hm.n75, hm.n76, hm.n77, hm.n78, hm.n79, hm.n80, hm.n81, hm.n82, hm.n83, hm.n84, hm.n85, hm.n86, hm.n87, hm.n88, hm.n89, e2]
      have hm := hm2
      simp (disch := omega) only [Mod_readLine_130, Mod_readLine_131, Mod_readLine_277, wr_id, ix_id, okx, if_pos, if_neg, Int.toNat_of_nonneg, bak_v, bak_n, wr_b01, wr_bt, b01_or, b01_0, b01_1, lc_lt0, lc_gt0, lc_eq0, wl_wr, wr_wr, wl_id, true_and, and_true, true_or, or_true, not_true_eq_false, not_false_eq_true, nc0, nc1, nc2, nc3, nc4, nc5, nc6, nc7, nc8, nc9, nc10, nc11, nc12, nc13, nc14, nc15, nc16, nc17, nc18, nc19, nc20, nc21, nc22, nc23, nc35, nc47, nc59, nc60, nc61, nc73, nc74, nc214, nc215, nc1115, nc2230, nc3345, if_true, if_false, Int.reduceToNat, hm.k, hm.r1, hm.r2, hm.r3, hm.r4, hm.r15, hm.r16, hm.r19, hm.r23, hm.r24, hm.r25, hm.r26, hm.r29, hm.r30, hm.r31, hm.r33, hm.r34, hm.r35, hm.k73, hm.k74, hm.k75, hm.k76, hm.k77, hm.k78, hm.k79, hm.k80, hm.k81, hm.k82, hm.k83, hm.k84, hm.k85, hm.k86, hm.k87, hm.k88, hm.k89, hm.n73, hm.n74, hm.n75, hm.n76, hm.n77, hm.n78, hm.n79, hm.n80, hm.n81, hm.n82, hm.n83, hm.n84, hm.n85, hm.n86, hm.n87, hm.n88, hm.n89]
  rw [if_neg c8]
  have n8 := nN 8 (by omega) c8
  by_cases c9 : tkK T n a = 9
  · rw [if_pos c9]
    obtain ⟨h1, e1, m1, f1⟩ := m_eats (d := d + 46) m (k := 9) (by omega) c9
    have hm1 := m1.1.1
    obtain ⟨h2, e2, r2, f2⟩ := m_readSlip (d := d + 45) m1
    refine ⟨h2, st4.trans ?_, r2, f1.tr f2⟩
    simp (disch := omega) only [Mod_readLine_108, Mod_readLine_114, Mod_readLine_134, Mod_readLine_140, Mod_readLine_143, Mod_readLine_147, Mod_readLine_277, wr_id, ix_id, okx, if_pos, if_neg, Int.toNat_of_nonneg, bak_v, bak_n, wr_b01, wr_bt, b01_or, b01_0, b01_1, lc_lt0, lc_gt0, lc_eq0, wl_wr, wr_wr, wl_id, true_and, and_true, true_or, or_true, not_true_eq_false, not_false_eq_true, nc0, nc1, nc2, nc3, nc4, nc5, nc6, nc7, nc8, nc9, nc10, nc11, nc12, nc13, nc14, nc15, nc16, nc17, nc18, nc19, nc20, nc21, nc22, nc23, nc35, nc47, nc59, nc60, nc61, nc73, nc74, nc214, nc215, nc1115, nc2230, nc3345, if_true, if_false, Int.reduceToNat, hm.k, n8, e1, hm1.k, e2]
  rw [if_neg c9]
  have n9 := nN 9 (by omega) c9
  have st5 : EX (d+49) m_Mod_readLine 0 [(0, .inr (.inr (72)))] [] (h) = EX (d+49) m_Mod_readLine 150 [(0, .inr (.inr (72)))] [] (h) := by
    refine st4.trans ?_
    simp (disch := omega) only [Mod_readLine_108, Mod_readLine_114, Mod_readLine_134, Mod_readLine_140, wr_id, ix_id, okx, if_pos, if_neg, Int.toNat_of_nonneg, bak_v, bak_n, wr_b01, wr_bt, b01_or, b01_0, b01_1, lc_lt0, lc_gt0, lc_eq0, wl_wr, wr_wr, wl_id, true_and, and_true, true_or, or_true, not_true_eq_false, not_false_eq_true, nc0, nc1, nc2, nc3, nc4, nc5, nc6, nc7, nc8, nc9, nc10, nc11, nc12, nc13, nc14, nc15, nc16, nc17, nc18, nc19, nc20, nc21, nc22, nc23, nc35, nc47, nc59, nc60, nc61, nc73, nc74, nc214, nc215, nc1115, nc2230, nc3345, if_true, if_false, Int.reduceToNat, hm.k, n8, n9]
  have eh : cal (d+49) m_Mod_isHung [.inr (.inr (72))] (h) = some (.inl (b01 (0 < S 1 ∧ 0 < S 2)), h) := by
    show EX (d+48) m_Mod_isHung 0 [(0, .inr (.inr (72)))] [] (h) = _
    unfold b01
    by_cases z1 : 0 < S 1
    · by_cases z2 : 0 < S 2
      · rw [if_pos ⟨z1, z2⟩]
        simp (disch := omega) only [Mod_isHung_0, Mod_isHung_9, Mod_isHung_18, Mod_isHung_23, wr_id, ix_id, okx, if_pos, if_neg, Int.toNat_of_nonneg, bak_v, bak_n, wr_b01, wr_bt, b01_or, b01_0, b01_1, lc_lt0, lc_gt0, lc_eq0, wl_wr, wr_wr, wl_id, true_and, and_true, true_or, or_true, not_true_eq_false, not_false_eq_true, nc0, nc1, nc2, nc3, nc4, nc5, nc6, nc7, nc8, nc9, nc10, nc11, nc12, nc13, nc14, nc15, nc16, nc17, nc18, nc19, nc20, nc21, nc22, nc23, nc35, nc47, nc59, nc60, nc61, nc73, nc74, nc214, nc215, nc1115, nc2230, nc3345, if_true, if_false, Int.reduceToNat, hm.k, hm.r1, hm.r2, hm.r3, hm.r4, hm.r15, hm.r16, hm.r19, hm.r23, hm.r24, hm.r25, hm.r26, hm.r29, hm.r30, hm.r31, hm.r33, hm.r34, hm.r35, hm.k73, hm.k74, hm.k75, hm.k76, hm.k77, hm.k78, hm.k79, hm.k80, hm.k81, hm.k82, hm.k83, hm.k84, hm.k85, hm.k86, hm.k87, hm.k88, hm.k89, hm.n73, hm.n74, hm.n75, hm.n76, hm.n77, hm.n78, hm.n79, hm.n80, hm.n81, hm.n82, hm.n83, hm.n84, hm.n85, hm.n86, hm.n87, hm.n88, hm.n89, s1, s2]
      · rw [if_neg (fun z => z2 z.2)]
        simp (disch := omega) only [Mod_isHung_0, Mod_isHung_9, Mod_isHung_22, Mod_isHung_23, wr_id, ix_id, okx, if_pos, if_neg, Int.toNat_of_nonneg, bak_v, bak_n, wr_b01, wr_bt, b01_or, b01_0, b01_1, lc_lt0, lc_gt0, lc_eq0, wl_wr, wr_wr, wl_id, true_and, and_true, true_or, or_true, not_true_eq_false, not_false_eq_true, nc0, nc1, nc2, nc3, nc4, nc5, nc6, nc7, nc8, nc9, nc10, nc11, nc12, nc13, nc14, nc15, nc16, nc17, nc18, nc19, nc20, nc21, nc22, nc23, nc35, nc47, nc59, nc60, nc61, nc73, nc74, nc214, nc215, nc1115, nc2230, nc3345, if_true, if_false, Int.reduceToNat, hm.k, hm.r1, hm.r2, hm.r3, hm.r4, hm.r15, hm.r16, hm.r19, hm.r23, hm.r24, hm.r25, hm.r26, hm.r29, hm.r30, hm.r31, hm.r33, hm.r34, hm.r35, hm.k73, hm.k74, hm.k75, hm.k76, hm.k77, hm.k78, hm.k79, hm.k80, hm.k81, hm.k82, hm.k83, hm.k84, hm.k85, hm.k86, hm.k87, hm.k88, hm.k89, hm.n73, hm.n74, hm.n75, hm.n76, hm.n77, hm.n78, hm.n79, hm.n80, hm.n81, hm.n82, hm.n83, hm.n84, hm.n85, hm.n86, hm.n87, hm.n88, hm.n89, s1, s2]
    · rw [if_neg (fun z => z1 z.1)]
      simp (disch := omega) only [Mod_isHung_0, Mod_isHung_22, Mod_isHung_23, wr_id, ix_id, okx, if_pos, if_neg, Int.toNat_of_nonneg, bak_v, bak_n, wr_b01, wr_bt, b01_or, b01_0, b01_1, lc_lt0, lc_gt0, lc_eq0, wl_wr, wr_wr, wl_id, true_and, and_true, true_or, or_true, not_true_eq_false, not_false_eq_true, nc0, nc1, nc2, nc3, nc4, nc5, nc6, nc7, nc8, nc9, nc10, nc11, nc12, nc13, nc14, nc15, nc16, nc17, nc18, nc19, nc20, nc21, nc22, nc23, nc35, nc47, nc59, nc60, nc61, nc73, nc74, nc214, nc215, nc1115, nc2230, nc3345, if_true, if_false, Int.reduceToNat, hm.k, hm.r1, hm.r2, hm.r3, hm.r4, hm.r15, hm.r16, hm.r19, hm.r23, hm.r24, hm.r25, hm.r26, hm.r29, hm.r30, hm.r31, hm.r33, hm.r34, hm.r35, hm.k73, hm.k74, hm.k75, hm.k76, hm.k77, hm.k78, hm.k79, hm.k80, hm.k81, hm.k82, hm.k83, hm.k84, hm.k85, hm.k86, hm.k87, hm.k88, hm.k89, hm.n73, hm.n74, hm.n75, hm.n76, hm.n77, hm.n78, hm.n79, hm.n80, hm.n81, hm.n82, hm.n83, hm.n84, hm.n85, hm.n86, hm.n87, hm.n88, hm.n89, s1, s2]
  obtain ⟨hF, eF, mF, fF⟩ := m_fails (d := d + 48) m (f := 2) (by omega)
  by_cases ch : 0 < S 1 ∧ 0 < S 2
  · rw [if_neg (fun z => z ch)]
    have b : b01 (0 < S 1 ∧ 0 < S 2) = 1 := by unfold b01; rw [if_pos ch]
    rw [b] at eh
    have st6 : EX (d+49) m_Mod_readLine 0 [(0, .inr (.inr (72)))] [] (h) = EX (d+49) m_Mod_readLine 165 [(0, .inr (.inr (72)))] [] (h) := by
      refine st5.trans ?_
      simp (disch := omega) only [Mod_readLine_150, Mod_readLine_154, wr_id, ix_id, okx, if_pos, if_neg, Int.toNat_of_nonneg, bak_v, bak_n, wr_b01, wr_bt, b01_or, b01_0, b01_1, lc_lt0, lc_gt0, lc_eq0, wl_wr, wr_wr, wl_id, true_and, and_true, true_or, or_true, not_true_eq_false, not_false_eq_true, nc0, nc1, nc2, nc3, nc4, nc5, nc6, nc7, nc8, nc9, nc10, nc11, nc12, nc13, nc14, nc15, nc16, nc17, nc18, nc19, nc20, nc21, nc22, nc23, nc35, nc47, nc59, nc60, nc61, nc73, nc74, nc214, nc215, nc1115, nc2230, nc3345, if_true, if_false, Int.reduceToNat, hm.k, eh]
    by_cases c2 : tkK T n a = 2
    · rw [if_pos c2]
      obtain ⟨h1, e1, m1, f1⟩ := m_eats (d := d + 46) m (k := 2) (by omega) c2
      have hm1 := m1.1.1
      have s1' : hI h1 76 1 = S 1 := m1.2.2.2.1 1
      obtain ⟨h2, e2, r2, f2⟩ := m_readMark (d := d + 45) (many := S 1) (o := 35) m1 ga (Or.inl rfl)
      refine ⟨h2, st6.trans ?_, r2, f1.tr f2⟩
      simp (disch := omega) only [Mod_readLine_165, Mod_readLine_170, wr_id, ix_id, okx, if_pos, if_neg, Int.toNat_of_nonneg, bak_v, bak_n, wr_b01, wr_bt, b01_or, b01_0, b01_1, lc_lt0, lc_gt0, lc_eq0, wl_wr, wr_wr, wl_id, true_and, and_true, true_or, or_true, not_true_eq_false, not_false_eq_true, nc0, nc1, nc2, nc3, nc4, nc5, nc6, nc7, nc8, nc9, nc10, nc11, nc12, nc13, nc14, nc15, nc16, nc17, nc18, nc19, nc20, nc21, nc22, nc23, nc35, nc47, nc59, nc60, nc61, nc73, nc74, nc214, nc215, nc1115, nc2230, nc3345, if_true, if_false, Int.reduceToNat, hm.k, e1]
      have hm := hm1
      simp (disch := omega) only [Mod_readLine_173, Mod_readLine_185, Mod_readLine_277, wr_id, ix_id, okx, if_pos, if_neg, Int.toNat_of_nonneg, bak_v, bak_n, wr_b01, wr_bt, b01_or, b01_0, b01_1, lc_lt0, lc_gt0, lc_eq0, wl_wr, wr_wr, wl_id, true_and, and_true, true_or, or_true, not_true_eq_false, not_false_eq_true, nc0, nc1, nc2, nc3, nc4, nc5, nc6, nc7, nc8, nc9, nc10, nc11, nc12, nc13, nc14, nc15, nc16, nc17, nc18, nc19, nc20, nc21, nc22, nc23, nc35, nc47, nc59, nc60, nc61, nc73, nc74, nc214, nc215, nc1115, nc2230, nc3345, if_true, if_false, Int.reduceToNat, hm.k, hm.r1, hm.r2, hm.r3, hm.r4, hm.r15, hm.r16, hm.r19, hm.r23, hm.r24, hm.r25, hm.r26, hm.r29, hm.r30, hm.r31, hm.r33, hm.r34, hm.r35, hm.k73, hm.k74, hm.k75, hm.k76, hm.k77, hm.k78, hm.k79, hm.k80, hm.k81, hm.k82, hm.k83, hm.k84, hm.k85, hm.k86, hm.k87, hm.k88, hm.k89, hm.n73, hm.n74, hm.n75, hm.n76, hm.n77, hm.n78, hm.n79, hm.n80, hm.n81, hm.n82, hm.n83, hm.n84, hm.n85, hm.n86, hm.n87, hm.n88, hm.n89, s1', e2]
    rw [if_neg c2]
    have n2 := nN 2 (by omega) c2
    by_cases c4 : tkK T n a = 4
    · rw [if_pos c4]
      obtain ⟨h1, e1, m1, f1⟩ := m_eats (d := d + 46) m (k := 4) (by omega) c4
      have hm1 := m1.1.1
      have s2' : hI h1 76 2 = S 2 := m1.2.2.2.1 2
      obtain ⟨h2, e2, r2, f2⟩ := m_readMark (d := d + 45) (many := S 2) (o := 47) m1 gb (Or.inr rfl)
      refine ⟨h2, st6.trans ?_, r2, f1.tr f2⟩
      simp (disch := omega) only [Mod_readLine_165, Mod_readLine_170, Mod_readLine_188, Mod_readLine_193, wr_id, ix_id, okx, if_pos, if_neg, Int.toNat_of_nonneg, bak_v, bak_n, wr_b01, wr_bt, b01_or, b01_0, b01_1, lc_lt0, lc_gt0, lc_eq0, wl_wr, wr_wr, wl_id, true_and, and_true, true_or, or_true, not_true_eq_false, not_false_eq_true, nc0, nc1, nc2, nc3, nc4, nc5, nc6, nc7, nc8, nc9, nc10, nc11, nc12, nc13, nc14, nc15, nc16, nc17, nc18, nc19, nc20, nc21, nc22, nc23, nc35, nc47, nc59, nc60, nc61, nc73, nc74, nc214, nc215, nc1115, nc2230, nc3345, if_true, if_false, Int.reduceToNat, hm.k, n2, e1]
      have hm := hm1
      simp (disch := omega) only [Mod_readLine_196, Mod_readLine_208, Mod_readLine_277, wr_id, ix_id, okx, if_pos, if_neg, Int.toNat_of_nonneg, bak_v, bak_n, wr_b01, wr_bt, b01_or, b01_0, b01_1, lc_lt0, lc_gt0, lc_eq0, wl_wr, wr_wr, wl_id, true_and, and_true, true_or, or_true, not_true_eq_false, not_false_eq_true, nc0, nc1, nc2, nc3, nc4, nc5, nc6, nc7, nc8, nc9, nc10, nc11, nc12, nc13, nc14, nc15, nc16, nc17, nc18, nc19, nc20, nc21, nc22, nc23, nc35, nc47, nc59, nc60, nc61, nc73, nc74, nc214, nc215, nc1115, nc2230, nc3345, if_true, if_false, Int.reduceToNat, hm.k, hm.r1, hm.r2, hm.r3, hm.r4, hm.r15, hm.r16, hm.r19, hm.r23, hm.r24, hm.r25, hm.r26, hm.r29, hm.r30, hm.r31, hm.r33, hm.r34, hm.r35, hm.k73, hm.k74, hm.k75, hm.k76, hm.k77, hm.k78, hm.k79, hm.k80, hm.k81, hm.k82, hm.k83, hm.k84, hm.k85, hm.k86, hm.k87, hm.k88, hm.k89, hm.n73, hm.n74, hm.n75, hm.n76, hm.n77, hm.n78, hm.n79, hm.n80, hm.n81, hm.n82, hm.n83, hm.n84, hm.n85, hm.n86, hm.n87, hm.n88, hm.n89, s2', e2]
    rw [if_neg c4]
    have n4 := nN 4 (by omega) c4
    by_cases c5 : tkK T n a = 5
    · rw [if_pos c5]
      obtain ⟨h1, e1, m1, f1⟩ := m_eats (d := d + 46) m (k := 5) (by omega) c5
      have hm1 := m1.1.1
      have s2' : hI h1 76 2 = S 2 := m1.2.2.2.1 2
      unfold brP
      cases hq : tak T n 0 (S 2 - 1) (nx T n a) with
      | inl e =>
        obtain ⟨h2, v, e2, m2, f2⟩ := m_takesN (d := d + 46) m1 (by omega) (by omega) hq
        have hm2 := (m1.1.ps f2).1
        obtain ⟨w1, -, w3⟩ := id m2
        refine ⟨h2, st6.trans ?_, m2, f1.tr f2⟩
        simp (disch := omega) only [Mod_readLine_165, Mod_readLine_170, Mod_readLine_188, Mod_readLine_193, Mod_readLine_211, Mod_readLine_216, wr_id, ix_id, okx, if_pos, if_neg, Int.toNat_of_nonneg, bak_v, bak_n, wr_b01, wr_bt, b01_or, b01_0, b01_1, lc_lt0, lc_gt0, lc_eq0, wl_wr, wr_wr, wl_id, true_and, and_true, true_or, or_true, not_true_eq_false, not_false_eq_true, nc0, nc1, nc2, nc3, nc4, nc5, nc6, nc7, nc8, nc9, nc10, nc11, nc12, nc13, nc14, nc15, nc16, nc17, nc18, nc19, nc20, nc21, nc22, nc23, nc35, nc47, nc59, nc60, nc61, nc73, nc74, nc214, nc215, nc1115, nc2230, nc3345, if_true, if_false, Int.reduceToNat, hm.k, n2, n4, e1]
        have hm := hm1
        simp (disch := omega) only [Mod_readLine_219, wr_id, ix_id, okx, if_pos, if_neg, Int.toNat_of_nonneg, bak_v, bak_n, wr_b01, wr_bt, b01_or, b01_0, b01_1, lc_lt0, lc_gt0, lc_eq0, wl_wr, wr_wr, wl_id, true_and, and_true, true_or, or_true, not_true_eq_false, not_false_eq_true, nc0, nc1, nc2, nc3, nc4, nc5, nc6, nc7, nc8, nc9, nc10, nc11, nc12, nc13, nc14, nc15, nc16, nc17, nc18, nc19, nc20, nc21, nc22, nc23, nc35, nc47, nc59, nc60, nc61, nc73, nc74, nc214, nc215, nc1115, nc2230, nc3345, if_true, if_false, Int.reduceToNat, hm.k, hm.r1, hm.r2, hm.r3, hm.r4, hm.r15, hm.r16, hm.r19, hm.r23, hm.r24, hm.r25, hm.r26, hm.r29, hm.r30, hm.r31, hm.r33, hm.r34, hm.r35, hm.k73, hm.k74, hm.k75, hm.k76, hm.k77, hm.k78, hm.k79, hm.k80, hm.k81, hm.k82, hm.k83, hm.k84, hm.k85, hm.k86, hm.k87, hm.k88, hm.k89, hm.n73, hm.n74, hm.n75, hm.n76, hm.n77, hm.n78, hm.n79, hm.n80, hm.n81, hm.n82, hm.n83, hm.n84, hm.n85, hm.n86, hm.n87, hm.n88, hm.n89, s2', e2]
        simp (disch := omega) only [Mod_readLine_232, Mod_readLine_253, Mod_readLine_277, wr_id, ix_id, okx, if_pos, if_neg, Int.toNat_of_nonneg, bak_v, bak_n, wr_b01, wr_bt, b01_or, b01_0, b01_1, lc_lt0, lc_gt0, lc_eq0, wl_wr, wr_wr, wl_id, true_and, and_true, true_or, or_true, not_true_eq_false, not_false_eq_true, nc0, nc1, nc2, nc3, nc4, nc5, nc6, nc7, nc8, nc9, nc10, nc11, nc12, nc13, nc14, nc15, nc16, nc17, nc18, nc19, nc20, nc21, nc22, nc23, nc35, nc47, nc59, nc60, nc61, nc73, nc74, nc214, nc215, nc1115, nc2230, nc3345, if_true, if_false, Int.reduceToNat, hm2.k, w1]
      | inr q =>
        obtain ⟨h2, e2, m2, f2⟩ := m_takes (d := d + 46) m1 (by omega) (by omega) (a' := q.1) (v := q.2) hq
        have hm2 := m2.1.1
        have h11 := m2.2.2.1
        have s10 : hI h2 76 10 = S 10 := m2.2.2.2.1 10
        refine ⟨pI h2 76 10 (bOr (S 10) (bShl 1 q.2)), st6.trans ?_, m2.row (z := 10) (by omega), (f1.tr f2).tr pR76⟩
        simp (disch := omega) only [Mod_readLine_165, Mod_readLine_170, Mod_readLine_188, Mod_readLine_193, Mod_readLine_211, Mod_readLine_216, wr_id, ix_id, okx, if_pos, if_neg, Int.toNat_of_nonneg, bak_v, bak_n, wr_b01, wr_bt, b01_or, b01_0, b01_1, lc_lt0, lc_gt0, lc_eq0, wl_wr, wr_wr, wl_id, true_and, and_true, true_or, or_true, not_true_eq_false, not_false_eq_true, nc0, nc1, nc2, nc3, nc4, nc5, nc6, nc7, nc8, nc9, nc10, nc11, nc12, nc13, nc14, nc15, nc16, nc17, nc18, nc19, nc20, nc21, nc22, nc23, nc35, nc47, nc59, nc60, nc61, nc73, nc74, nc214, nc215, nc1115, nc2230, nc3345, if_true, if_false, Int.reduceToNat, hm.k, n2, n4, e1]
        have hm := hm1
        simp (disch := omega) only [Mod_readLine_219, wr_id, ix_id, okx, if_pos, if_neg, Int.toNat_of_nonneg, bak_v, bak_n, wr_b01, wr_bt, b01_or, b01_0, b01_1, lc_lt0, lc_gt0, lc_eq0, wl_wr, wr_wr, wl_id, true_and, and_true, true_or, or_true, not_true_eq_false, not_false_eq_true, nc0, nc1, nc2, nc3, nc4, nc5, nc6, nc7, nc8, nc9, nc10, nc11, nc12, nc13, nc14, nc15, nc16, nc17, nc18, nc19, nc20, nc21, nc22, nc23, nc35, nc47, nc59, nc60, nc61, nc73, nc74, nc214, nc215, nc1115, nc2230, nc3345, if_true, if_false, Int.reduceToNat, hm.k, hm.r1, hm.r2, hm.r3, hm.r4, hm.r15, hm.r16, hm.r19, hm.r23, hm.r24, hm.r25, hm.r26, hm.r29, hm.r30, hm.r31, hm.r33, hm.r34, hm.r35, hm.k73, hm.k74, hm.k75, hm.k76, hm.k77, hm.k78, hm.k79, hm.k80, hm.k81, hm.k82, hm.k83, hm.k84, hm.k85, hm.k86, hm.k87, hm.k88, hm.k89, hm.n73, hm.n74, hm.n75, hm.n76, hm.n77, hm.n78, hm.n79, hm.n80, hm.n81, hm.n82, hm.n83, hm.n84, hm.n85, hm.n86, hm.n87, hm.n88, hm.n89, s2', e2]
        have hm := hm2
        simp (disch := omega) only [Mod_readLine_232, Mod_readLine_240, Mod_readLine_253, Mod_readLine_277, wr_id, ix_id, okx, if_pos, if_neg, Int.toNat_of_nonneg, bak_v, bak_n, wr_b01, wr_bt, b01_or, b01_0, b01_1, lc_lt0, lc_gt0, lc_eq0, wl_wr, wr_wr, wl_id, true_and, and_true, true_or, or_true, not_true_eq_false, not_false_eq_true, nc0, nc1, nc2, nc3, nc4, nc5, nc6, nc7, nc8, nc9, nc10, nc11, nc12, nc13, nc14, nc15, nc16, nc17, nc18, nc19, nc20, nc21, nc22, nc23, nc35, nc47, nc59, nc60, nc61, nc73, nc74, nc214, nc215, nc1115, nc2230, nc3345, if_true, if_false, Int.reduceToNat, hm.k, hm.r1, hm.r2, hm.r3, hm.r4, hm.r15, hm.r16, hm.r19, hm.r23, hm.r24, hm.r25, hm.r26, hm.r29, hm.r30, hm.r31, hm.r33, hm.r34, hm.r35, hm.k73, hm.k74, hm.k75, hm.k76, hm.k77, hm.k78, hm.k79, hm.k80, hm.k81, hm.k82, hm.k83, hm.k84, hm.k85, hm.k86, hm.k87, hm.k88, hm.k89, hm.n73, hm.n74, hm.n75, hm.n76, hm.n77, hm.n78, hm.n79, hm.n80, hm.n81, hm.n82, hm.n83, hm.n84, hm.n85, hm.n86, hm.n87, hm.n88, hm.n89, h11, s10]
    rw [if_neg c5]
    have n5 := nN 5 (by omega) c5
    by_cases c10 : tkK T n a = 10
    · rw [if_pos c10]
      obtain ⟨h1, e1, m1, f1⟩ := m_eats (d := d + 46) m (k := 10) (by omega) c10
      have hm1 := m1.1.1
      obtain ⟨h2, e2, r2, f2⟩ := m_readJoin (d := d + 45) m1 g ch
      refine ⟨h2, st6.trans ?_, r2, f1.tr f2⟩
      simp (disch := omega) only [Mod_readLine_165, Mod_readLine_170, Mod_readLine_188, Mod_readLine_193, Mod_readLine_211, Mod_readLine_216, Mod_readLine_256, Mod_readLine_262, Mod_readLine_265, Mod_readLine_269, Mod_readLine_277, wr_id, ix_id, okx, if_pos, if_neg, Int.toNat_of_nonneg, bak_v, bak_n, wr_b01, wr_bt, b01_or, b01_0, b01_1, lc_lt0, lc_gt0, lc_eq0, wl_wr, wr_wr, wl_id, true_and, and_true, true_or, or_true, not_true_eq_false, not_false_eq_true, nc0, nc1, nc2, nc3, nc4, nc5, nc6, nc7, nc8, nc9, nc10, nc11, nc12, nc13, nc14, nc15, nc16, nc17, nc18, nc19, nc20, nc21, nc22, nc23, nc35, nc47, nc59, nc60, nc61, nc73, nc74, nc214, nc215, nc1115, nc2230, nc3345, if_true, if_false, Int.reduceToNat, hm.k, n2, n4, n5, e1, hm1.k, e2]
    rw [if_neg c10]
    have n10 := nN 10 (by omega) c10
    refine ⟨hF, st6.trans ?_, mF, fF⟩
    simp (disch := omega) only [Mod_readLine_165, Mod_readLine_170, Mod_readLine_188, Mod_readLine_193, Mod_readLine_211, Mod_readLine_216, Mod_readLine_256, Mod_readLine_262, Mod_readLine_272, Mod_readLine_277, wr_id, ix_id, okx, if_pos, if_neg, Int.toNat_of_nonneg, bak_v, bak_n, wr_b01, wr_bt, b01_or, b01_0, b01_1, lc_lt0, lc_gt0, lc_eq0, wl_wr, wr_wr, wl_id, true_and, and_true, true_or, or_true, not_true_eq_false, not_false_eq_true, nc0, nc1, nc2, nc3, nc4, nc5, nc6, nc7, nc8, nc9, nc10, nc11, nc12, nc13, nc14, nc15, nc16, nc17, nc18, nc19, nc20, nc21, nc22, nc23, nc35, nc47, nc59, nc60, nc61, nc73, nc74, nc214, nc215, nc1115, nc2230, nc3345, if_true, if_false, Int.reduceToNat, hm.k, n2, n4, n5, n10, eF]
  · rw [if_pos ch]
    have b : b01 (0 < S 1 ∧ 0 < S 2) = 0 := by unfold b01; rw [if_neg ch]
    rw [b] at eh
    refine ⟨hF, st5.trans ?_, mF, fF⟩
    simp (disch := omega) only [Mod_readLine_150, Mod_readLine_154, Mod_readLine_157, Mod_readLine_162, Mod_readLine_277, wr_id, ix_id, okx, if_pos, if_neg, Int.toNat_of_nonneg, bak_v, bak_n, wr_b01, wr_bt, b01_or, b01_0, b01_1, lc_lt0, lc_gt0, lc_eq0, wl_wr, wr_wr, wl_id, true_and, and_true, true_or, or_true, not_true_eq_false, not_false_eq_true, nc0, nc1, nc2, nc3, nc4, nc5, nc6, nc7, nc8, nc9, nc10, nc11, nc12, nc13, nc14, nc15, nc16, nc17, nc18, nc19, nc20, nc21, nc22, nc23, nc35, nc47, nc59, nc60, nc61, nc73, nc74, nc214, nc215, nc1115, nc2230, nc3345, if_true, if_false, Int.reduceToNat, hm.k, eh, eF]
theorem m_wd_l {d : Nat} {T : Int → Int} {n : Int} : ∀ (c : Nat) (a : Int) (S : Int → Int) (h : Hp), n - a < c → MP h T n a S → PG S → ∃ h', EX (d+50) m_Mod_window 53 [(0, .inr (.inr (72)))] [] (h) = EX (d+50) m_Mod_window 100 [(0, .inr (.inr (72)))] [] (h') ∧ mrW h' T n (wdP T n c a S) ∧ Fr pPs h h' := by
  intro c
  induction c with
  | zero => intro a S h hc m; have := m.rng; omega
  | succ c ih =>
    intro a S h hc m p
    have hm := m.1.1
    have rg := m.rng
    have h11 := m.2.2.1
    have k9 := m.2.1.2.2.1
    have kr := tkK_ok T n a
    unfold kdO at kr
    simp only [wdP]
    by_cases ce : tkK T n a = 22
    · rw [if_pos ce]
      refine ⟨h, ?_, m, Fr.rf⟩
      rw [Mod_window_53]
      simp (disch := omega) only [Mod_window_60, wr_id, ix_id, okx, if_pos, if_neg, Int.toNat_of_nonneg, bak_v, bak_n, wr_b01, wr_bt, b01_or, b01_0, b01_1, lc_lt0, lc_gt0, lc_eq0, wl_wr, wr_wr, wl_id, true_and, and_true, true_or, or_true, not_true_eq_false, not_false_eq_true, nc0, nc1, nc2, nc3, nc4, nc5, nc6, nc7, nc8, nc9, nc10, nc11, nc12, nc13, nc14, nc15, nc16, nc17, nc18, nc19, nc20, nc21, nc22, nc23, nc35, nc47, nc59, nc60, nc61, nc73, nc74, nc214, nc215, nc1115, nc2230, nc3345, if_true, if_false, Int.reduceToNat, hm.k, h11, k9]
    · rw [if_neg ce]
      obtain ⟨h1, e1, r1, f1⟩ := m_readLine (d := d) m p.1
      have x1 := m.1.ps f1
      have hm1 := x1.1
      have st : EX (d+50) m_Mod_window 53 [(0, .inr (.inr (72)))] [] (h) = EX (d+50) m_Mod_window 73 [(0, .inr (.inr (72)))] [] (h1) := by
        rw [Mod_window_53]
        simp (disch := omega) only [Mod_window_60, Mod_window_69, wr_id, ix_id, okx, if_pos, if_neg, Int.toNat_of_nonneg, bak_v, bak_n, wr_b01, wr_bt, b01_or, b01_0, b01_1, lc_lt0, lc_gt0, lc_eq0, wl_wr, wr_wr, wl_id, true_and, and_true, true_or, or_true, not_true_eq_false, not_false_eq_true, nc0, nc1, nc2, nc3, nc4, nc5, nc6, nc7, nc8, nc9, nc10, nc11, nc12, nc13, nc14, nc15, nc16, nc17, nc18, nc19, nc20, nc21, nc22, nc23, nc35, nc47, nc59, nc60, nc61, nc73, nc74, nc214, nc215, nc1115, nc2230, nc3345, if_true, if_false, Int.reduceToNat, hm.k, h11, k9, e1]
      have fend : ∀ (h2 : Hp) (e : Int × Int), MX h2 T n → MF h2 e → ∃ h', EX (d+50) m_Mod_window 87 [(0, .inr (.inr (72)))] [] (h2) = EX (d+50) m_Mod_window 100 [(0, .inr (.inr (72)))] [] (h') ∧ MF h' e ∧ Fr pPs h2 h' := fun h2 e x2 m2 => by
        have hm := x2.1
        have m2' : MF (pI h2 76 0 (hI h2 76 0 + 1)) e := ⟨by rw [hI_pI, if_neg (by omega)]; exact m2.1, by rw [hI_pI, if_neg (by omega)]; exact m2.2.1, m2.2.2⟩
        obtain ⟨w1, -, w3⟩ := id m2'
        refine ⟨pI h2 76 0 (hI h2 76 0 + 1), ?_, m2', pR76⟩
        simp (disch := omega) only [Mod_window_87, Mod_window_97, wr_id, ix_id, okx, if_pos, if_neg, Int.toNat_of_nonneg, bak_v, bak_n, wr_b01, wr_bt, b01_or, b01_0, b01_1, lc_lt0, lc_gt0, lc_eq0, wl_wr, wr_wr, wl_id, true_and, and_true, true_or, or_true, not_true_eq_false, not_false_eq_true, nc0, nc1, nc2, nc3, nc4, nc5, nc6, nc7, nc8, nc9, nc10, nc11, nc12, nc13, nc14, nc15, nc16, nc17, nc18, nc19, nc20, nc21, nc22, nc23, nc35, nc47, nc59, nc60, nc61, nc73, nc74, nc214, nc215, nc1115, nc2230, nc3345, if_true, if_false, Int.reduceToNat, hm.k, hm.r1, hm.r2, hm.r3, hm.r4, hm.r15, hm.r16, hm.r19, hm.r23, hm.r24, hm.r25, hm.r26, hm.r29, hm.r30, hm.r31, hm.r33, hm.r34, hm.r35, hm.k73, hm.k74, hm.k75, hm.k76, hm.k77, hm.k78, hm.k79, hm.k80, hm.k81, hm.k82, hm.k83, hm.k84, hm.k85, hm.k86, hm.k87, hm.k88, hm.k89, hm.n73, hm.n74, hm.n75, hm.n76, hm.n77, hm.n78, hm.n79, hm.n80, hm.n81, hm.n82, hm.n83, hm.n84, hm.n85, hm.n86, hm.n87, hm.n88, hm.n89]
        rw [Mod_window_53]
        simp (disch := omega) only [wr_id, ix_id, okx, if_pos, if_neg, Int.toNat_of_nonneg, bak_v, bak_n, wr_b01, wr_bt, b01_or, b01_0, b01_1, lc_lt0, lc_gt0, lc_eq0, wl_wr, wr_wr, wl_id, true_and, and_true, true_or, or_true, not_true_eq_false, not_false_eq_true, nc0, nc1, nc2, nc3, nc4, nc5, nc6, nc7, nc8, nc9, nc10, nc11, nc12, nc13, nc14, nc15, nc16, nc17, nc18, nc19, nc20, nc21, nc22, nc23, nc35, nc47, nc59, nc60, nc61, nc73, nc74, nc214, nc215, nc1115, nc2230, nc3345, if_true, if_false, Int.reduceToNat, sK_pI, hm.k, w1]
      cases hq : lnP T n a S with
      | inl e =>
        rw [hq] at r1
        have r1' : MF h1 e := r1
        have e2 := m_eatsF (d := d + 47) hm1 r1' 25
        have e3 := m_failsF (d := d + 49) hm1 r1' 2
        obtain ⟨h3, e4, m3, f3⟩ := fend h1 e x1 r1'
        refine ⟨h3, st.trans ?_, m3, f1.tr f3⟩
        simp (disch := omega) only [Mod_window_73, Mod_window_79, Mod_window_82, wr_id, ix_id, okx, if_pos, if_neg, Int.toNat_of_nonneg, bak_v, bak_n, wr_b01, wr_bt, b01_or, b01_0, b01_1, lc_lt0, lc_gt0, lc_eq0, wl_wr, wr_wr, wl_id, true_and, and_true, true_or, or_true, not_true_eq_false, not_false_eq_true, nc0, nc1, nc2, nc3, nc4, nc5, nc6, nc7, nc8, nc9, nc10, nc11, nc12, nc13, nc14, nc15, nc16, nc17, nc18, nc19, nc20, nc21, nc22, nc23, nc35, nc47, nc59, nc60, nc61, nc73, nc74, nc214, nc215, nc1115, nc2230, nc3345, if_true, if_false, Int.reduceToNat, hm1.k, e2, e3]
        exact e4
      | inr q =>
        rw [hq] at r1
        have r1' : MP h1 T n q.1 q.2 := r1
        obtain ⟨k1, k2, k3, k4⟩ := ln_keep (by omega) rg.1 rg.2.1 p hq
        dsimp only
        by_cases c25 : tkK T n q.1 = 25
        · rw [if_pos c25]
          obtain ⟨h2, e2, m2, f2⟩ := m_eats (d := d + 47) r1' (k := 25) (by omega) c25
          have hm2 := m2.1.1
          have s0 : hI h2 76 0 = q.2 0 := m2.2.2.2.1 0
          have m3 := m2.row (z := 0) (v := q.2 0 + 1) (by omega)
          have nr := nx_rng (T := T) (n := n) k3
          have p3 : PG (up q.2 0 (q.2 0 + 1)) := k1.cg (Gd_up k1.1 (Or.inl rfl)) (fun k hk => up_ne (by omega)) (by rw [up_same]; have := k1.2.2.2.2; omega)
          obtain ⟨h4, e4, r4, f4⟩ := ih (nx T n q.1) _ _ (by omega) m3 p3
          refine ⟨h4, st.trans ?_, r4, ((f1.tr f2).tr pR76).tr f4⟩
          simp (disch := omega) only [Mod_window_73, Mod_window_79, wr_id, ix_id, okx, if_pos, if_neg, Int.toNat_of_nonneg, bak_v, bak_n, wr_b01, wr_bt, b01_or, b01_0, b01_1, lc_lt0, lc_gt0, lc_eq0, wl_wr, wr_wr, wl_id, true_and, and_true, true_or, or_true, not_true_eq_false, not_false_eq_true, nc0, nc1, nc2, nc3, nc4, nc5, nc6, nc7, nc8, nc9, nc10, nc11, nc12, nc13, nc14, nc15, nc16, nc17, nc18, nc19, nc20, nc21, nc22, nc23, nc35, nc47, nc59, nc60, nc61, nc73, nc74, nc214, nc215, nc1115, nc2230, nc3345, if_true, if_false, Int.reduceToNat, hm1.k, e2]
          have hm := hm2
          simp (disch := omega) only [Mod_window_87, Mod_window_97, wr_id, ix_id, okx, if_pos, if_neg, Int.toNat_of_nonneg, bak_v, bak_n, wr_b01, wr_bt, b01_or, b01_0, b01_1, lc_lt0, lc_gt0, lc_eq0, wl_wr, wr_wr, wl_id, true_and, and_true, true_or, or_true, not_true_eq_false, not_false_eq_true, nc0, nc1, nc2, nc3, nc4, nc5, nc6, nc7, nc8, nc9, nc10, nc11, nc12, nc13, nc14, nc15, nc16, nc17, nc18, nc19, nc20, nc21, nc22, nc23, nc35, nc47, nc59, nc60, nc61, nc73, nc74, nc214, nc215, nc1115, nc2230, nc3345, if_true, if_false, Int.reduceToNat, hm.k, hm.r1, hm.r2, hm.r3, hm.r4, hm.r15, hm.r16, hm.r19, hm.r23, hm.r24, hm.r25, hm.r26, hm.r29, hm.r30, hm.r31, hm.r33, hm.r34, hm.r35, hm.k73, hm.k74, hm.k75, hm.k76, hm.k77, hm.k78, hm.k79, hm.k80, hm.k81, hm.k82, hm.k83, hm.k84, hm.k85, hm.k86, hm.k87, hm.k88, hm.k89, hm.n73, hm.n74, hm.n75, hm.n76, hm.n77, hm.n78, hm.n79, hm.n80, hm.n81, hm.n82, hm.n83, hm.n84, hm.n85, hm.n86, hm.n87, hm.n88, hm.n89, s0]
          exact e4
        · rw [if_neg c25]
          have e2 := m_eatsN (d := d + 47) r1' (k := 25) (by omega) c25
          obtain ⟨h2, e3, m2, f2⟩ := m_fails (d := d + 49) r1' (f := 2) (by omega)
          obtain ⟨h3, e4, m3, f3⟩ := fend h2 _ (r1'.1.ps f2) m2
          refine ⟨h3, st.trans ?_, m3, (f1.tr f2).tr f3⟩
          simp (disch := omega) only [Mod_window_73, Mod_window_79, Mod_window_82, wr_id, ix_id, okx, if_pos, if_neg, Int.toNat_of_nonneg, bak_v, bak_n, wr_b01, wr_bt, b01_or, b01_0, b01_1, lc_lt0, lc_gt0, lc_eq0, wl_wr, wr_wr, wl_id, true_and, and_true, true_or, or_true, not_true_eq_false, not_false_eq_true, nc0, nc1, nc2, nc3, nc4, nc5, nc6, nc7, nc8, nc9, nc10, nc11, nc12, nc13, nc14, nc15, nc16, nc17, nc18, nc19, nc20, nc21, nc22, nc23, nc35, nc47, nc59, nc60, nc61, nc73, nc74, nc214, nc215, nc1115, nc2230, nc3345, if_true, if_false, Int.reduceToNat, hm1.k, e2, e3]
          exact e4
