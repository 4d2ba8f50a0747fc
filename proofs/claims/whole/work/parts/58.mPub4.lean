/-! the model's calls: lists one out -/
def rgO (S : Int → Int) (k e i : Int) : Int := b01 ((0 ≤ (if i < k then i else i + e) ∧ (if i < k then i else i + e) < S 2) ∧ lawV S i (if i < k then i else i + e) = 1)
def rOut (S : Int → Int) (k e : Int) : Int := sm (rgO S k e) 0 (S 1)
theorem rgO_rng (S : Int → Int) (k e i : Int) : 0 ≤ rgO S k e i ∧ rgO S k e i ≤ 1 := by
  unfold rgO b01
  split <;> omega
theorem rOut_rng {S : Int → Int} (ga : 0 ≤ S 1 ∧ S 1 ≤ 12) (k e : Int) : 0 ≤ rOut S k e ∧ rOut S k e ≤ 12 := by
  have := sm_rng (f := rgO S k e) (N := S 1) (lo := 0) (hi := 1) (by omega) (by omega) 0 (fun j _ _ => rgO_rng S k e j)
  unfold rOut
  omega
theorem m_rightOut_l {d : Nat} {S : Int → Int} (g : Gd S) (lo : LawOk S) {k e : Int} (hk : 0 ≤ k ∧ k ≤ 12) (he : e = 1 ∨ e = -1) : ∀ i, 0 ≤ i → i ≤ 12 → ∀ h f, MS h S → ∃ h', EX (d+2) m_Mod_rightOut 5 [(0, .inr (.inr (72))), (1, .inl (k)), (2, .inl (e)), (3, .inl (f)), (4, .inl (i))] [] (h) = some (.inl (f + sm (rgO S k e) i (S 1)), h') ∧ Fr (fun a _ => a = 77) h h' := by
  have ga := g.a
  have gb := g.b
  refine up_ind (hi := S 1) ?_ ?_
  · intro i hi h0 h1 h f ms
    have hm := ms.1
    refine ⟨h, ?_, Fr.rf⟩
    rw [Mod_rightOut_5]
    simp (disch := omega) only [Mod_rightOut_68, wr_id, ix_id, okx, if_pos, if_neg, Int.toNat_of_nonneg, bak_v, bak_n, wr_b01, wr_bt, b01_or, b01_0, b01_1, lc_lt0, lc_gt0, lc_eq0, wl_wr, wr_wr, wl_id, true_and, and_true, true_or, or_true, not_true_eq_false, not_false_eq_true, nc0, nc1, nc2, nc3, nc4, nc5, nc6, nc7, nc8, nc9, nc10, nc11, nc12, nc13, nc14, nc15, nc16, nc17, nc18, nc19, nc20, nc21, nc22, nc23, nc35, nc47, nc59, nc60, nc61, nc73, nc74, nc214, nc215, nc1115, nc2230, nc3345, if_true, if_false, Int.reduceToNat, hm.k, hm.r1, hm.r2, hm.r3, hm.r4, hm.r15, hm.r16, hm.r19, hm.r23, hm.r24, hm.r25, hm.r26, hm.r29, hm.r30, hm.r31, hm.r33, hm.r34, hm.r35, hm.k73, hm.k74, hm.k75, hm.k76, hm.k77, hm.k78, hm.k79, hm.k80, hm.k81, hm.k82, hm.k83, hm.k84, hm.k85, hm.k86, hm.k87, hm.k88, hm.k89, hm.n73, hm.n74, hm.n75, hm.n76, hm.n77, hm.n78, hm.n79, hm.n80, hm.n81, hm.n82, hm.n83, hm.n84, hm.n85, hm.n86, hm.n87, hm.n88, hm.n89, ms.2, sm_stop, Int.add_zero]
  · intro i hi ih h0 h1 h f ms
    have hm := ms.1
    obtain ⟨r, hr⟩ : ∃ r, r = if i < k then i else i + e := ⟨_, rfl⟩
    have rr : -1 ≤ r ∧ r ≤ 13 := by rw [hr]; split <;> omega
    have st : EX (d+2) m_Mod_rightOut 16 [(0, .inr (.inr (72))), (1, .inl (k)), (2, .inl (e)), (3, .inl (f)), (4, .inl (i))] [] (h) = EX (d+2) m_Mod_rightOut 31 [(0, .inr (.inr (72))), (1, .inl (k)), (2, .inl (e)), (3, .inl (f)), (4, .inl (i))] [.inl (r)] (h) := by
      rw [hr]
      by_cases c : i < k
      · simp (disch := omega) only [Mod_rightOut_16, Mod_rightOut_22, Mod_rightOut_27, wr_id, ix_id, okx, if_pos, if_neg, Int.toNat_of_nonneg, bak_v, bak_n, wr_b01, wr_bt, b01_or, b01_0, b01_1, lc_lt0, lc_gt0, lc_eq0, wl_wr, wr_wr, wl_id, true_and, and_true, true_or, or_true, not_true_eq_false, not_false_eq_true, nc0, nc1, nc2, nc3, nc4, nc5, nc6, nc7, nc8, nc9, nc10, nc11, nc12, nc13, nc14, nc15, nc16, nc17, nc18, nc19, nc20, nc21, nc22, nc23, nc35, nc47, nc59, nc60, nc61, nc73, nc74, nc214, nc215, nc1115, nc2230, nc3345, if_true, if_false, Int.reduceToNat]
      · simp (disch := omega) only [Mod_rightOut_16, Mod_rightOut_22, Mod_rightOut_27, wr_id, ix_id, okx, if_pos, if_neg, Int.toNat_of_nonneg, bak_v, bak_n, wr_b01, wr_bt, b01_or, b01_0, b01_1, lc_lt0, lc_gt0, lc_eq0, wl_wr, wr_wr, wl_id, true_and, and_true, true_or, or_true, not_true_eq_false, not_false_eq_true, nc0, nc1, nc2, nc3, nc4, nc5, nc6, nc7, nc8, nc9, nc10, nc11, nc12, nc13, nc14, nc15, nc16, nc17, nc18, nc19, nc20, nc21, nc22, nc23, nc35, nc47, nc59, nc60, nc61, nc73, nc74, nc214, nc215, nc1115, nc2230, nc3345, if_true, if_false, Int.reduceToNat]
    rw [Mod_rightOut_5]
    simp (disch := omega) only [wr_id, ix_id, okx, if_pos, if_neg, Int.toNat_of_nonneg, bak_v, bak_n, wr_b01, wr_bt, b01_or, b01_0, b01_1, lc_lt0, lc_gt0, lc_eq0, wl_wr, wr_wr, wl_id, true_and, and_true, true_or, or_true, not_true_eq_false, not_false_eq_true, nc0, nc1, nc2, nc3, nc4, nc5, nc6, nc7, nc8, nc9, nc10, nc11, nc12, nc13, nc14, nc15, nc16, nc17, nc18, nc19, nc20, nc21, nc22, nc23, nc35, nc47, nc59, nc60, nc61, nc73, nc74, nc214, nc215, nc1115, nc2230, nc3345, if_true, if_false, Int.reduceToNat, hm.k, hm.r1, hm.r2, hm.r3, hm.r4, hm.r15, hm.r16, hm.r19, hm.r23, hm.r24, hm.r25, hm.r26, hm.r29, hm.r30, hm.r31, hm.r33, hm.r34, hm.r35, hm.k73, hm.k74, hm.k75, hm.k76, hm.k77, hm.k78, hm.k79, hm.k80, hm.k81, hm.k82, hm.k83, hm.k84, hm.k85, hm.k86, hm.k87, hm.k88, hm.k89, hm.n73, hm.n74, hm.n75, hm.n76, hm.n77, hm.n78, hm.n79, hm.n80, hm.n81, hm.n82, hm.n83, hm.n84, hm.n85, hm.n86, hm.n87, hm.n88, hm.n89, ms.2]
    have st2 := st
    rw [show m_Mod_rightOut = 259 from rfl] at st2
    rw [st2]
    have eg : rgO S k e i = b01 ((0 ≤ r ∧ r < S 2) ∧ lawV S i r = 1) := by unfold rgO; rw [← hr]
    by_cases c : 0 ≤ r ∧ r < S 2
    · obtain ⟨h1, e1, f1, q⟩ := m_isRight (d := d) ms g lo (x := i) (y := r) ⟨h0, hi⟩ c
      obtain ⟨h2, e2, f2⟩ := ih (by omega) (by omega) h1 (f + lawV S i r) (ms.q f1 (fun k => by omega))
      refine ⟨h2, ?_, f1.tr f2⟩
      simp (disch := omega) only [Mod_rightOut_31, Mod_rightOut_41, Mod_rightOut_44, Mod_rightOut_52, wr_id, ix_id, okx, if_pos, if_neg, Int.toNat_of_nonneg, bak_v, bak_n, wr_b01, wr_bt, b01_or, b01_0, b01_1, lc_lt0, lc_gt0, lc_eq0, wl_wr, wr_wr, wl_id, true_and, and_true, true_or, or_true, not_true_eq_false, not_false_eq_true, nc0, nc1, nc2, nc3, nc4, nc5, nc6, nc7, nc8, nc9, nc10, nc11, nc12, nc13, nc14, nc15, nc16, nc17, nc18, nc19, nc20, nc21, nc22, nc23, nc35, nc47, nc59, nc60, nc61, nc73, nc74, nc214, nc215, nc1115, nc2230, nc3345, if_true, if_false, Int.reduceToNat, hm.k, hm.r1, hm.r2, hm.r3, hm.r4, hm.r15, hm.r16, hm.r19, hm.r23, hm.r24, hm.r25, hm.r26, hm.r29, hm.r30, hm.r31, hm.r33, hm.r34, hm.r35, hm.k73, hm.k74, hm.k75, hm.k76, hm.k77, hm.k78, hm.k79, hm.k80, hm.k81, hm.k82, hm.k83, hm.k84, hm.k85, hm.k86, hm.k87, hm.k88, hm.k89, hm.n73, hm.n74, hm.n75, hm.n76, hm.n77, hm.n78, hm.n79, hm.n80, hm.n81, hm.n82, hm.n83, hm.n84, hm.n85, hm.n86, hm.n87, hm.n88, hm.n89, m_isRing ms gb, e1]
      have el : rgO S k e i = lawV S i r := by rw [eg]; unfold b01; rcases q with q | q <;> simp [q, c]
      rw [sm_step hi, ← Int.add_assoc, el]
      rcases q with q | q <;> rw [q] at e2 ⊢ <;> simp [Mod_rightOut_55, Mod_rightOut_59, Mod_rightOut_60, wr] <;> simpa using e2
    · obtain ⟨h2, e2, f2⟩ := ih (by omega) (by omega) h f ms
      refine ⟨h2, ?_, f2⟩
      have el : rgO S k e i = 0 := by rw [eg]; unfold b01; simp [c]
      simp (disch := omega) only [Mod_rightOut_31, Mod_rightOut_41, Mod_rightOut_59, Mod_rightOut_60, wr_id, ix_id, okx, if_pos, if_neg, Int.toNat_of_nonneg, bak_v, bak_n, wr_b01, wr_bt, b01_or, b01_0, b01_1, lc_lt0, lc_gt0, lc_eq0, wl_wr, wr_wr, wl_id, true_and, and_true, true_or, or_true, not_true_eq_false, not_false_eq_true, nc0, nc1, nc2, nc3, nc4, nc5, nc6, nc7, nc8, nc9, nc10, nc11, nc12, nc13, nc14, nc15, nc16, nc17, nc18, nc19, nc20, nc21, nc22, nc23, nc35, nc47, nc59, nc60, nc61, nc73, nc74, nc214, nc215, nc1115, nc2230, nc3345, if_true, if_false, Int.reduceToNat, hm.k, hm.r1, hm.r2, hm.r3, hm.r4, hm.r15, hm.r16, hm.r19, hm.r23, hm.r24, hm.r25, hm.r26, hm.r29, hm.r30, hm.r31, hm.r33, hm.r34, hm.r35, hm.k73, hm.k74, hm.k75, hm.k76, hm.k77, hm.k78, hm.k79, hm.k80, hm.k81, hm.k82, hm.k83, hm.k84, hm.k85, hm.k86, hm.k87, hm.k88, hm.k89, hm.n73, hm.n74, hm.n75, hm.n76, hm.n77, hm.n78, hm.n79, hm.n80, hm.n81, hm.n82, hm.n83, hm.n84, hm.n85, hm.n86, hm.n87, hm.n88, hm.n89, m_isRing ms gb, Int.add_zero, e2, sm_step hi, el, Int.zero_add]
theorem m_rightOut {d : Nat} {h : Hp} {S : Int → Int} (ms : MS h S) (g : Gd S) (lo : LawOk S) {k e : Int} (hk : 0 ≤ k ∧ k ≤ 12) (he : e = 1 ∨ e = -1) : ∃ h', cal (d+3) m_Mod_rightOut [.inr (.inr (72)), .inl (k), .inl (e)] (h) = some (.inl (rOut S k e), h') ∧ Fr (fun a _ => a = 77) h h' := by
  obtain ⟨h', e1, f⟩ := m_rightOut_l (d := d) g lo hk he 0 (by omega) (by omega) h 0 ms
  refine ⟨h', ?_, f⟩
  show EX (d+2) m_Mod_rightOut 0 [(0, .inr (.inr (72))), (1, .inl (k)), (2, .inl (e))] [] (h) = _
  rw [Mod_rightOut_0, e1, Int.zero_add]
  rfl
def ansOne (S : Int → Int) (k e : Int) : Int := if (0 ≤ k ∧ k ≤ S 1) ∧ (e = 1 ∨ e = -1) then rOut S k e else -3
theorem mm_oneOut {d : Nat} {h : Hp} {S G T rs rm nb : Int → Int} {n fk fp : Int} (mb : MB h S G T rs rm nb n fk fp) (g : Gd S) (lo : LawOk S) {k e : Int} (rk : -2147483648 ≤ k ∧ k ≤ 2147483647) (re : -2147483648 ≤ e ∧ e ≤ 2147483647) : ∃ h', cal (d+4) m_Mod_oneOut [.inr (.inr (72)), .inl (k), .inl (e)] (h) = some (.inl (ansOne S k e), h') ∧ MB h' S G T rs rm nb n fk fp ∧ Fr wQ h h' := by
  have ms0 : MS (pI h 72 0 0) S := mb.1.o (by omega)
  have f0 : Fr wQ h (pI h 72 0 0) := f72 (by omega)
  have hk := mb.1.1.k
  have hm := ms0.1
  have ga := g.a
  unfold ansOne
  by_cases c : (0 ≤ k ∧ k ≤ S 1) ∧ (e = 1 ∨ e = -1)
  · obtain ⟨h', e1, f⟩ := m_rightOut (d := d) ms0 g lo (k := k) (e := e) (by omega) c.2
    rw [if_pos c]
    refine ⟨h', ?_, mb.fr (f0.tr (f77 f)) (ms0.q f (fun k => by omega)), f0.tr (f77 f)⟩
    show EX (d+3) m_Mod_oneOut 0 [(0, .inr (.inr (72))), (1, .inl (k)), (2, .inl (e))] [] (h) = _
    rcases c.2 with q | q <;> subst q
    · simp (disch := omega) only [Mod_oneOut_0, Mod_oneOut_5, Mod_oneOut_18, Mod_oneOut_21, Mod_oneOut_26, Mod_oneOut_31, Mod_oneOut_37, Mod_oneOut_40, Mod_oneOut_42, wr_id, ix_id, okx, if_pos, if_neg, Int.toNat_of_nonneg, bak_v, bak_n, wr_b01, wr_bt, b01_or, b01_0, b01_1, lc_lt0, lc_gt0, lc_eq0, wl_wr, wr_wr, wl_id, true_and, and_true, true_or, or_true, not_true_eq_false, not_false_eq_true, nc0, nc1, nc2, nc3, nc4, nc5, nc6, nc7, nc8, nc9, nc10, nc11, nc12, nc13, nc14, nc15, nc16, nc17, nc18, nc19, nc20, nc21, nc22, nc23, nc35, nc47, nc59, nc60, nc61, nc73, nc74, nc214, nc215, nc1115, nc2230, nc3345, if_true, if_false, Int.reduceToNat, hk, hm.k, hm.r1, hm.r2, hm.r3, hm.r4, hm.r15, hm.r16, hm.r19, hm.r23, hm.r24, hm.r25, hm.r26, hm.r29, hm.r30, hm.r31, hm.r33, hm.r34, hm.r35, hm.k73, hm.k74, hm.k75, hm.k76, hm.k77, hm.k78, hm.k79, hm.k80, hm.k81, hm.k82, hm.k83, hm.k84, hm.k85, hm.k86, hm.k87, hm.k88, hm.k89, hm.n73, hm.n74, hm.n75, hm.n76, hm.n77, hm.n78, hm.n79, hm.n80, hm.n81, hm.n82, hm.n83, hm.n84, hm.n85, hm.n86, hm.n87, hm.n88, hm.n89, ms0.2, m_within, e1]
    · simp (disch := omega) only [Mod_oneOut_0, Mod_oneOut_5, Mod_oneOut_18, Mod_oneOut_21, Mod_oneOut_26, Mod_oneOut_31, Mod_oneOut_37, Mod_oneOut_40, Mod_oneOut_42, wr_id, ix_id, okx, if_pos, if_neg, Int.toNat_of_nonneg, bak_v, bak_n, wr_b01, wr_bt, b01_or, b01_0, b01_1, lc_lt0, lc_gt0, lc_eq0, wl_wr, wr_wr, wl_id, true_and, and_true, true_or, or_true, not_true_eq_false, not_false_eq_true, nc0, nc1, nc2, nc3, nc4, nc5, nc6, nc7, nc8, nc9, nc10, nc11, nc12, nc13, nc14, nc15, nc16, nc17, nc18, nc19, nc20, nc21, nc22, nc23, nc35, nc47, nc59, nc60, nc61, nc73, nc74, nc214, nc215, nc1115, nc2230, nc3345, if_true, if_false, Int.reduceToNat, hk, hm.k, hm.r1, hm.r2, hm.r3, hm.r4, hm.r15, hm.r16, hm.r19, hm.r23, hm.r24, hm.r25, hm.r26, hm.r29, hm.r30, hm.r31, hm.r33, hm.r34, hm.r35, hm.k73, hm.k74, hm.k75, hm.k76, hm.k77, hm.k78, hm.k79, hm.k80, hm.k81, hm.k82, hm.k83, hm.k84, hm.k85, hm.k86, hm.k87, hm.k88, hm.k89, hm.n73, hm.n74, hm.n75, hm.n76, hm.n77, hm.n78, hm.n79, hm.n80, hm.n81, hm.n82, hm.n83, hm.n84, hm.n85, hm.n86, hm.n87, hm.n88, hm.n89, ms0.2, m_within, e1]
  · rw [if_neg c]
    refine ⟨pI h 72 0 0, ?_, mb.fr f0 ms0, f0⟩
    show EX (d+3) m_Mod_oneOut 0 [(0, .inr (.inr (72))), (1, .inl (k)), (2, .inl (e))] [] (h) = _
    by_cases c1 : 0 ≤ k ∧ k ≤ S 1
    · simp (disch := omega) only [Mod_oneOut_0, Mod_oneOut_5, Mod_oneOut_18, Mod_oneOut_21, Mod_oneOut_26, Mod_oneOut_31, Mod_oneOut_37, Mod_oneOut_40, Mod_oneOut_42, wr_id, ix_id, okx, if_pos, if_neg, Int.toNat_of_nonneg, bak_v, bak_n, wr_b01, wr_bt, b01_or, b01_0, b01_1, lc_lt0, lc_gt0, lc_eq0, wl_wr, wr_wr, wl_id, true_and, and_true, true_or, or_true, not_true_eq_false, not_false_eq_true, nc0, nc1, nc2, nc3, nc4, nc5, nc6, nc7, nc8, nc9, nc10, nc11, nc12, nc13, nc14, nc15, nc16, nc17, nc18, nc19, nc20, nc21, nc22, nc23, nc35, nc47, nc59, nc60, nc61, nc73, nc74, nc214, nc215, nc1115, nc2230, nc3345, if_true, if_false, Int.reduceToNat, hk, hm.k, hm.r1, hm.r2, hm.r3, hm.r4, hm.r15, hm.r16, hm.r19, hm.r23, hm.r24, hm.r25, hm.r26, hm.r29, hm.r30, hm.r31, hm.r33, hm.r34, hm.r35, hm.k73, hm.k74, hm.k75, hm.k76, hm.k77, hm.k78, hm.k79, hm.k80, hm.k81, hm.k82, hm.k83, hm.k84, hm.k85, hm.k86, hm.k87, hm.k88, hm.k89, hm.n73, hm.n74, hm.n75, hm.n76, hm.n77, hm.n78, hm.n79, hm.n80, hm.n81, hm.n82, hm.n83, hm.n84, hm.n85, hm.n86, hm.n87, hm.n88, hm.n89, ms0.2, m_within]
    · simp (disch := omega) only [Mod_oneOut_0, Mod_oneOut_5, Mod_oneOut_18, Mod_oneOut_21, Mod_oneOut_26, Mod_oneOut_31, Mod_oneOut_37, Mod_oneOut_40, Mod_oneOut_42, wr_id, ix_id, okx, if_pos, if_neg, Int.toNat_of_nonneg, bak_v, bak_n, wr_b01, wr_bt, b01_or, b01_0, b01_1, lc_lt0, lc_gt0, lc_eq0, wl_wr, wr_wr, wl_id, true_and, and_true, true_or, or_true, not_true_eq_false, not_false_eq_true, nc0, nc1, nc2, nc3, nc4, nc5, nc6, nc7, nc8, nc9, nc10, nc11, nc12, nc13, nc14, nc15, nc16, nc17, nc18, nc19, nc20, nc21, nc22, nc23, nc35, nc47, nc59, nc60, nc61, nc73, nc74, nc214, nc215, nc1115, nc2230, nc3345, if_true, if_false, Int.reduceToNat, hk, hm.k, hm.r1, hm.r2, hm.r3, hm.r4, hm.r15, hm.r16, hm.r19, hm.r23, hm.r24, hm.r25, hm.r26, hm.r29, hm.r30, hm.r31, hm.r33, hm.r34, hm.r35, hm.k73, hm.k74, hm.k75, hm.k76, hm.k77, hm.k78, hm.k79, hm.k80, hm.k81, hm.k82, hm.k83, hm.k84, hm.k85, hm.k86, hm.k87, hm.k88, hm.k89, hm.n73, hm.n74, hm.n75, hm.n76, hm.n77, hm.n78, hm.n79, hm.n80, hm.n81, hm.n82, hm.n83, hm.n84, hm.n85, hm.n86, hm.n87, hm.n88, hm.n89, ms0.2, m_within]
def ansOut (S : Int → Int) (e u : Int) : Int := if ¬ (u = 0 ∨ u = 1) then -2 else if ¬ (e = 1 ∨ e = -1) then -3 else if u = 0 then (am (fun k => rOut S k e) (S 1).toNat 1 (rOut S 0 e) 0).2 else (am (fun k => rOut S k e) (S 1).toNat 1 (rOut S 0 e) 0).1
theorem am_inv (f : Int → Int) : ∀ (k : Nat) (i m r : Int), m = f r → (am f k i m r).1 = f (am f k i m r).2 := by
  intro k
  induction k with
  | zero => intro i m r h; exact h
  | succ k ih =>
    intro i m r h
    simp only [am]
    split
    · exact ih _ _ _ rfl
    · exact ih _ _ _ h
theorem m_out_l {d : Nat} {S : Int → Int} (g : Gd S) (lo : LawOk S) {e u : Int} (he : e = 1 ∨ e = -1) (hu : u = 0 ∨ u = 1) : ∀ (k : Nat) (i r : Int) (h : Hp), 0 ≤ i → i + k = S 1 + 1 → (0 ≤ r ∧ r < i) → MS h S → ∃ h', EX (d+3) m_Mod_out 36 [(0, .inr (.inr (72))), (1, .inl (e)), (2, .inl (u)), (3, .inl (r)), (4, .inl (i))] [] (h) = some (.inl (if u = 0 then (am (fun k => rOut S k e) k i (rOut S r e) r).2 else (am (fun k => rOut S k e) k i (rOut S r e) r).1), h') ∧ Fr (fun a _ => a = 77) h h' := by
  have ga := g.a
  intro k
  induction k with
  | zero =>
    intro i r h h0 hi hr ms
    have hm := ms.1
    rcases hu with q | q <;> subst q
    · refine ⟨h, ?_, Fr.rf⟩
      rw [Mod_out_36]
      simp (disch := omega) only [Mod_out_72, Mod_out_76, Mod_out_86, wr_id, ix_id, okx, if_pos, if_neg, Int.toNat_of_nonneg, bak_v, bak_n, wr_b01, wr_bt, b01_or, b01_0, b01_1, lc_lt0, lc_gt0, lc_eq0, wl_wr, wr_wr, wl_id, true_and, and_true, true_or, or_true, not_true_eq_false, not_false_eq_true, nc0, nc1, nc2, nc3, nc4, nc5, nc6, nc7, nc8, nc9, nc10, nc11, nc12, nc13, nc14, nc15, nc16, nc17, nc18, nc19, nc20, nc21, nc22, nc23, nc35, nc47, nc59, nc60, nc61, nc73, nc74, nc214, nc215, nc1115, nc2230, nc3345, if_true, if_false, Int.reduceToNat, hm.k, hm.r1, hm.r2, hm.r3, hm.r4, hm.r15, hm.r16, hm.r19, hm.r23, hm.r24, hm.r25, hm.r26, hm.r29, hm.r30, hm.r31, hm.r33, hm.r34, hm.r35, hm.k73, hm.k74, hm.k75, hm.k76, hm.k77, hm.k78, hm.k79, hm.k80, hm.k81, hm.k82, hm.k83, hm.k84, hm.k85, hm.k86, hm.k87, hm.k88, hm.k89, hm.n73, hm.n74, hm.n75, hm.n76, hm.n77, hm.n78, hm.n79, hm.n80, hm.n81, hm.n82, hm.n83, hm.n84, hm.n85, hm.n86, hm.n87, hm.n88, hm.n89, ms.2, am]
    · obtain ⟨h1, e1, f1⟩ := m_rightOut (d := d) ms g lo (k := r) (e := e) (by omega) he
      refine ⟨h1, ?_, f1⟩
      rw [Mod_out_36]
      simp (disch := omega) only [Mod_out_72, Mod_out_80, Mod_out_86, wr_id, ix_id, okx, if_pos, if_neg, Int.toNat_of_nonneg, bak_v, bak_n, wr_b01, wr_bt, b01_or, b01_0, b01_1, lc_lt0, lc_gt0, lc_eq0, wl_wr, wr_wr, wl_id, true_and, and_true, true_or, or_true, not_true_eq_false, not_false_eq_true, nc0, nc1, nc2, nc3, nc4, nc5, nc6, nc7, nc8, nc9, nc10, nc11, nc12, nc13, nc14, nc15, nc16, nc17, nc18, nc19, nc20, nc21, nc22, nc23, nc35, nc47, nc59, nc60, nc61, nc73, nc74, nc214, nc215, nc1115, nc2230, nc3345, if_true, if_false, Int.reduceToNat, hm.k, hm.r1, hm.r2, hm.r3, hm.r4, hm.r15, hm.r16, hm.r19, hm.r23, hm.r24, hm.r25, hm.r26, hm.r29, hm.r30, hm.r31, hm.r33, hm.r34, hm.r35, hm.k73, hm.k74, hm.k75, hm.k76, hm.k77, hm.k78, hm.k79, hm.k80, hm.k81, hm.k82, hm.k83, hm.k84, hm.k85, hm.k86, hm.k87, hm.k88, hm.k89, hm.n73, hm.n74, hm.n75, hm.n76, hm.n77, hm.n78, hm.n79, hm.n80, hm.n81, hm.n82, hm.n83, hm.n84, hm.n85, hm.n86, hm.n87, hm.n88, hm.n89, ms.2, am, e1]
  | succ k ih =>
    intro i r h h0 hi hr ms
    have hm := ms.1
    obtain ⟨h1, e1, f1⟩ := m_rightOut (d := d) ms g lo (k := i) (e := e) (by omega) he
    have ms1 := ms.q f1 (fun k => by omega)
    have hm1 := ms1.1
    obtain ⟨h2, e2, f2⟩ := m_rightOut (d := d) ms1 g lo (k := r) (e := e) (by omega) he
    have ms2 := ms1.q f2 (fun k => by omega)
    have b1 := rOut_rng ga i e
    have b2 := rOut_rng ga r e
    simp only [am]
    by_cases c : rOut S r e < rOut S i e
    · obtain ⟨h3, e3, f3⟩ := ih (i + 1) i h2 (by omega) (by omega) (by omega) ms2
      refine ⟨h3, ?_, (f1.tr f2).tr f3⟩
      rw [Mod_out_36]
      simp (disch := omega) only [Mod_out_47, Mod_out_54, Mod_out_60, Mod_out_63, Mod_out_66, wr_id, ix_id, okx, if_pos, if_neg, Int.toNat_of_nonneg, bak_v, bak_n, wr_b01, wr_bt, b01_or, b01_0, b01_1, lc_lt0, lc_gt0, lc_eq0, wl_wr, wr_wr, wl_id, true_and, and_true, true_or, or_true, not_true_eq_false, not_false_eq_true, nc0, nc1, nc2, nc3, nc4, nc5, nc6, nc7, nc8, nc9, nc10, nc11, nc12, nc13, nc14, nc15, nc16, nc17, nc18, nc19, nc20, nc21, nc22, nc23, nc35, nc47, nc59, nc60, nc61, nc73, nc74, nc214, nc215, nc1115, nc2230, nc3345, if_true, if_false, Int.reduceToNat, hm.k, hm.r1, hm.r2, hm.r3, hm.r4, hm.r15, hm.r16, hm.r19, hm.r23, hm.r24, hm.r25, hm.r26, hm.r29, hm.r30, hm.r31, hm.r33, hm.r34, hm.r35, hm.k73, hm.k74, hm.k75, hm.k76, hm.k77, hm.k78, hm.k79, hm.k80, hm.k81, hm.k82, hm.k83, hm.k84, hm.k85, hm.k86, hm.k87, hm.k88, hm.k89, hm.n73, hm.n74, hm.n75, hm.n76, hm.n77, hm.n78, hm.n79, hm.n80, hm.n81, hm.n82, hm.n83, hm.n84, hm.n85, hm.n86, hm.n87, hm.n88, hm.n89, ms.2, e1, hm1.k, e2, e3]
    · obtain ⟨h3, e3, f3⟩ := ih (i + 1) r h2 (by omega) (by omega) (by omega) ms2
      refine ⟨h3, ?_, (f1.tr f2).tr f3⟩
      rw [Mod_out_36]
      simp (disch := omega) only [Mod_out_47, Mod_out_54, Mod_out_60, Mod_out_63, Mod_out_66, wr_id, ix_id, okx, if_pos, if_neg, Int.toNat_of_nonneg, bak_v, bak_n, wr_b01, wr_bt, b01_or, b01_0, b01_1, lc_lt0, lc_gt0, lc_eq0, wl_wr, wr_wr, wl_id, true_and, and_true, true_or, or_true, not_true_eq_false, not_false_eq_true, nc0, nc1, nc2, nc3, nc4, nc5, nc6, nc7, nc8, nc9, nc10, nc11, nc12, nc13, nc14, nc15, nc16, nc17, nc18, nc19, nc20, nc21, nc22, nc23, nc35, nc47, nc59, nc60, nc61, nc73, nc74, nc214, nc215, nc1115, nc2230, nc3345, if_true, if_false, Int.reduceToNat, hm.k, hm.r1, hm.r2, hm.r3, hm.r4, hm.r15, hm.r16, hm.r19, hm.r23, hm.r24, hm.r25, hm.r26, hm.r29, hm.r30, hm.r31, hm.r33, hm.r34, hm.r35, hm.k73, hm.k74, hm.k75, hm.k76, hm.k77, hm.k78, hm.k79, hm.k80, hm.k81, hm.k82, hm.k83, hm.k84, hm.k85, hm.k86, hm.k87, hm.k88, hm.k89, hm.n73, hm.n74, hm.n75, hm.n76, hm.n77, hm.n78, hm.n79, hm.n80, hm.n81, hm.n82, hm.n83, hm.n84, hm.n85, hm.n86, hm.n87, hm.n88, hm.n89, ms.2, e1, hm1.k, e2, e3]
theorem mm_out {d : Nat} {h : Hp} {S G T rs rm nb : Int → Int} {n fk fp : Int} (mb : MB h S G T rs rm nb n fk fp) (g : Gd S) (lo : LawOk S) {e u : Int} (re : -2147483648 ≤ e ∧ e ≤ 2147483647) (ru : -2147483648 ≤ u ∧ u ≤ 2147483647) : ∃ h', cal (d+4) m_Mod_out [.inr (.inr (72)), .inl (e), .inl (u)] (h) = some (.inl (ansOut S e u), h') ∧ MB h' S G T rs rm nb n fk fp ∧ Fr wQ h h' := by
  have ms0 : MS (pI h 72 0 0) S := mb.1.o (by omega)
  have f0 : Fr wQ h (pI h 72 0 0) := f72 (by omega)
  have hk := mb.1.1.k
  have hm := ms0.1
  have ga := g.a
  unfold ansOut
  by_cases c : u = 0 ∨ u = 1
  · rw [if_neg (fun q => q c)]
    by_cases c1 : e = 1 ∨ e = -1
    · rw [if_neg (fun q => q c1)]
      obtain ⟨h', e1, f⟩ := m_out_l (d := d) g lo c1 c (S 1).toNat 1 0 (pI h 72 0 0) (by omega) (by omega) (by omega) ms0
      refine ⟨h', ?_, mb.fr (f0.tr (f77 f)) (ms0.q f (fun k => by omega)), f0.tr (f77 f)⟩
      show EX (d+3) m_Mod_out 0 [(0, .inr (.inr (72))), (1, .inl (e)), (2, .inl (u))] [] (h) = _
      by_cases c2 : e = 1
      · simp (disch := omega) only [Mod_out_0, Mod_out_5, Mod_out_12, Mod_out_18, Mod_out_23, Mod_out_31, wr_id, ix_id, okx, if_pos, if_neg, Int.toNat_of_nonneg, bak_v, bak_n, wr_b01, wr_bt, b01_or, b01_0, b01_1, lc_lt0, lc_gt0, lc_eq0, wl_wr, wr_wr, wl_id, true_and, and_true, true_or, or_true, not_true_eq_false, not_false_eq_true, nc0, nc1, nc2, nc3, nc4, nc5, nc6, nc7, nc8, nc9, nc10, nc11, nc12, nc13, nc14, nc15, nc16, nc17, nc18, nc19, nc20, nc21, nc22, nc23, nc35, nc47, nc59, nc60, nc61, nc73, nc74, nc214, nc215, nc1115, nc2230, nc3345, if_true, if_false, Int.reduceToNat, hk, hm.k, hm.r1, hm.r2, hm.r3, hm.r4, hm.r15, hm.r16, hm.r19, hm.r23, hm.r24, hm.r25, hm.r26, hm.r29, hm.r30, hm.r31, hm.r33, hm.r34, hm.r35, hm.k73, hm.k74, hm.k75, hm.k76, hm.k77, hm.k78, hm.k79, hm.k80, hm.k81, hm.k82, hm.k83, hm.k84, hm.k85, hm.k86, hm.k87, hm.k88, hm.k89, hm.n73, hm.n74, hm.n75, hm.n76, hm.n77, hm.n78, hm.n79, hm.n80, hm.n81, hm.n82, hm.n83, hm.n84, hm.n85, hm.n86, hm.n87, hm.n88, hm.n89, ms0.2, m_within, e1]
      · simp (disch := omega) only [Mod_out_0, Mod_out_5, Mod_out_12, Mod_out_18, Mod_out_23, Mod_out_31, wr_id, ix_id, okx, if_pos, if_neg, Int.toNat_of_nonneg, bak_v, bak_n, wr_b01, wr_bt, b01_or, b01_0, b01_1, lc_lt0, lc_gt0, lc_eq0, wl_wr, wr_wr, wl_id, true_and, and_true, true_or, or_true, not_true_eq_false, not_false_eq_true, nc0, nc1, nc2, nc3, nc4, nc5, nc6, nc7, nc8, nc9, nc10, nc11, nc12, nc13, nc14, nc15, nc16, nc17, nc18, nc19, nc20, nc21, nc22, nc23, nc35, nc47, nc59, nc60, nc61, nc73, nc74, nc214, nc215, nc1115, nc2230, nc3345, if_true, if_false, Int.reduceToNat, hk, hm.k, hm.r1, hm.r2, hm.r3, hm.r4, hm.r15, hm.r16, hm.r19, hm.r23, hm.r24, hm.r25, hm.r26, hm.r29, hm.r30, hm.r31, hm.r33, hm.r34, hm.r35, hm.k73, hm.k74, hm.k75, hm.k76, hm.k77, hm.k78, hm.k79, hm.k80, hm.k81, hm.k82, hm.k83, hm.k84, hm.k85, hm.k86, hm.k87, hm.k88, hm.k89, hm.n73, hm.n74, hm.n75, hm.n76, hm.n77, hm.n78, hm.n79, hm.n80, hm.n81, hm.n82, hm.n83, hm.n84, hm.n85, hm.n86, hm.n87, hm.n88, hm.n89, ms0.2, m_within, e1]
    · rw [if_pos c1]
      refine ⟨pI h 72 0 0, ?_, mb.fr f0 ms0, f0⟩
      show EX (d+3) m_Mod_out 0 [(0, .inr (.inr (72))), (1, .inl (e)), (2, .inl (u))] [] (h) = _
      simp (disch := omega) only [Mod_out_0, Mod_out_5, Mod_out_12, Mod_out_18, Mod_out_23, Mod_out_28, wr_id, ix_id, okx, if_pos, if_neg, Int.toNat_of_nonneg, bak_v, bak_n, wr_b01, wr_bt, b01_or, b01_0, b01_1, lc_lt0, lc_gt0, lc_eq0, wl_wr, wr_wr, wl_id, true_and, and_true, true_or, or_true, not_true_eq_false, not_false_eq_true, nc0, nc1, nc2, nc3, nc4, nc5, nc6, nc7, nc8, nc9, nc10, nc11, nc12, nc13, nc14, nc15, nc16, nc17, nc18, nc19, nc20, nc21, nc22, nc23, nc35, nc47, nc59, nc60, nc61, nc73, nc74, nc214, nc215, nc1115, nc2230, nc3345, if_true, if_false, Int.reduceToNat, hk, m_within]
  · rw [if_pos c]
    refine ⟨pI h 72 0 0, ?_, mb.fr f0 ms0, f0⟩
    show EX (d+3) m_Mod_out 0 [(0, .inr (.inr (72))), (1, .inl (e)), (2, .inl (u))] [] (h) = _
    simp (disch := omega) only [Mod_out_0, Mod_out_5, Mod_out_12, Mod_out_15, wr_id, ix_id, okx, if_pos, if_neg, Int.toNat_of_nonneg, bak_v, bak_n, wr_b01, wr_bt, b01_or, b01_0, b01_1, lc_lt0, lc_gt0, lc_eq0, wl_wr, wr_wr, wl_id, true_and, and_true, true_or, or_true, not_true_eq_false, not_false_eq_true, nc0, nc1, nc2, nc3, nc4, nc5, nc6, nc7, nc8, nc9, nc10, nc11, nc12, nc13, nc14, nc15, nc16, nc17, nc18, nc19, nc20, nc21, nc22, nc23, nc35, nc47, nc59, nc60, nc61, nc73, nc74, nc214, nc215, nc1115, nc2230, nc3345, if_true, if_false, Int.reduceToNat, hk, m_within]
