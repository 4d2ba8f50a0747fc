/-! the model: goesTo, joins, unhooks, keeps, isAgain, notes -/
/-- cells of the model; behind a write to its row -/
theorem MS.up {h : Hp} {S : Int → Int} (ms : MS h S) {z v : Int} (hz : 0 ≤ z) : MS (pI h 73 z.toNat v) (up S z v) := ⟨ms.1.pI _ _ _, up_row ms.2 hz⟩
theorem MS.o {h : Hp} {S : Int → Int} (ms : MS h S) {a k : Nat} {v : Int} (ha : ¬ a = 73) : MS (pI h a k v) S := ⟨ms.1.pI _ _ _, fun j => by rw [hI_pI, if_neg (fun c => ha c.1.symm)]; exact ms.2 j⟩
theorem m_standsFor {d : Nat} {h : Hp} {S : Int → Int} (ms : MS h S) (g : GdW S) {c r : Int} (hc : -1000 ≤ c ∧ c ≤ 1000) (hr : -1000 ≤ r ∧ r ≤ 1000) : cal (d+1) m_Mod_standsFor [.inr (.inr (72)), .inl (c), .inl (r)] (h) = some (.inl (chF S c r), h) := by
  have hm := ms.1
  have g3 := g.2.2.1
  show EX (d) m_Mod_standsFor 0 [(0, .inr (.inr (72))), (1, .inl (c)), (2, .inl (r))] [] (h) = _
  unfold chF
  simp (disch := omega) only [Mod_standsFor_0, Mod_standsFor_12, Mod_standsFor_21, Mod_standsFor_33, Mod_standsFor_44, Mod_standsFor_45, wr_id, ix_id, okx, if_pos, if_neg, Int.toNat_of_nonneg, bak_v, bak_n, wr_b01, wr_bt, b01_or, b01_0, b01_1, lc_lt0, lc_gt0, lc_eq0, wl_wr, wr_wr, wl_id, true_and, and_true, true_or, or_true, not_true_eq_false, not_false_eq_true, nc0, nc1, nc2, nc3, nc4, nc5, nc6, nc7, nc8, nc9, nc10, nc11, nc12, nc13, nc14, nc15, nc16, nc17, nc18, nc19, nc20, nc21, nc22, nc23, nc35, nc47, nc59, nc60, nc61, nc73, nc74, nc214, nc215, nc1115, nc2230, nc3345, if_true, if_false, Int.reduceToNat, hm.k, hm.r1, hm.r2, hm.r3, hm.r4, hm.r15, hm.r16, hm.r19, hm.r23, hm.r24, hm.r25, hm.r26, hm.r29, hm.r30, hm.r31, hm.r33, hm.r34, hm.r35, hm.k73, hm.k74, hm.k75, hm.k76, hm.k77, hm.k78, hm.k79, hm.k80, hm.k81, hm.k82, hm.k83, hm.k84, hm.k85, hm.k86, hm.k87, hm.k88, hm.k89, hm.n73, hm.n74, hm.n75, hm.n76, hm.n77, hm.n78, hm.n79, hm.n80, hm.n81, hm.n82, hm.n83, hm.n84, hm.n85, hm.n86, hm.n87, hm.n88, hm.n89, ms.2]
  split
  · rfl
  · split <;> rfl
theorem m_works {d : Nat} {h : Hp} {S : Int → Int} (ms : MS h S) (g : GdW S) {c r : Int} (hc : 0 ≤ c ∧ c ≤ 12) (hr : 0 ≤ r ∧ r ≤ 12) : cal (d+2) m_Mod_works [.inr (.inr (72)), .inl (c), .inl (r)] (h) = some (.inl (scA S c r), h) := by
  have hm := ms.1
  have g4 := g.2.2.2.1
  have g5 := g.2.2.2.2.1
  have e := chF_rng g hc.1 hr.1
  show EX (d+1) m_Mod_works 0 [(0, .inr (.inr (72))), (1, .inl (c)), (2, .inl (r))] [] (h) = _
  unfold scA
  by_cases q1 : chF S c r = c
  · simp (disch := omega) only [Mod_works_0, Mod_works_6, Mod_works_12, Mod_works_18, Mod_works_21, Mod_works_28, Mod_works_40, Mod_works_41, wr_id, ix_id, okx, if_pos, if_neg, Int.toNat_of_nonneg, bak_v, bak_n, wr_b01, wr_bt, b01_or, b01_0, b01_1, lc_lt0, lc_gt0, lc_eq0, wl_wr, wr_wr, wl_id, true_and, and_true, true_or, or_true, not_true_eq_false, not_false_eq_true, nc0, nc1, nc2, nc3, nc4, nc5, nc6, nc7, nc8, nc9, nc10, nc11, nc12, nc13, nc14, nc15, nc16, nc17, nc18, nc19, nc20, nc21, nc22, nc23, nc35, nc47, nc59, nc60, nc61, nc73, nc74, nc214, nc215, nc1115, nc2230, nc3345, if_true, if_false, Int.reduceToNat, hm.k, hm.r1, hm.r2, hm.r3, hm.r4, hm.r15, hm.r16, hm.r19, hm.r23, hm.r24, hm.r25, hm.r26, hm.r29, hm.r30, hm.r31, hm.r33, hm.r34, hm.r35, hm.k73, hm.k74, hm.k75, hm.k76, hm.k77, hm.k78, hm.k79, hm.k80, hm.k81, hm.k82, hm.k83, hm.k84, hm.k85, hm.k86, hm.k87, hm.k88, hm.k89, hm.n73, hm.n74, hm.n75, hm.n76, hm.n77, hm.n78, hm.n79, hm.n80, hm.n81, hm.n82, hm.n83, hm.n84, hm.n85, hm.n86, hm.n87, hm.n88, hm.n89, ms.2, m_standsFor ms g, q1, Int.sub_self]
  · by_cases q2 : c < chF S c r
    · simp (disch := omega) only [Mod_works_0, Mod_works_6, Mod_works_12, Mod_works_18, Mod_works_21, Mod_works_28, Mod_works_40, Mod_works_41, wr_id, ix_id, okx, if_pos, if_neg, Int.toNat_of_nonneg, bak_v, bak_n, wr_b01, wr_bt, b01_or, b01_0, b01_1, lc_lt0, lc_gt0, lc_eq0, wl_wr, wr_wr, wl_id, true_and, and_true, true_or, or_true, not_true_eq_false, not_false_eq_true, nc0, nc1, nc2, nc3, nc4, nc5, nc6, nc7, nc8, nc9, nc10, nc11, nc12, nc13, nc14, nc15, nc16, nc17, nc18, nc19, nc20, nc21, nc22, nc23, nc35, nc47, nc59, nc60, nc61, nc73, nc74, nc214, nc215, nc1115, nc2230, nc3345, if_true, if_false, Int.reduceToNat, hm.k, hm.r1, hm.r2, hm.r3, hm.r4, hm.r15, hm.r16, hm.r19, hm.r23, hm.r24, hm.r25, hm.r26, hm.r29, hm.r30, hm.r31, hm.r33, hm.r34, hm.r35, hm.k73, hm.k74, hm.k75, hm.k76, hm.k77, hm.k78, hm.k79, hm.k80, hm.k81, hm.k82, hm.k83, hm.k84, hm.k85, hm.k86, hm.k87, hm.k88, hm.k89, hm.n73, hm.n74, hm.n75, hm.n76, hm.n77, hm.n78, hm.n79, hm.n80, hm.n81, hm.n82, hm.n83, hm.n84, hm.n85, hm.n86, hm.n87, hm.n88, hm.n89, ms.2, m_standsFor ms g]
    · simp (disch := omega) only [Mod_works_0, Mod_works_6, Mod_works_12, Mod_works_18, Mod_works_21, Mod_works_28, Mod_works_40, Mod_works_41, wr_id, ix_id, okx, if_pos, if_neg, Int.toNat_of_nonneg, bak_v, bak_n, wr_b01, wr_bt, b01_or, b01_0, b01_1, lc_lt0, lc_gt0, lc_eq0, wl_wr, wr_wr, wl_id, true_and, and_true, true_or, or_true, not_true_eq_false, not_false_eq_true, nc0, nc1, nc2, nc3, nc4, nc5, nc6, nc7, nc8, nc9, nc10, nc11, nc12, nc13, nc14, nc15, nc16, nc17, nc18, nc19, nc20, nc21, nc22, nc23, nc35, nc47, nc59, nc60, nc61, nc73, nc74, nc214, nc215, nc1115, nc2230, nc3345, if_true, if_false, Int.reduceToNat, hm.k, hm.r1, hm.r2, hm.r3, hm.r4, hm.r15, hm.r16, hm.r19, hm.r23, hm.r24, hm.r25, hm.r26, hm.r29, hm.r30, hm.r31, hm.r33, hm.r34, hm.r35, hm.k73, hm.k74, hm.k75, hm.k76, hm.k77, hm.k78, hm.k79, hm.k80, hm.k81, hm.k82, hm.k83, hm.k84, hm.k85, hm.k86, hm.k87, hm.k88, hm.k89, hm.n73, hm.n74, hm.n75, hm.n76, hm.n77, hm.n78, hm.n79, hm.n80, hm.n81, hm.n82, hm.n83, hm.n84, hm.n85, hm.n86, hm.n87, hm.n88, hm.n89, ms.2, m_standsFor ms g]
theorem m_goesTo {d : Nat} {h : Hp} {S : Int → Int} (ms : MS h S) (g : GdW S) (h59 : 0 ≤ S 59 ∧ S 59 ≤ 11) {r : Int} (hr : 0 ≤ r ∧ r ≤ 11) : ∃ h', cal (d+3) m_Mod_goesTo [.inr (.inr (72)), .inl (r)] (h) = some (.inl 0, h') ∧ MS h' (goS S r) ∧ Fr (fun a _ => a = 73) h h' := by
  have hm := ms.1
  have ms1 : MS (pI h 73 60 (S 60 + scA S (S 59) r)) (up S 60 (S 60 + scA S (S 59) r)) := MS.up (z := 60) ms (by omega)
  have g1 : GdW (up S 60 (S 60 + scA S (S 59) r)) := (Ag.rf.up (by omega) (by omega)).gdw g
  have e59 : up S 60 (S 60 + scA S (S 59) r) 59 = S 59 := up_ne (by omega)
  have ech : chF (up S 60 (S 60 + scA S (S 59) r)) (S 59) r = chF S (S 59) r := by
    unfold chF
    rw [up_ne (by omega)]
  refine ⟨pI (pI h 73 60 (S 60 + scA S (S 59) r)) 73 59 (chF S (S 59) r), ?_, MS.up (z := 59) ms1 (by omega), Fr.pI (Fr.pI Fr.rf (by rfl)) (by rfl)⟩
  show EX (d+2) m_Mod_goesTo 0 [(0, .inr (.inr (72))), (1, .inl (r))] [] (h) = _
  have e2 := m_standsFor (d := d + 1) ms1 g1 (c := S 59) (r := r) (by omega) (by omega)
  rw [ech] at e2
  simp (disch := omega) only [Mod_goesTo_0, Mod_goesTo_20, Mod_goesTo_22, Mod_goesTo_40, Mod_goesTo_41, wr_id, ix_id, okx, if_pos, if_neg, Int.toNat_of_nonneg, bak_v, bak_n, wr_b01, wr_bt, b01_or, b01_0, b01_1, lc_lt0, lc_gt0, lc_eq0, wl_wr, wr_wr, wl_id, true_and, and_true, true_or, or_true, not_true_eq_false, not_false_eq_true, nc0, nc1, nc2, nc3, nc4, nc5, nc6, nc7, nc8, nc9, nc10, nc11, nc12, nc13, nc14, nc15, nc16, nc17, nc18, nc19, nc20, nc21, nc22, nc23, nc35, nc47, nc59, nc60, nc61, nc73, nc74, nc214, nc215, nc1115, nc2230, nc3345, if_true, if_false, Int.reduceToNat, hm.k, hm.r1, hm.r2, hm.r3, hm.r4, hm.r15, hm.r16, hm.r19, hm.r23, hm.r24, hm.r25, hm.r26, hm.r29, hm.r30, hm.r31, hm.r33, hm.r34, hm.r35, hm.k73, hm.k74, hm.k75, hm.k76, hm.k77, hm.k78, hm.k79, hm.k80, hm.k81, hm.k82, hm.k83, hm.k84, hm.k85, hm.k86, hm.k87, hm.k88, hm.k89, hm.n73, hm.n74, hm.n75, hm.n76, hm.n77, hm.n78, hm.n79, hm.n80, hm.n81, hm.n82, hm.n83, hm.n84, hm.n85, hm.n86, hm.n87, hm.n88, hm.n89, sK_pI, sN_pI, hR_pI, hI_pI, ms.2, m_works ms g, e2]
theorem m_joins {d : Nat} {h : Hp} {S : Int → Int} (ms : MS h S) (g : GdW S) (h59 : 0 ≤ S 59 ∧ S 59 ≤ 11) {x y : Int} (hx : 0 ≤ x ∧ x < 12) (hy : 0 ≤ y ∧ y ≤ 11) : ∃ h', cal (d+4) m_Mod_joins [.inr (.inr (72)), .inl (x), .inl (y)] (h) = some (.inl 0, h') ∧ MS h' (joinS S x y) ∧ Fr (fun a _ => a = 73) h h' := by
  obtain ⟨h1, e, ms1, f1⟩ := m_goesTo (d := d) ms g h59 hy
  have hm := ms1.1
  refine ⟨pI h1 73 (61 + x).toNat y, ?_, MS.up ms1 (by omega), Fr.pI f1 (by rfl)⟩
  show EX (d+3) m_Mod_joins 0 [(0, .inr (.inr (72))), (1, .inl (x)), (2, .inl (y))] [] (h) = _
  simp (disch := omega) only [Mod_joins_0, Mod_joins_5, Mod_joins_15, wr_id, ix_id, okx, if_pos, if_neg, Int.toNat_of_nonneg, bak_v, bak_n, wr_b01, wr_bt, b01_or, b01_0, b01_1, lc_lt0, lc_gt0, lc_eq0, wl_wr, wr_wr, wl_id, true_and, and_true, true_or, or_true, not_true_eq_false, not_false_eq_true, nc0, nc1, nc2, nc3, nc4, nc5, nc6, nc7, nc8, nc9, nc10, nc11, nc12, nc13, nc14, nc15, nc16, nc17, nc18, nc19, nc20, nc21, nc22, nc23, nc35, nc47, nc59, nc60, nc61, nc73, nc74, nc214, nc215, nc1115, nc2230, nc3345, if_true, if_false, Int.reduceToNat, ms.1.k, e, hm.k, hm.r1, hm.r2, hm.r3, hm.r4, hm.r15, hm.r16, hm.r19, hm.r23, hm.r24, hm.r25, hm.r26, hm.r29, hm.r30, hm.r31, hm.r33, hm.r34, hm.r35, hm.k73, hm.k74, hm.k75, hm.k76, hm.k77, hm.k78, hm.k79, hm.k80, hm.k81, hm.k82, hm.k83, hm.k84, hm.k85, hm.k86, hm.k87, hm.k88, hm.k89, hm.n73, hm.n74, hm.n75, hm.n76, hm.n77, hm.n78, hm.n79, hm.n80, hm.n81, hm.n82, hm.n83, hm.n84, hm.n85, hm.n86, hm.n87, hm.n88, hm.n89]
theorem m_unhooks {d : Nat} {h : Hp} {S : Int → Int} (ms : MS h S) (g : GdW S) (h59 : 0 ≤ S 59 ∧ S 59 ≤ 11) {x : Int} (hx : 0 ≤ x ∧ x < 12) (hy : 0 ≤ S (61 + x) ∧ S (61 + x) ≤ 11) : ∃ h', cal (d+4) m_Mod_unhooks [.inr (.inr (72)), .inl (x)] (h) = some (.inl 0, h') ∧ MS h' (offS S x) ∧ Fr (fun a _ => a = 73) h h' := by
  obtain ⟨h1, e, ms1, f1⟩ := m_goesTo (d := d) ms g h59 hy
  have hm := ms1.1
  refine ⟨pI h1 73 (61 + x).toNat (-1), ?_, MS.up ms1 (by omega), Fr.pI f1 (by rfl)⟩
  show EX (d+3) m_Mod_unhooks 0 [(0, .inr (.inr (72))), (1, .inl (x))] [] (h) = _
  simp (disch := omega) only [Mod_unhooks_0, Mod_unhooks_13, Mod_unhooks_23, wr_id, ix_id, okx, if_pos, if_neg, Int.toNat_of_nonneg, bak_v, bak_n, wr_b01, wr_bt, b01_or, b01_0, b01_1, lc_lt0, lc_gt0, lc_eq0, wl_wr, wr_wr, wl_id, true_and, and_true, true_or, or_true, not_true_eq_false, not_false_eq_true, nc0, nc1, nc2, nc3, nc4, nc5, nc6, nc7, nc8, nc9, nc10, nc11, nc12, nc13, nc14, nc15, nc16, nc17, nc18, nc19, nc20, nc21, nc22, nc23, nc35, nc47, nc59, nc60, nc61, nc73, nc74, nc214, nc215, nc1115, nc2230, nc3345, if_true, if_false, Int.reduceToNat, ms.1.k, ms.1.r1, ms.1.k73, ms.1.n73, ms.2, e, hm.k, hm.r1, hm.r2, hm.r3, hm.r4, hm.r15, hm.r16, hm.r19, hm.r23, hm.r24, hm.r25, hm.r26, hm.r29, hm.r30, hm.r31, hm.r33, hm.r34, hm.r35, hm.k73, hm.k74, hm.k75, hm.k76, hm.k77, hm.k78, hm.k79, hm.k80, hm.k81, hm.k82, hm.k83, hm.k84, hm.k85, hm.k86, hm.k87, hm.k88, hm.k89, hm.n73, hm.n74, hm.n75, hm.n76, hm.n77, hm.n78, hm.n79, hm.n80, hm.n81, hm.n82, hm.n83, hm.n84, hm.n85, hm.n86, hm.n87, hm.n88, hm.n89]
theorem m_whyNotOff {d : Nat} {h : Hp} {S : Int → Int} (ms : MS h S) (g : Gd S) {x : Int} (rx : -2147483648 ≤ x ∧ x ≤ 2147483647) : cal (d+3) m_Mod_whyNotOff [.inr (.inr (72)), .inl (x)] (h) = some (.inl (offM S x), h) := by
  have hm := ms.1
  have ga := g.a
  have gb := g.b
  show EX (d+2) m_Mod_whyNotOff 0 [(0, .inr (.inr (72))), (1, .inl (x))] [] (h) = _
  unfold offM
  by_cases hx : 0 ≤ x ∧ x < S 1
  · have gr := g.rg hx.1 (by omega)
    simp (disch := omega) only [Mod_whyNotOff_0, Mod_whyNotOff_5, Mod_whyNotOff_8, Mod_whyNotOff_12, Mod_whyNotOff_25, Mod_whyNotOff_29, Mod_whyNotOff_30, wr_id, ix_id, okx, if_pos, if_neg, Int.toNat_of_nonneg, bak_v, bak_n, wr_b01, wr_bt, b01_or, b01_0, b01_1, lc_lt0, lc_gt0, lc_eq0, wl_wr, wr_wr, wl_id, true_and, and_true, true_or, or_true, not_true_eq_false, not_false_eq_true, nc0, nc1, nc2, nc3, nc4, nc5, nc6, nc7, nc8, nc9, nc10, nc11, nc12, nc13, nc14, nc15, nc16, nc17, nc18, nc19, nc20, nc21, nc22, nc23, nc35, nc47, nc59, nc60, nc61, nc73, nc74, nc214, nc215, nc1115, nc2230, nc3345, if_true, if_false, Int.reduceToNat, hm.k, hm.r1, hm.r2, hm.r3, hm.r4, hm.r15, hm.r16, hm.r19, hm.r23, hm.r24, hm.r25, hm.r26, hm.r29, hm.r30, hm.r31, hm.r33, hm.r34, hm.r35, hm.k73, hm.k74, hm.k75, hm.k76, hm.k77, hm.k78, hm.k79, hm.k80, hm.k81, hm.k82, hm.k83, hm.k84, hm.k85, hm.k86, hm.k87, hm.k88, hm.k89, hm.n73, hm.n74, hm.n75, hm.n76, hm.n77, hm.n78, hm.n79, hm.n80, hm.n81, hm.n82, hm.n83, hm.n84, hm.n85, hm.n86, hm.n87, hm.n88, hm.n89, ms.2, m_isHook ms ga]
    by_cases c : S (61 + x) = -1 <;> simp [c]
  · simp (disch := omega) only [Mod_whyNotOff_0, Mod_whyNotOff_5, Mod_whyNotOff_8, Mod_whyNotOff_12, Mod_whyNotOff_25, Mod_whyNotOff_29, Mod_whyNotOff_30, wr_id, ix_id, okx, if_pos, if_neg, Int.toNat_of_nonneg, bak_v, bak_n, wr_b01, wr_bt, b01_or, b01_0, b01_1, lc_lt0, lc_gt0, lc_eq0, wl_wr, wr_wr, wl_id, true_and, and_true, true_or, or_true, not_true_eq_false, not_false_eq_true, nc0, nc1, nc2, nc3, nc4, nc5, nc6, nc7, nc8, nc9, nc10, nc11, nc12, nc13, nc14, nc15, nc16, nc17, nc18, nc19, nc20, nc21, nc22, nc23, nc35, nc47, nc59, nc60, nc61, nc73, nc74, nc214, nc215, nc1115, nc2230, nc3345, if_true, if_false, Int.reduceToNat, hm.k, hm.r1, hm.r2, hm.r3, hm.r4, hm.r15, hm.r16, hm.r19, hm.r23, hm.r24, hm.r25, hm.r26, hm.r29, hm.r30, hm.r31, hm.r33, hm.r34, hm.r35, hm.k73, hm.k74, hm.k75, hm.k76, hm.k77, hm.k78, hm.k79, hm.k80, hm.k81, hm.k82, hm.k83, hm.k84, hm.k85, hm.k86, hm.k87, hm.k88, hm.k89, hm.n73, hm.n74, hm.n75, hm.n76, hm.n77, hm.n78, hm.n79, hm.n80, hm.n81, hm.n82, hm.n83, hm.n84, hm.n85, hm.n86, hm.n87, hm.n88, hm.n89, ms.2, m_isHook ms ga]
/-- the row that was kept: chair, seconds, rings of W -/
def KV (h : Hp) (W : Int → Int) : Prop := ∀ k : Nat, k < 14 → hI h 78 k = W (59 + k)
theorem KV.fr {h h' : Hp} {W : Int → Int} (v : KV h W) {p : Nat → Nat → Prop} (f : Fr p h h') (hp : ∀ k, ¬ p 78 k) : KV h' W := fun k hk => by rw [f.I (hp k)]; exact v k hk
theorem m_keeps_l {d : Nat} {S : Int → Int} : ∀ i, 0 ≤ i → i ≤ 14 → ∀ h, MS h S → (∀ k : Nat, (k : Int) < i → hI h 78 k = S (59 + k)) → ∃ h', EX (d) m_Mod_keeps 2 [(0, .inr (.inr (72))), (1, .inl (i))] [] (h) = some (.inl 0, h') ∧ KV h' S ∧ Fr (fun a _ => a = 78) h h' := by
  refine up_ind (hi := 14) ?_ ?_
  · intro i hi h0 h1 h ms hk
    refine ⟨h, ?_, fun k hk' => hk k (by omega), Fr.rf⟩
    rw [Mod_keeps_2]
    simp (disch := omega) only [Mod_keeps_0, Mod_keeps_8, Mod_keeps_23, Mod_keeps_29, wr_id, ix_id, okx, if_pos, if_neg, Int.toNat_of_nonneg, bak_v, bak_n, wr_b01, wr_bt, b01_or, b01_0, b01_1, lc_lt0, lc_gt0, lc_eq0, wl_wr, wr_wr, wl_id, true_and, and_true, true_or, or_true, not_true_eq_false, not_false_eq_true, nc0, nc1, nc2, nc3, nc4, nc5, nc6, nc7, nc8, nc9, nc10, nc11, nc12, nc13, nc14, nc15, nc16, nc17, nc18, nc19, nc20, nc21, nc22, nc23, nc35, nc47, nc59, nc60, nc61, nc73, nc74, nc214, nc215, nc1115, nc2230, nc3345, if_true, if_false, Int.reduceToNat]
  · intro i hi ih h0 h1 h ms hk
    have hm := ms.1
    obtain ⟨h', e, k1, f1⟩ := ih (by omega) (by omega) (pI h 78 i.toNat (S (59 + i))) (ms.o (by omega)) (fun k hk' => by
      rw [hI_pI]
      by_cases c : k = i.toNat
      · rw [if_pos ⟨rfl, c⟩]; congr 1; omega
      · rw [if_neg (fun q => c q.2)]; exact hk k (by omega))
    refine ⟨h', ?_, k1, Fr.tr (Fr.pI Fr.rf (by rfl)) f1⟩
    rw [Mod_keeps_2]
    simp (disch := omega) only [Mod_keeps_0, Mod_keeps_8, Mod_keeps_23, Mod_keeps_29, wr_id, ix_id, okx, if_pos, if_neg, Int.toNat_of_nonneg, bak_v, bak_n, wr_b01, wr_bt, b01_or, b01_0, b01_1, lc_lt0, lc_gt0, lc_eq0, wl_wr, wr_wr, wl_id, true_and, and_true, true_or, or_true, not_true_eq_false, not_false_eq_true, nc0, nc1, nc2, nc3, nc4, nc5, nc6, nc7, nc8, nc9, nc10, nc11, nc12, nc13, nc14, nc15, nc16, nc17, nc18, nc19, nc20, nc21, nc22, nc23, nc35, nc47, nc59, nc60, nc61, nc73, nc74, nc214, nc215, nc1115, nc2230, nc3345, if_true, if_false, Int.reduceToNat, hm.k, hm.r1, hm.r2, hm.r3, hm.r4, hm.r15, hm.r16, hm.r19, hm.r23, hm.r24, hm.r25, hm.r26, hm.r29, hm.r30, hm.r31, hm.r33, hm.r34, hm.r35, hm.k73, hm.k74, hm.k75, hm.k76, hm.k77, hm.k78, hm.k79, hm.k80, hm.k81, hm.k82, hm.k83, hm.k84, hm.k85, hm.k86, hm.k87, hm.k88, hm.k89, hm.n73, hm.n74, hm.n75, hm.n76, hm.n77, hm.n78, hm.n79, hm.n80, hm.n81, hm.n82, hm.n83, hm.n84, hm.n85, hm.n86, hm.n87, hm.n88, hm.n89, ms.2, e]
theorem m_keeps {d : Nat} {h : Hp} {S : Int → Int} (ms : MS h S) : ∃ h', cal (d+1) m_Mod_keeps [.inr (.inr (72))] (h) = some (.inl 0, h') ∧ KV h' S ∧ Fr (fun a _ => a = 78) h h' := by
  obtain ⟨h', e, k, f⟩ := m_keeps_l (d := d) (S := S) 0 (by omega) (by omega) h ms (fun k hk => by omega)
  refine ⟨h', ?_, k, f⟩
  show EX (d) m_Mod_keeps 0 [(0, .inr (.inr (72)))] [] (h) = _
  rw [Mod_keeps_0, e]
/-- joins, chair, seconds as in W again -/
def agS (W S : Int → Int) : Int → Int := fun k => if 59 ≤ k ∧ k < 73 then W k else S k
theorem m_isAgain_l {d : Nat} {W : Int → Int} : ∀ i, 0 ≤ i → i ≤ 14 → ∀ h S, MS h S → KV h W → (∀ k, 59 ≤ k → k < 59 + i → S k = W k) → ∃ h', EX (d) m_Mod_isAgain 2 [(0, .inr (.inr (72))), (1, .inl (i))] [] (h) = some (.inl 0, h') ∧ MS h' (agS W S) ∧ Fr (fun a _ => a = 73) h h' := by
  refine up_ind (hi := 14) ?_ ?_
  · intro i hi h0 h1 h S ms kv hk
    have : agS W S = S := by
      funext k
      unfold agS
      split
      · exact (hk k (by omega) (by omega)).symm
      · rfl
    refine ⟨h, ?_, by rw [this]; exact ms, Fr.rf⟩
    rw [Mod_isAgain_2]
    simp (disch := omega) only [Mod_isAgain_0, Mod_isAgain_8, Mod_isAgain_23, Mod_isAgain_29, wr_id, ix_id, okx, if_pos, if_neg, Int.toNat_of_nonneg, bak_v, bak_n, wr_b01, wr_bt, b01_or, b01_0, b01_1, lc_lt0, lc_gt0, lc_eq0, wl_wr, wr_wr, wl_id, true_and, and_true, true_or, or_true, not_true_eq_false, not_false_eq_true, nc0, nc1, nc2, nc3, nc4, nc5, nc6, nc7, nc8, nc9, nc10, nc11, nc12, nc13, nc14, nc15, nc16, nc17, nc18, nc19, nc20, nc21, nc22, nc23, nc35, nc47, nc59, nc60, nc61, nc73, nc74, nc214, nc215, nc1115, nc2230, nc3345, if_true, if_false, Int.reduceToNat]
  · intro i hi ih h0 h1 h S ms kv hk
    have hm := ms.1
    have e0 : hI h 78 i.toNat = W (59 + i) := by rw [kv _ (by omega), Int.toNat_of_nonneg h0]
    obtain ⟨h', e, k1, f1⟩ := ih (by omega) (by omega) (pI h 73 (59 + i).toNat (W (59 + i))) (up S (59 + i) (W (59 + i))) (ms.up (by omega)) (fun k hk' => by rw [hI_pI, if_neg (by omega)]; exact kv k hk') (fun k q1 q2 => by
      by_cases c : k = 59 + i
      · rw [c, up_same]
      · rw [up_ne c]; exact hk k q1 (by omega))
    have e2 : agS W (up S (59 + i) (W (59 + i))) = agS W S := by
      funext k
      unfold agS
      split
      · rfl
      · rw [up_ne (by omega)]
    refine ⟨h', ?_, by rw [← e2]; exact k1, Fr.tr (Fr.pI Fr.rf (by rfl)) f1⟩
    rw [Mod_isAgain_2]
    simp (disch := omega) only [Mod_isAgain_0, Mod_isAgain_8, Mod_isAgain_23, Mod_isAgain_29, wr_id, ix_id, okx, if_pos, if_neg, Int.toNat_of_nonneg, bak_v, bak_n, wr_b01, wr_bt, b01_or, b01_0, b01_1, lc_lt0, lc_gt0, lc_eq0, wl_wr, wr_wr, wl_id, true_and, and_true, true_or, or_true, not_true_eq_false, not_false_eq_true, nc0, nc1, nc2, nc3, nc4, nc5, nc6, nc7, nc8, nc9, nc10, nc11, nc12, nc13, nc14, nc15, nc16, nc17, nc18, nc19, nc20, nc21, nc22, nc23, nc35, nc47, nc59, nc60, nc61, nc73, nc74, nc214, nc215, nc1115, nc2230, nc3345, if_true, if_false, Int.reduceToNat, hm.k, hm.r1, hm.r2, hm.r3, hm.r4, hm.r15, hm.r16, hm.r19, hm.r23, hm.r24, hm.r25, hm.r26, hm.r29, hm.r30, hm.r31, hm.r33, hm.r34, hm.r35, hm.k73, hm.k74, hm.k75, hm.k76, hm.k77, hm.k78, hm.k79, hm.k80, hm.k81, hm.k82, hm.k83, hm.k84, hm.k85, hm.k86, hm.k87, hm.k88, hm.k89, hm.n73, hm.n74, hm.n75, hm.n76, hm.n77, hm.n78, hm.n79, hm.n80, hm.n81, hm.n82, hm.n83, hm.n84, hm.n85, hm.n86, hm.n87, hm.n88, hm.n89, e0, e]
theorem m_isAgain {d : Nat} {h : Hp} {S W : Int → Int} (ms : MS h S) (kv : KV h W) : ∃ h', cal (d+1) m_Mod_isAgain [.inr (.inr (72))] (h) = some (.inl 0, h') ∧ MS h' (agS W S) ∧ Fr (fun a _ => a = 73) h h' := by
  obtain ⟨h', e, k, f⟩ := m_isAgain_l (d := d) (W := W) 0 (by omega) (by omega) h S ms kv (fun k q1 q2 => by omega)
  refine ⟨h', ?_, k, f⟩
  show EX (d) m_Mod_isAgain 0 [(0, .inr (.inr (72)))] [] (h) = _
  rw [Mod_isAgain_0, e]
/-! notes -/
def shS (S : Int → Int) : Int → Int := fun k => if 74 ≤ k ∧ k < 200 then S (k + 14) else S k
theorem m_notes_1 {d : Nat} {S : Int → Int} : ∀ i, 0 ≤ i → i ≤ 126 → ∀ h T, MS h T → (∀ k, 0 ≤ k → T k = if 74 ≤ k ∧ k < 74 + i then S (k + 14) else S k) → ∃ h', EX (d) m_Mod_notes 14 [(0, .inr (.inr (72))), (1, .inl (i))] [] (h) = EX (d) m_Mod_notes 44 [(0, .inr (.inr (72)))] [] (h') ∧ (∀ k : Nat, hI h' 73 k = shS S k) ∧ Fr (fun a _ => a = 73) h h' := by
  refine up_ind (hi := 126) ?_ ?_
  · intro i hi h0 h1 h T ms hk
    refine ⟨h, ?_, fun k => ?_, Fr.rf⟩
    · rw [Mod_notes_14]
      simp (disch := omega) only [wr_id, ix_id, okx, if_pos, if_neg, Int.toNat_of_nonneg, bak_v, bak_n, wr_b01, wr_bt, b01_or, b01_0, b01_1, lc_lt0, lc_gt0, lc_eq0, wl_wr, wr_wr, wl_id, true_and, and_true, true_or, or_true, not_true_eq_false, not_false_eq_true, nc0, nc1, nc2, nc3, nc4, nc5, nc6, nc7, nc8, nc9, nc10, nc11, nc12, nc13, nc14, nc15, nc16, nc17, nc18, nc19, nc20, nc21, nc22, nc23, nc35, nc47, nc59, nc60, nc61, nc73, nc74, nc214, nc215, nc1115, nc2230, nc3345, if_true, if_false, Int.reduceToNat]
    · rw [ms.2, hk _ (by omega), show i = 126 by omega]
      rfl
  · intro i hi ih h0 h1 h T ms hk
    have hm := ms.1
    have e0 : T (88 + i) = S (88 + i) := by rw [hk _ (by omega), if_neg (by omega)]
    obtain ⟨h', e, k1, f1⟩ := ih (by omega) (by omega) (pI h 73 (74 + i).toNat (S (88 + i))) (up T (74 + i) (S (88 + i))) (ms.up (by omega)) (fun k q => by
      by_cases c : k = 74 + i
      · rw [c, up_same, if_pos (by omega)]; congr 1; omega
      · rw [up_ne c, hk k q]
        by_cases c2 : 74 ≤ k ∧ k < 74 + i
        · rw [if_pos c2, if_pos (by omega)]
        · rw [if_neg c2, if_neg (by omega)])
    refine ⟨h', ?_, k1, Fr.tr (Fr.pI Fr.rf (by rfl)) f1⟩
    rw [Mod_notes_14]
    simp (disch := omega) only [Mod_notes_20, Mod_notes_38, wr_id, ix_id, okx, if_pos, if_neg, Int.toNat_of_nonneg, bak_v, bak_n, wr_b01, wr_bt, b01_or, b01_0, b01_1, lc_lt0, lc_gt0, lc_eq0, wl_wr, wr_wr, wl_id, true_and, and_true, true_or, or_true, not_true_eq_false, not_false_eq_true, nc0, nc1, nc2, nc3, nc4, nc5, nc6, nc7, nc8, nc9, nc10, nc11, nc12, nc13, nc14, nc15, nc16, nc17, nc18, nc19, nc20, nc21, nc22, nc23, nc35, nc47, nc59, nc60, nc61, nc73, nc74, nc214, nc215, nc1115, nc2230, nc3345, if_true, if_false, Int.reduceToNat, hm.k, hm.r1, hm.r2, hm.r3, hm.r4, hm.r15, hm.r16, hm.r19, hm.r23, hm.r24, hm.r25, hm.r26, hm.r29, hm.r30, hm.r31, hm.r33, hm.r34, hm.r35, hm.k73, hm.k74, hm.k75, hm.k76, hm.k77, hm.k78, hm.k79, hm.k80, hm.k81, hm.k82, hm.k83, hm.k84, hm.k85, hm.k86, hm.k87, hm.k88, hm.k89, hm.n73, hm.n74, hm.n75, hm.n76, hm.n77, hm.n78, hm.n79, hm.n80, hm.n81, hm.n82, hm.n83, hm.n84, hm.n85, hm.n86, hm.n87, hm.n88, hm.n89, ms.2, e0, e]
theorem m_notes_2 {d : Nat} {S W : Int → Int} {n : Int} (hn : 0 ≤ n ∧ n < 10) (h73 : S 73 = n) : ∀ i, 0 ≤ i → i ≤ 14 → ∀ h T, MS h T → KV h W → (∀ k, 0 ≤ k → T k = if 74 + 14 * n ≤ k ∧ k < 74 + 14 * n + i then W (59 + (k - 74 - 14 * n)) else S k) → ∃ h', EX (d) m_Mod_notes 57 [(0, .inr (.inr (72))), (1, .inl (i))] [] (h) = some (.inl 0, h') ∧ (∀ k : Nat, hI h' 73 k = ntS W S k) ∧ Fr (fun a _ => a = 73) h h' := by
  refine up_ind (hi := 14) ?_ ?_
  · intro i hi h0 h1 h T ms kv hk
    have hm := ms.1
    have e0 : T 73 = n := by rw [hk _ (by omega), if_neg (by omega), h73]
    refine ⟨pI h 73 73 (n + 1), ?_, fun k => ?_, Fr.pI Fr.rf (by rfl)⟩
    · rw [Mod_notes_57]
      simp (disch := omega) only [Mod_notes_95, Mod_notes_106, wr_id, ix_id, okx, if_pos, if_neg, Int.toNat_of_nonneg, bak_v, bak_n, wr_b01, wr_bt, b01_or, b01_0, b01_1, lc_lt0, lc_gt0, lc_eq0, wl_wr, wr_wr, wl_id, true_and, and_true, true_or, or_true, not_true_eq_false, not_false_eq_true, nc0, nc1, nc2, nc3, nc4, nc5, nc6, nc7, nc8, nc9, nc10, nc11, nc12, nc13, nc14, nc15, nc16, nc17, nc18, nc19, nc20, nc21, nc22, nc23, nc35, nc47, nc59, nc60, nc61, nc73, nc74, nc214, nc215, nc1115, nc2230, nc3345, if_true, if_false, Int.reduceToNat, hm.k, hm.r1, hm.r2, hm.r3, hm.r4, hm.r15, hm.r16, hm.r19, hm.r23, hm.r24, hm.r25, hm.r26, hm.r29, hm.r30, hm.r31, hm.r33, hm.r34, hm.r35, hm.k73, hm.k74, hm.k75, hm.k76, hm.k77, hm.k78, hm.k79, hm.k80, hm.k81, hm.k82, hm.k83, hm.k84, hm.k85, hm.k86, hm.k87, hm.k88, hm.k89, hm.n73, hm.n74, hm.n75, hm.n76, hm.n77, hm.n78, hm.n79, hm.n80, hm.n81, hm.n82, hm.n83, hm.n84, hm.n85, hm.n86, hm.n87, hm.n88, hm.n89, ms.2, e0]
    · rw [hI_pI, ms.2, hk _ (by omega)]
      unfold ntS
      rw [if_neg (show ¬ S 73 = 10 by omega), h73, show i = 14 by omega]
      by_cases c : k = 73
      · rw [if_pos ⟨rfl, c⟩, if_pos (show (k : Int) = 73 by omega)]
      · rw [if_neg (fun q => c q.2), if_neg (show ¬ (k : Int) = 73 by omega)]
        rw [show 74 + 14 * n + 14 = 88 + 14 * n by omega]
  · intro i hi ih h0 h1 h T ms kv hk
    have hm := ms.1
    have e73 : T 73 = n := by rw [hk _ (by omega), if_neg (by omega), h73]
    have e0 : hI h 78 i.toNat = W (59 + i) := by rw [kv _ (by omega), Int.toNat_of_nonneg h0]
    obtain ⟨h', e, k1, f1⟩ := ih (by omega) (by omega) (pI h 73 (74 + 14 * n + i).toNat (W (59 + i))) (up T (74 + 14 * n + i) (W (59 + i))) (ms.up (by omega)) (fun k hk' => by rw [hI_pI, if_neg (by omega)]; exact kv k hk') (fun k q => by
      by_cases c : k = 74 + 14 * n + i
      · rw [c, up_same, if_pos (by omega)]; congr 1; omega
      · rw [up_ne c, hk k q]
        by_cases c2 : 74 + 14 * n ≤ k ∧ k < 74 + 14 * n + i
        · rw [if_pos c2, if_pos (by omega)]
        · rw [if_neg c2, if_neg (by omega)])
    refine ⟨h', ?_, k1, Fr.tr (Fr.pI Fr.rf (by rfl)) f1⟩
    rw [Mod_notes_57]
    simp (disch := omega) only [Mod_notes_63, Mod_notes_89, wr_id, ix_id, okx, if_pos, if_neg, Int.toNat_of_nonneg, bak_v, bak_n, wr_b01, wr_bt, b01_or, b01_0, b01_1, lc_lt0, lc_gt0, lc_eq0, wl_wr, wr_wr, wl_id, true_and, and_true, true_or, or_true, not_true_eq_false, not_false_eq_true, nc0, nc1, nc2, nc3, nc4, nc5, nc6, nc7, nc8, nc9, nc10, nc11, nc12, nc13, nc14, nc15, nc16, nc17, nc18, nc19, nc20, nc21, nc22, nc23, nc35, nc47, nc59, nc60, nc61, nc73, nc74, nc214, nc215, nc1115, nc2230, nc3345, if_true, if_false, Int.reduceToNat, hm.k, hm.r1, hm.r2, hm.r3, hm.r4, hm.r15, hm.r16, hm.r19, hm.r23, hm.r24, hm.r25, hm.r26, hm.r29, hm.r30, hm.r31, hm.r33, hm.r34, hm.r35, hm.k73, hm.k74, hm.k75, hm.k76, hm.k77, hm.k78, hm.k79, hm.k80, hm.k81, hm.k82, hm.k83, hm.k84, hm.k85, hm.k86, hm.k87, hm.k88, hm.k89, hm.n73, hm.n74, hm.n75, hm.n76, hm.n77, hm.n78, hm.n79, hm.n80, hm.n81, hm.n82, hm.n83, hm.n84, hm.n85, hm.n86, hm.n87, hm.n88, hm.n89, ms.2, e73, e0, e]
theorem m_notes {d : Nat} {h : Hp} {S W : Int → Int} (ms : MS h S) (kv : KV h W) (h73 : 0 ≤ S 73 ∧ S 73 ≤ 10) : ∃ h', cal (d+1) m_Mod_notes [.inr (.inr (72))] (h) = some (.inl 0, h') ∧ MS h' (ntS W S) ∧ Fr (fun a _ => a = 73) h h' := by
  have hm := ms.1
  by_cases c : S 73 = 10
  · obtain ⟨h1, e1, k1, f1⟩ := m_notes_1 (d := d) (S := S) 0 (by omega) (by omega) h S ms (fun k _ => by rw [if_neg (by omega)])
    have ms1 : MS h1 (shS S) := ⟨hm.fr f1, k1⟩
    have ms2 : MS (pI h1 73 73 9) (up (shS S) 73 9) := MS.up (z := 73) ms1 (by omega)
    have kv1 : KV (pI h1 73 73 9) W := fun k hk => by rw [hI_pI, if_neg (by omega)]; exact kv.fr f1 (fun _ => by omega) k hk
    obtain ⟨h2, e2, k2, f2⟩ := m_notes_2 (d := d) (S := up (shS S) 73 9) (W := W) (n := 9) (by omega) (up_same _ _ _) 0 (by omega) (by omega) (pI h1 73 73 9) _ ms2 kv1 (fun k _ => by rw [if_neg (by omega)])
    have e : ntS W (up (shS S) 73 9) = ntS W S := by
      funext k
      unfold ntS
      rw [up_same, if_neg (by omega), if_pos c]
      by_cases q : k = 73
      · rw [if_pos q, if_pos q]; rfl
      · rw [if_neg q, if_neg q]
        by_cases q1 : 200 ≤ k ∧ k < 214
        · rw [if_pos (by omega), if_neg (by omega), if_pos q1]; congr 1; omega
        · rw [if_neg (by omega), up_ne q]
          unfold shS
          by_cases q2 : 74 ≤ k ∧ k < 200
          · rw [if_pos q2, if_pos q2]
          · rw [if_neg q2, if_neg q2, if_neg q1]
    refine ⟨h2, ?_, ⟨(hm.fr f1).mv f2.1 (fun k => f2.R 72 k), fun k => by rw [k2, e]⟩, f1.tr (Fr.tr (Fr.pI Fr.rf (by rfl)) f2)⟩
    show EX (d) m_Mod_notes 0 [(0, .inr (.inr (72)))] [] (h) = _
    have hs : shS S 73 = 10 := by unfold shS; rw [if_neg (by omega), c]
    simp (disch := omega) only [Mod_notes_0, Mod_notes_12, wr_id, ix_id, okx, if_pos, if_neg, Int.toNat_of_nonneg, bak_v, bak_n, wr_b01, wr_bt, b01_or, b01_0, b01_1, lc_lt0, lc_gt0, lc_eq0, wl_wr, wr_wr, wl_id, true_and, and_true, true_or, or_true, not_true_eq_false, not_false_eq_true, nc0, nc1, nc2, nc3, nc4, nc5, nc6, nc7, nc8, nc9, nc10, nc11, nc12, nc13, nc14, nc15, nc16, nc17, nc18, nc19, nc20, nc21, nc22, nc23, nc35, nc47, nc59, nc60, nc61, nc73, nc74, nc214, nc215, nc1115, nc2230, nc3345, if_true, if_false, Int.reduceToNat, hm.k, hm.r1, hm.r2, hm.r3, hm.r4, hm.r15, hm.r16, hm.r19, hm.r23, hm.r24, hm.r25, hm.r26, hm.r29, hm.r30, hm.r31, hm.r33, hm.r34, hm.r35, hm.k73, hm.k74, hm.k75, hm.k76, hm.k77, hm.k78, hm.k79, hm.k80, hm.k81, hm.k82, hm.k83, hm.k84, hm.k85, hm.k86, hm.k87, hm.k88, hm.k89, hm.n73, hm.n74, hm.n75, hm.n76, hm.n77, hm.n78, hm.n79, hm.n80, hm.n81, hm.n82, hm.n83, hm.n84, hm.n85, hm.n86, hm.n87, hm.n88, hm.n89, ms.2, c, e1]
    have hm := ms1.1
    simp (disch := omega) only [Mod_notes_44, Mod_notes_55, wr_id, ix_id, okx, if_pos, if_neg, Int.toNat_of_nonneg, bak_v, bak_n, wr_b01, wr_bt, b01_or, b01_0, b01_1, lc_lt0, lc_gt0, lc_eq0, wl_wr, wr_wr, wl_id, true_and, and_true, true_or, or_true, not_true_eq_false, not_false_eq_true, nc0, nc1, nc2, nc3, nc4, nc5, nc6, nc7, nc8, nc9, nc10, nc11, nc12, nc13, nc14, nc15, nc16, nc17, nc18, nc19, nc20, nc21, nc22, nc23, nc35, nc47, nc59, nc60, nc61, nc73, nc74, nc214, nc215, nc1115, nc2230, nc3345, if_true, if_false, Int.reduceToNat, hm.k, hm.r1, hm.r2, hm.r3, hm.r4, hm.r15, hm.r16, hm.r19, hm.r23, hm.r24, hm.r25, hm.r26, hm.r29, hm.r30, hm.r31, hm.r33, hm.r34, hm.r35, hm.k73, hm.k74, hm.k75, hm.k76, hm.k77, hm.k78, hm.k79, hm.k80, hm.k81, hm.k82, hm.k83, hm.k84, hm.k85, hm.k86, hm.k87, hm.k88, hm.k89, hm.n73, hm.n74, hm.n75, hm.n76, hm.n77, hm.n78, hm.n79, hm.n80, hm.n81, hm.n82, hm.n83, hm.n84, hm.n85, hm.n86, hm.n87, hm.n88, hm.n89, ms1.2, hs]
    exact e2
  · obtain ⟨h2, e2, k2, f2⟩ := m_notes_2 (d := d) (S := S) (W := W) (n := S 73) (by omega) rfl 0 (by omega) (by omega) h _ ms kv (fun k _ => by rw [if_neg (by omega)])
    refine ⟨h2, ?_, ⟨hm.fr f2, k2⟩, f2⟩
    show EX (d) m_Mod_notes 0 [(0, .inr (.inr (72)))] [] (h) = _
    simp (disch := omega) only [Mod_notes_0, Mod_notes_55, wr_id, ix_id, okx, if_pos, if_neg, Int.toNat_of_nonneg, bak_v, bak_n, wr_b01, wr_bt, b01_or, b01_0, b01_1, lc_lt0, lc_gt0, lc_eq0, wl_wr, wr_wr, wl_id, true_and, and_true, true_or, or_true, not_true_eq_false, not_false_eq_true, nc0, nc1, nc2, nc3, nc4, nc5, nc6, nc7, nc8, nc9, nc10, nc11, nc12, nc13, nc14, nc15, nc16, nc17, nc18, nc19, nc20, nc21, nc22, nc23, nc35, nc47, nc59, nc60, nc61, nc73, nc74, nc214, nc215, nc1115, nc2230, nc3345, if_true, if_false, Int.reduceToNat, hm.k, hm.r1, hm.r2, hm.r3, hm.r4, hm.r15, hm.r16, hm.r19, hm.r23, hm.r24, hm.r25, hm.r26, hm.r29, hm.r30, hm.r31, hm.r33, hm.r34, hm.r35, hm.k73, hm.k74, hm.k75, hm.k76, hm.k77, hm.k78, hm.k79, hm.k80, hm.k81, hm.k82, hm.k83, hm.k84, hm.k85, hm.k86, hm.k87, hm.k88, hm.k89, hm.n73, hm.n74, hm.n75, hm.n76, hm.n77, hm.n78, hm.n79, hm.n80, hm.n81, hm.n82, hm.n83, hm.n84, hm.n85, hm.n86, hm.n87, hm.n88, hm.n89, ms.2, e2]
