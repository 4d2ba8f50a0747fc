/-! the model's calls: answers over the row -/
def ansHook (S : Int → Int) (x u : Int) : Int := if ¬ (0 ≤ x ∧ x < S 1) then -2 else if u = 0 then S (61 + x) else if u = 1 then S (35 + x) else if u = 2 then (if x = S 1 - 1 then -1 else S (11 + x)) else if u = 3 then sagJ S x else if u = 4 then rtJ S x else -2
def ansRing (S : Int → Int) (r u : Int) : Int := if ¬ (0 ≤ r ∧ r < S 2) then -2 else if u = 0 then hookM S r else if u = 1 then S (47 + r) else if u = 2 then (if r = S 2 - 1 then -1 else S (23 + r)) else if u = 3 then bt (S 10) r else -2
def ansBel (S : Int → Int) (x y : Int) : Int := if ¬ (0 ≤ x ∧ x < S 1) ∨ ¬ (0 ≤ y ∧ y < S 2) then -2 else lawV S x y
theorem m_isRightNow {d : Nat} {h : Hp} {S : Int → Int} (ms : MS h S) (g : Gd S) (lo : LawOk S) {x : Int} (hx : 0 ≤ x ∧ x < S 1) : ∃ h', cal (d+3) m_Mod_isRightNow [.inr (.inr (72)), .inl (x)] (h) = some (.inl (rtJ S x), h') ∧ Fr (fun a _ => a = 77) h h' := by
  have hm := ms.1
  have ga := g.a
  have gb := g.b
  have gr := g.rg hx.1 (by omega)
  unfold rtJ b01
  by_cases c : S (61 + x) = -1
  · refine ⟨h, ?_, Fr.rf⟩
    show EX (d+2) m_Mod_isRightNow 0 [(0, .inr (.inr (72))), (1, .inl (x))] [] (h) = _
    simp (disch := omega) only [Mod_isRightNow_0, Mod_isRightNow_13, Mod_isRightNow_27, Mod_isRightNow_30, Mod_isRightNow_34, Mod_isRightNow_35, wr_id, ix_id, okx, if_pos, if_neg, Int.toNat_of_nonneg, bak_v, bak_n, wr_b01, wr_bt, b01_or, b01_0, b01_1, lc_lt0, lc_gt0, lc_eq0, wl_wr, wr_wr, wl_id, true_and, and_true, true_or, or_true, not_true_eq_false, not_false_eq_true, nc0, nc1, nc2, nc3, nc4, nc5, nc6, nc7, nc8, nc9, nc10, nc11, nc12, nc13, nc14, nc15, nc16, nc17, nc18, nc19, nc20, nc21, nc22, nc23, nc35, nc47, nc59, nc60, nc61, nc73, nc74, nc214, nc215, nc1115, nc2230, nc3345, if_true, if_false, Int.reduceToNat, hm.k, hm.r1, hm.r2, hm.r3, hm.r4, hm.r15, hm.r16, hm.r19, hm.r23, hm.r24, hm.r25, hm.r26, hm.r29, hm.r30, hm.r31, hm.r33, hm.r34, hm.r35, hm.k73, hm.k74, hm.k75, hm.k76, hm.k77, hm.k78, hm.k79, hm.k80, hm.k81, hm.k82, hm.k83, hm.k84, hm.k85, hm.k86, hm.k87, hm.k88, hm.k89, hm.n73, hm.n74, hm.n75, hm.n76, hm.n77, hm.n78, hm.n79, hm.n80, hm.n81, hm.n82, hm.n83, hm.n84, hm.n85, hm.n86, hm.n87, hm.n88, hm.n89, ms.2, c]
    simp
  · obtain ⟨h', e, f, q⟩ := m_isRight (d := d) ms g lo (x := x) (y := S (61 + x)) hx (by omega)
    refine ⟨h', ?_, f⟩
    show EX (d+2) m_Mod_isRightNow 0 [(0, .inr (.inr (72))), (1, .inl (x))] [] (h) = _
    simp (disch := omega) only [Mod_isRightNow_0, Mod_isRightNow_13, Mod_isRightNow_27, Mod_isRightNow_30, Mod_isRightNow_34, Mod_isRightNow_35, wr_id, ix_id, okx, if_pos, if_neg, Int.toNat_of_nonneg, bak_v, bak_n, wr_b01, wr_bt, b01_or, b01_0, b01_1, lc_lt0, lc_gt0, lc_eq0, wl_wr, wr_wr, wl_id, true_and, and_true, true_or, or_true, not_true_eq_false, not_false_eq_true, nc0, nc1, nc2, nc3, nc4, nc5, nc6, nc7, nc8, nc9, nc10, nc11, nc12, nc13, nc14, nc15, nc16, nc17, nc18, nc19, nc20, nc21, nc22, nc23, nc35, nc47, nc59, nc60, nc61, nc73, nc74, nc214, nc215, nc1115, nc2230, nc3345, if_true, if_false, Int.reduceToNat, hm.k, hm.r1, hm.r2, hm.r3, hm.r4, hm.r15, hm.r16, hm.r19, hm.r23, hm.r24, hm.r25, hm.r26, hm.r29, hm.r30, hm.r31, hm.r33, hm.r34, hm.r35, hm.k73, hm.k74, hm.k75, hm.k76, hm.k77, hm.k78, hm.k79, hm.k80, hm.k81, hm.k82, hm.k83, hm.k84, hm.k85, hm.k86, hm.k87, hm.k88, hm.k89, hm.n73, hm.n74, hm.n75, hm.n76, hm.n77, hm.n78, hm.n79, hm.n80, hm.n81, hm.n82, hm.n83, hm.n84, hm.n85, hm.n86, hm.n87, hm.n88, hm.n89, ms.2, e]
    rcases q with q | q <;> simp [q, c, wr]
theorem mm_hook {d : Nat} {h : Hp} {S G T rs rm nb : Int → Int} {n fk fp : Int} (mb : MB h S G T rs rm nb n fk fp) (g : Gd S) (lo : LawOk S) {x u : Int} (rx : -2147483648 ≤ x ∧ x ≤ 2147483647) (ru : -2147483648 ≤ u ∧ u ≤ 2147483647) : ∃ h', cal (d+4) m_Mod_hook [.inr (.inr (72)), .inl (x), .inl (u)] (h) = some (.inl (ansHook S x u), h') ∧ MB h' S G T rs rm nb n fk fp ∧ Fr wQ h h' := by
  have ms0 : MS (pI h 72 0 0) S := mb.1.o (by omega)
  have f0 : Fr wQ h (pI h 72 0 0) := f72 (by omega)
  have hk := mb.1.1.k
  have hm := ms0.1
  have ga := g.a
  have gb := g.b
  unfold ansHook
  by_cases c : 0 ≤ x ∧ x < S 1
  · rw [if_neg (by omega)]
    by_cases c4 : u = 4
    · obtain ⟨h', e, f⟩ := m_isRightNow (d := d) ms0 g lo c
      refine ⟨h', ?_, mb.fr (f0.tr (f77 f)) (ms0.q f (fun k => by omega)), f0.tr (f77 f)⟩
      show EX (d+3) m_Mod_hook 0 [(0, .inr (.inr (72))), (1, .inl (x)), (2, .inl (u))] [] (h) = _
      subst c4
      have rj : rtJ S x = 0 ∨ rtJ S x = 1 := of_eq_true (b01_or _)
      simp (disch := omega) only [Mod_hook_0, Mod_hook_5, Mod_hook_10, Mod_hook_13, Mod_hook_16, Mod_hook_52, Mod_hook_62, Mod_hook_72, Mod_hook_84, Mod_hook_88, Mod_hook_97, Mod_hook_98, Mod_hook_103, Mod_hook_104, Mod_hook_109, Mod_hook_112, Mod_hook_116, Mod_hook_117, Mod_hook_118, wr_id, ix_id, okx, if_pos, if_neg, Int.toNat_of_nonneg, bak_v, bak_n, wr_b01, wr_bt, b01_or, b01_0, b01_1, lc_lt0, lc_gt0, lc_eq0, wl_wr, wr_wr, wl_id, true_and, and_true, true_or, or_true, not_true_eq_false, not_false_eq_true, nc0, nc1, nc2, nc3, nc4, nc5, nc6, nc7, nc8, nc9, nc10, nc11, nc12, nc13, nc14, nc15, nc16, nc17, nc18, nc19, nc20, nc21, nc22, nc23, nc35, nc47, nc59, nc60, nc61, nc73, nc74, nc214, nc215, nc1115, nc2230, nc3345, if_true, if_false, Int.reduceToNat, hk, hm.k, hm.r1, hm.r2, hm.r3, hm.r4, hm.r15, hm.r16, hm.r19, hm.r23, hm.r24, hm.r25, hm.r26, hm.r29, hm.r30, hm.r31, hm.r33, hm.r34, hm.r35, hm.k73, hm.k74, hm.k75, hm.k76, hm.k77, hm.k78, hm.k79, hm.k80, hm.k81, hm.k82, hm.k83, hm.k84, hm.k85, hm.k86, hm.k87, hm.k88, hm.k89, hm.n73, hm.n74, hm.n75, hm.n76, hm.n77, hm.n78, hm.n79, hm.n80, hm.n81, hm.n82, hm.n83, hm.n84, hm.n85, hm.n86, hm.n87, hm.n88, hm.n89, m_isHook ms0 ga, e]
      rcases rj with q | q <;> simp [q, wr]
    · refine ⟨pI h 72 0 0, ?_, mb.fr f0 ms0, f0⟩
      show EX (d+3) m_Mod_hook 0 [(0, .inr (.inr (72))), (1, .inl (x)), (2, .inl (u))] [] (h) = _
      by_cases c0 : u = 0
      · subst c0; simp (disch := omega) only [Mod_hook_0, Mod_hook_5, Mod_hook_10, Mod_hook_13, Mod_hook_16, Mod_hook_52, Mod_hook_62, Mod_hook_72, Mod_hook_84, Mod_hook_88, Mod_hook_97, Mod_hook_98, Mod_hook_103, Mod_hook_104, Mod_hook_109, Mod_hook_112, Mod_hook_116, Mod_hook_117, Mod_hook_118, wr_id, ix_id, okx, if_pos, if_neg, Int.toNat_of_nonneg, bak_v, bak_n, wr_b01, wr_bt, b01_or, b01_0, b01_1, lc_lt0, lc_gt0, lc_eq0, wl_wr, wr_wr, wl_id, true_and, and_true, true_or, or_true, not_true_eq_false, not_false_eq_true, nc0, nc1, nc2, nc3, nc4, nc5, nc6, nc7, nc8, nc9, nc10, nc11, nc12, nc13, nc14, nc15, nc16, nc17, nc18, nc19, nc20, nc21, nc22, nc23, nc35, nc47, nc59, nc60, nc61, nc73, nc74, nc214, nc215, nc1115, nc2230, nc3345, if_true, if_false, Int.reduceToNat, hk, hm.k, hm.r1, hm.r2, hm.r3, hm.r4, hm.r15, hm.r16, hm.r19, hm.r23, hm.r24, hm.r25, hm.r26, hm.r29, hm.r30, hm.r31, hm.r33, hm.r34, hm.r35, hm.k73, hm.k74, hm.k75, hm.k76, hm.k77, hm.k78, hm.k79, hm.k80, hm.k81, hm.k82, hm.k83, hm.k84, hm.k85, hm.k86, hm.k87, hm.k88, hm.k89, hm.n73, hm.n74, hm.n75, hm.n76, hm.n77, hm.n78, hm.n79, hm.n80, hm.n81, hm.n82, hm.n83, hm.n84, hm.n85, hm.n86, hm.n87, hm.n88, hm.n89, m_isHook ms0 ga, ms0.2]
      · by_cases c1 : u = 1
        · subst c1; simp (disch := omega) only [Mod_hook_0, Mod_hook_5, Mod_hook_10, Mod_hook_13, Mod_hook_16, Mod_hook_52, Mod_hook_62, Mod_hook_72, Mod_hook_84, Mod_hook_88, Mod_hook_97, Mod_hook_98, Mod_hook_103, Mod_hook_104, Mod_hook_109, Mod_hook_112, Mod_hook_116, Mod_hook_117, Mod_hook_118, wr_id, ix_id, okx, if_pos, if_neg, Int.toNat_of_nonneg, bak_v, bak_n, wr_b01, wr_bt, b01_or, b01_0, b01_1, lc_lt0, lc_gt0, lc_eq0, wl_wr, wr_wr, wl_id, true_and, and_true, true_or, or_true, not_true_eq_false, not_false_eq_true, nc0, nc1, nc2, nc3, nc4, nc5, nc6, nc7, nc8, nc9, nc10, nc11, nc12, nc13, nc14, nc15, nc16, nc17, nc18, nc19, nc20, nc21, nc22, nc23, nc35, nc47, nc59, nc60, nc61, nc73, nc74, nc214, nc215, nc1115, nc2230, nc3345, if_true, if_false, Int.reduceToNat, hk, hm.k, hm.r1, hm.r2, hm.r3, hm.r4, hm.r15, hm.r16, hm.r19, hm.r23, hm.r24, hm.r25, hm.r26, hm.r29, hm.r30, hm.r31, hm.r33, hm.r34, hm.r35, hm.k73, hm.k74, hm.k75, hm.k76, hm.k77, hm.k78, hm.k79, hm.k80, hm.k81, hm.k82, hm.k83, hm.k84, hm.k85, hm.k86, hm.k87, hm.k88, hm.k89, hm.n73, hm.n74, hm.n75, hm.n76, hm.n77, hm.n78, hm.n79, hm.n80, hm.n81, hm.n82, hm.n83, hm.n84, hm.n85, hm.n86, hm.n87, hm.n88, hm.n89, m_isHook ms0 ga, ms0.2]
        · by_cases c2 : u = 2
          · subst c2; simp (disch := omega) only [Mod_hook_0, Mod_hook_5, Mod_hook_10, Mod_hook_13, Mod_hook_16, Mod_hook_52, Mod_hook_62, Mod_hook_72, Mod_hook_84, Mod_hook_88, Mod_hook_97, Mod_hook_98, Mod_hook_103, Mod_hook_104, Mod_hook_109, Mod_hook_112, Mod_hook_116, Mod_hook_117, Mod_hook_118, wr_id, ix_id, okx, if_pos, if_neg, Int.toNat_of_nonneg, bak_v, bak_n, wr_b01, wr_bt, b01_or, b01_0, b01_1, lc_lt0, lc_gt0, lc_eq0, wl_wr, wr_wr, wl_id, true_and, and_true, true_or, or_true, not_true_eq_false, not_false_eq_true, nc0, nc1, nc2, nc3, nc4, nc5, nc6, nc7, nc8, nc9, nc10, nc11, nc12, nc13, nc14, nc15, nc16, nc17, nc18, nc19, nc20, nc21, nc22, nc23, nc35, nc47, nc59, nc60, nc61, nc73, nc74, nc214, nc215, nc1115, nc2230, nc3345, if_true, if_false, Int.reduceToNat, hk, hm.k, hm.r1, hm.r2, hm.r3, hm.r4, hm.r15, hm.r16, hm.r19, hm.r23, hm.r24, hm.r25, hm.r26, hm.r29, hm.r30, hm.r31, hm.r33, hm.r34, hm.r35, hm.k73, hm.k74, hm.k75, hm.k76, hm.k77, hm.k78, hm.k79, hm.k80, hm.k81, hm.k82, hm.k83, hm.k84, hm.k85, hm.k86, hm.k87, hm.k88, hm.k89, hm.n73, hm.n74, hm.n75, hm.n76, hm.n77, hm.n78, hm.n79, hm.n80, hm.n81, hm.n82, hm.n83, hm.n84, hm.n85, hm.n86, hm.n87, hm.n88, hm.n89, m_isHook ms0 ga, ms0.2]
            by_cases c5 : x = S 1 - 1 <;> simp [c5]
          · by_cases c3 : u = 3
            · subst c3; simp (disch := omega) only [Mod_hook_0, Mod_hook_5, Mod_hook_10, Mod_hook_13, Mod_hook_16, Mod_hook_52, Mod_hook_62, Mod_hook_72, Mod_hook_84, Mod_hook_88, Mod_hook_97, Mod_hook_98, Mod_hook_103, Mod_hook_104, Mod_hook_109, Mod_hook_112, Mod_hook_116, Mod_hook_117, Mod_hook_118, wr_id, ix_id, okx, if_pos, if_neg, Int.toNat_of_nonneg, bak_v, bak_n, wr_b01, wr_bt, b01_or, b01_0, b01_1, lc_lt0, lc_gt0, lc_eq0, wl_wr, wr_wr, wl_id, true_and, and_true, true_or, or_true, not_true_eq_false, not_false_eq_true, nc0, nc1, nc2, nc3, nc4, nc5, nc6, nc7, nc8, nc9, nc10, nc11, nc12, nc13, nc14, nc15, nc16, nc17, nc18, nc19, nc20, nc21, nc22, nc23, nc35, nc47, nc59, nc60, nc61, nc73, nc74, nc214, nc215, nc1115, nc2230, nc3345, if_true, if_false, Int.reduceToNat, hk, hm.k, hm.r1, hm.r2, hm.r3, hm.r4, hm.r15, hm.r16, hm.r19, hm.r23, hm.r24, hm.r25, hm.r26, hm.r29, hm.r30, hm.r31, hm.r33, hm.r34, hm.r35, hm.k73, hm.k74, hm.k75, hm.k76, hm.k77, hm.k78, hm.k79, hm.k80, hm.k81, hm.k82, hm.k83, hm.k84, hm.k85, hm.k86, hm.k87, hm.k88, hm.k89, hm.n73, hm.n74, hm.n75, hm.n76, hm.n77, hm.n78, hm.n79, hm.n80, hm.n81, hm.n82, hm.n83, hm.n84, hm.n85, hm.n86, hm.n87, hm.n88, hm.n89, m_isHook ms0 ga, ms0.2, m_sagOf ms0 g]
            · simp (disch := omega) only [Mod_hook_0, Mod_hook_5, Mod_hook_10, Mod_hook_13, Mod_hook_16, Mod_hook_52, Mod_hook_62, Mod_hook_72, Mod_hook_84, Mod_hook_88, Mod_hook_97, Mod_hook_98, Mod_hook_103, Mod_hook_104, Mod_hook_109, Mod_hook_112, Mod_hook_116, Mod_hook_117, Mod_hook_118, wr_id, ix_id, okx, if_pos, if_neg, Int.toNat_of_nonneg, bak_v, bak_n, wr_b01, wr_bt, b01_or, b01_0, b01_1, lc_lt0, lc_gt0, lc_eq0, wl_wr, wr_wr, wl_id, true_and, and_true, true_or, or_true, not_true_eq_false, not_false_eq_true, nc0, nc1, nc2, nc3, nc4, nc5, nc6, nc7, nc8, nc9, nc10, nc11, nc12, nc13, nc14, nc15, nc16, nc17, nc18, nc19, nc20, nc21, nc22, nc23, nc35, nc47, nc59, nc60, nc61, nc73, nc74, nc214, nc215, nc1115, nc2230, nc3345, if_true, if_false, Int.reduceToNat, hk, hm.k, hm.r1, hm.r2, hm.r3, hm.r4, hm.r15, hm.r16, hm.r19, hm.r23, hm.r24, hm.r25, hm.r26, hm.r29, hm.r30, hm.r31, hm.r33, hm.r34, hm.r35, hm.k73, hm.k74, hm.k75, hm.k76, hm.k77, hm.k78, hm.k79, hm.k80, hm.k81, hm.k82, hm.k83, hm.k84, hm.k85, hm.k86, hm.k87, hm.k88, hm.k89, hm.n73, hm.n74, hm.n75, hm.n76, hm.n77, hm.n78, hm.n79, hm.n80, hm.n81, hm.n82, hm.n83, hm.n84, hm.n85, hm.n86, hm.n87, hm.n88, hm.n89, m_isHook ms0 ga, ms0.2]
  · refine ⟨pI h 72 0 0, ?_, mb.fr f0 ms0, f0⟩
    show EX (d+3) m_Mod_hook 0 [(0, .inr (.inr (72))), (1, .inl (x)), (2, .inl (u))] [] (h) = _
    simp (disch := omega) only [Mod_hook_0, Mod_hook_5, Mod_hook_10, Mod_hook_13, Mod_hook_16, Mod_hook_52, Mod_hook_62, Mod_hook_72, Mod_hook_84, Mod_hook_88, Mod_hook_97, Mod_hook_98, Mod_hook_103, Mod_hook_104, Mod_hook_109, Mod_hook_112, Mod_hook_116, Mod_hook_117, Mod_hook_118, wr_id, ix_id, okx, if_pos, if_neg, Int.toNat_of_nonneg, bak_v, bak_n, wr_b01, wr_bt, b01_or, b01_0, b01_1, lc_lt0, lc_gt0, lc_eq0, wl_wr, wr_wr, wl_id, true_and, and_true, true_or, or_true, not_true_eq_false, not_false_eq_true, nc0, nc1, nc2, nc3, nc4, nc5, nc6, nc7, nc8, nc9, nc10, nc11, nc12, nc13, nc14, nc15, nc16, nc17, nc18, nc19, nc20, nc21, nc22, nc23, nc35, nc47, nc59, nc60, nc61, nc73, nc74, nc214, nc215, nc1115, nc2230, nc3345, if_true, if_false, Int.reduceToNat, hk, hm.k, hm.r1, hm.r2, hm.r3, hm.r4, hm.r15, hm.r16, hm.r19, hm.r23, hm.r24, hm.r25, hm.r26, hm.r29, hm.r30, hm.r31, hm.r33, hm.r34, hm.r35, hm.k73, hm.k74, hm.k75, hm.k76, hm.k77, hm.k78, hm.k79, hm.k80, hm.k81, hm.k82, hm.k83, hm.k84, hm.k85, hm.k86, hm.k87, hm.k88, hm.k89, hm.n73, hm.n74, hm.n75, hm.n76, hm.n77, hm.n78, hm.n79, hm.n80, hm.n81, hm.n82, hm.n83, hm.n84, hm.n85, hm.n86, hm.n87, hm.n88, hm.n89, m_isHook ms0 ga]
theorem mm_ring {d : Nat} {h : Hp} {S G T rs rm nb : Int → Int} {n fk fp : Int} (mb : MB h S G T rs rm nb n fk fp) (g : Gd S) {x u : Int} (rx : -2147483648 ≤ x ∧ x ≤ 2147483647) (ru : -2147483648 ≤ u ∧ u ≤ 2147483647) : ∃ h', cal (d+4) m_Mod_ring [.inr (.inr (72)), .inl (x), .inl (u)] (h) = some (.inl (ansRing S x u), h') ∧ MB h' S G T rs rm nb n fk fp ∧ Fr wQ h h' := by
  have ms0 : MS (pI h 72 0 0) S := mb.1.o (by omega)
  have f0 : Fr wQ h (pI h 72 0 0) := f72 (by omega)
  have hk := mb.1.1.k
  have hm := ms0.1
  have ga := g.a
  have gb := g.b
  have gk := g.1.2.2.2.2.2.2.2.2.1
  unfold ansRing
  refine ⟨pI h 72 0 0, ?_, mb.fr f0 ms0, f0⟩
  show EX (d+3) m_Mod_ring 0 [(0, .inr (.inr (72))), (1, .inl (x)), (2, .inl (u))] [] (h) = _
  by_cases c : 0 ≤ x ∧ x < S 2
  · rw [if_neg (by omega)]
    by_cases c0 : u = 0
    · subst c0; simp (disch := omega) only [Mod_ring_0, Mod_ring_5, Mod_ring_11, Mod_ring_14, Mod_ring_17, Mod_ring_48, Mod_ring_56, Mod_ring_57, Mod_ring_67, Mod_ring_79, Mod_ring_83, Mod_ring_92, Mod_ring_93, Mod_ring_105, Mod_ring_108, Mod_ring_112, Mod_ring_113, Mod_ring_114, wr_id, ix_id, okx, if_pos, if_neg, Int.toNat_of_nonneg, bak_v, bak_n, wr_b01, wr_bt, b01_or, b01_0, b01_1, lc_lt0, lc_gt0, lc_eq0, wl_wr, wr_wr, wl_id, true_and, and_true, true_or, or_true, not_true_eq_false, not_false_eq_true, nc0, nc1, nc2, nc3, nc4, nc5, nc6, nc7, nc8, nc9, nc10, nc11, nc12, nc13, nc14, nc15, nc16, nc17, nc18, nc19, nc20, nc21, nc22, nc23, nc35, nc47, nc59, nc60, nc61, nc73, nc74, nc214, nc215, nc1115, nc2230, nc3345, if_true, if_false, Int.reduceToNat, hk, hm.k, hm.r1, hm.r2, hm.r3, hm.r4, hm.r15, hm.r16, hm.r19, hm.r23, hm.r24, hm.r25, hm.r26, hm.r29, hm.r30, hm.r31, hm.r33, hm.r34, hm.r35, hm.k73, hm.k74, hm.k75, hm.k76, hm.k77, hm.k78, hm.k79, hm.k80, hm.k81, hm.k82, hm.k83, hm.k84, hm.k85, hm.k86, hm.k87, hm.k88, hm.k89, hm.n73, hm.n74, hm.n75, hm.n76, hm.n77, hm.n78, hm.n79, hm.n80, hm.n81, hm.n82, hm.n83, hm.n84, hm.n85, hm.n86, hm.n87, hm.n88, hm.n89, m_isRing ms0 gb, ms0.2, m_hookAt ms0.rs ga.2 ga.1 g.rg']
    · by_cases c1 : u = 1
      · subst c1; simp (disch := omega) only [Mod_ring_0, Mod_ring_5, Mod_ring_11, Mod_ring_14, Mod_ring_17, Mod_ring_48, Mod_ring_56, Mod_ring_57, Mod_ring_67, Mod_ring_79, Mod_ring_83, Mod_ring_92, Mod_ring_93, Mod_ring_105, Mod_ring_108, Mod_ring_112, Mod_ring_113, Mod_ring_114, wr_id, ix_id, okx, if_pos, if_neg, Int.toNat_of_nonneg, bak_v, bak_n, wr_b01, wr_bt, b01_or, b01_0, b01_1, lc_lt0, lc_gt0, lc_eq0, wl_wr, wr_wr, wl_id, true_and, and_true, true_or, or_true, not_true_eq_false, not_false_eq_true, nc0, nc1, nc2, nc3, nc4, nc5, nc6, nc7, nc8, nc9, nc10, nc11, nc12, nc13, nc14, nc15, nc16, nc17, nc18, nc19, nc20, nc21, nc22, nc23, nc35, nc47, nc59, nc60, nc61, nc73, nc74, nc214, nc215, nc1115, nc2230, nc3345, if_true, if_false, Int.reduceToNat, hk, hm.k, hm.r1, hm.r2, hm.r3, hm.r4, hm.r15, hm.r16, hm.r19, hm.r23, hm.r24, hm.r25, hm.r26, hm.r29, hm.r30, hm.r31, hm.r33, hm.r34, hm.r35, hm.k73, hm.k74, hm.k75, hm.k76, hm.k77, hm.k78, hm.k79, hm.k80, hm.k81, hm.k82, hm.k83, hm.k84, hm.k85, hm.k86, hm.k87, hm.k88, hm.k89, hm.n73, hm.n74, hm.n75, hm.n76, hm.n77, hm.n78, hm.n79, hm.n80, hm.n81, hm.n82, hm.n83, hm.n84, hm.n85, hm.n86, hm.n87, hm.n88, hm.n89, m_isRing ms0 gb, ms0.2]
      · by_cases c2 : u = 2
        · subst c2; simp (disch := omega) only [Mod_ring_0, Mod_ring_5, Mod_ring_11, Mod_ring_14, Mod_ring_17, Mod_ring_48, Mod_ring_56, Mod_ring_57, Mod_ring_67, Mod_ring_79, Mod_ring_83, Mod_ring_92, Mod_ring_93, Mod_ring_105, Mod_ring_108, Mod_ring_112, Mod_ring_113, Mod_ring_114, wr_id, ix_id, okx, if_pos, if_neg, Int.toNat_of_nonneg, bak_v, bak_n, wr_b01, wr_bt, b01_or, b01_0, b01_1, lc_lt0, lc_gt0, lc_eq0, wl_wr, wr_wr, wl_id, true_and, and_true, true_or, or_true, not_true_eq_false, not_false_eq_true, nc0, nc1, nc2, nc3, nc4, nc5, nc6, nc7, nc8, nc9, nc10, nc11, nc12, nc13, nc14, nc15, nc16, nc17, nc18, nc19, nc20, nc21, nc22, nc23, nc35, nc47, nc59, nc60, nc61, nc73, nc74, nc214, nc215, nc1115, nc2230, nc3345, if_true, if_false, Int.reduceToNat, hk, hm.k, hm.r1, hm.r2, hm.r3, hm.r4, hm.r15, hm.r16, hm.r19, hm.r23, hm.r24, hm.r25, hm.r26, hm.r29, hm.r30, hm.r31, hm.r33, hm.r34, hm.r35, hm.k73, hm.k74, hm.k75, hm.k76, hm.k77, hm.k78, hm.k79, hm.k80, hm.k81, hm.k82, hm.k83, hm.k84, hm.k85, hm.k86, hm.k87, hm.k88, hm.k89, hm.n73, hm.n74, hm.n75, hm.n76, hm.n77, hm.n78, hm.n79, hm.n80, hm.n81, hm.n82, hm.n83, hm.n84, hm.n85, hm.n86, hm.n87, hm.n88, hm.n89, m_isRing ms0 gb, ms0.2]
          by_cases c5 : x = S 2 - 1 <;> simp [c5]
        · by_cases c3 : u = 3
          · subst c3; simp (disch := omega) only [Mod_ring_0, Mod_ring_5, Mod_ring_11, Mod_ring_14, Mod_ring_17, Mod_ring_48, Mod_ring_56, Mod_ring_57, Mod_ring_67, Mod_ring_79, Mod_ring_83, Mod_ring_92, Mod_ring_93, Mod_ring_105, Mod_ring_108, Mod_ring_112, Mod_ring_113, Mod_ring_114, wr_id, ix_id, okx, if_pos, if_neg, Int.toNat_of_nonneg, bak_v, bak_n, wr_b01, wr_bt, b01_or, b01_0, b01_1, lc_lt0, lc_gt0, lc_eq0, wl_wr, wr_wr, wl_id, true_and, and_true, true_or, or_true, not_true_eq_false, not_false_eq_true, nc0, nc1, nc2, nc3, nc4, nc5, nc6, nc7, nc8, nc9, nc10, nc11, nc12, nc13, nc14, nc15, nc16, nc17, nc18, nc19, nc20, nc21, nc22, nc23, nc35, nc47, nc59, nc60, nc61, nc73, nc74, nc214, nc215, nc1115, nc2230, nc3345, if_true, if_false, Int.reduceToNat, hk, hm.k, hm.r1, hm.r2, hm.r3, hm.r4, hm.r15, hm.r16, hm.r19, hm.r23, hm.r24, hm.r25, hm.r26, hm.r29, hm.r30, hm.r31, hm.r33, hm.r34, hm.r35, hm.k73, hm.k74, hm.k75, hm.k76, hm.k77, hm.k78, hm.k79, hm.k80, hm.k81, hm.k82, hm.k83, hm.k84, hm.k85, hm.k86, hm.k87, hm.k88, hm.k89, hm.n73, hm.n74, hm.n75, hm.n76, hm.n77, hm.n78, hm.n79, hm.n80, hm.n81, hm.n82, hm.n83, hm.n84, hm.n85, hm.n86, hm.n87, hm.n88, hm.n89, m_isRing ms0 gb, ms0.2, m_isIn]
            rcases bt_01 (S 10) x with q | q <;> simp [q]
          · simp (disch := omega) only [Mod_ring_0, Mod_ring_5, Mod_ring_11, Mod_ring_14, Mod_ring_17, Mod_ring_48, Mod_ring_56, Mod_ring_57, Mod_ring_67, Mod_ring_79, Mod_ring_83, Mod_ring_92, Mod_ring_93, Mod_ring_105, Mod_ring_108, Mod_ring_112, Mod_ring_113, Mod_ring_114, wr_id, ix_id, okx, if_pos, if_neg, Int.toNat_of_nonneg, bak_v, bak_n, wr_b01, wr_bt, b01_or, b01_0, b01_1, lc_lt0, lc_gt0, lc_eq0, wl_wr, wr_wr, wl_id, true_and, and_true, true_or, or_true, not_true_eq_false, not_false_eq_true, nc0, nc1, nc2, nc3, nc4, nc5, nc6, nc7, nc8, nc9, nc10, nc11, nc12, nc13, nc14, nc15, nc16, nc17, nc18, nc19, nc20, nc21, nc22, nc23, nc35, nc47, nc59, nc60, nc61, nc73, nc74, nc214, nc215, nc1115, nc2230, nc3345, if_true, if_false, Int.reduceToNat, hk, hm.k, hm.r1, hm.r2, hm.r3, hm.r4, hm.r15, hm.r16, hm.r19, hm.r23, hm.r24, hm.r25, hm.r26, hm.r29, hm.r30, hm.r31, hm.r33, hm.r34, hm.r35, hm.k73, hm.k74, hm.k75, hm.k76, hm.k77, hm.k78, hm.k79, hm.k80, hm.k81, hm.k82, hm.k83, hm.k84, hm.k85, hm.k86, hm.k87, hm.k88, hm.k89, hm.n73, hm.n74, hm.n75, hm.n76, hm.n77, hm.n78, hm.n79, hm.n80, hm.n81, hm.n82, hm.n83, hm.n84, hm.n85, hm.n86, hm.n87, hm.n88, hm.n89, m_isRing ms0 gb, ms0.2]
  · simp (disch := omega) only [Mod_ring_0, Mod_ring_5, Mod_ring_11, Mod_ring_14, Mod_ring_17, Mod_ring_48, Mod_ring_56, Mod_ring_57, Mod_ring_67, Mod_ring_79, Mod_ring_83, Mod_ring_92, Mod_ring_93, Mod_ring_105, Mod_ring_108, Mod_ring_112, Mod_ring_113, Mod_ring_114, wr_id, ix_id, okx, if_pos, if_neg, Int.toNat_of_nonneg, bak_v, bak_n, wr_b01, wr_bt, b01_or, b01_0, b01_1, lc_lt0, lc_gt0, lc_eq0, wl_wr, wr_wr, wl_id, true_and, and_true, true_or, or_true, not_true_eq_false, not_false_eq_true, nc0, nc1, nc2, nc3, nc4, nc5, nc6, nc7, nc8, nc9, nc10, nc11, nc12, nc13, nc14, nc15, nc16, nc17, nc18, nc19, nc20, nc21, nc22, nc23, nc35, nc47, nc59, nc60, nc61, nc73, nc74, nc214, nc215, nc1115, nc2230, nc3345, if_true, if_false, Int.reduceToNat, hk, hm.k, hm.r1, hm.r2, hm.r3, hm.r4, hm.r15, hm.r16, hm.r19, hm.r23, hm.r24, hm.r25, hm.r26, hm.r29, hm.r30, hm.r31, hm.r33, hm.r34, hm.r35, hm.k73, hm.k74, hm.k75, hm.k76, hm.k77, hm.k78, hm.k79, hm.k80, hm.k81, hm.k82, hm.k83, hm.k84, hm.k85, hm.k86, hm.k87, hm.k88, hm.k89, hm.n73, hm.n74, hm.n75, hm.n76, hm.n77, hm.n78, hm.n79, hm.n80, hm.n81, hm.n82, hm.n83, hm.n84, hm.n85, hm.n86, hm.n87, hm.n88, hm.n89, m_isRing ms0 gb]
theorem mm_belongs {d : Nat} {h : Hp} {S G T rs rm nb : Int → Int} {n fk fp : Int} (mb : MB h S G T rs rm nb n fk fp) (g : Gd S) (lo : LawOk S) {x y : Int} (rx : -2147483648 ≤ x ∧ x ≤ 2147483647) (ry : -2147483648 ≤ y ∧ y ≤ 2147483647) : ∃ h', cal (d+4) m_Mod_belongs [.inr (.inr (72)), .inl (x), .inl (y)] (h) = some (.inl (ansBel S x y), h') ∧ MB h' S G T rs rm nb n fk fp ∧ Fr wQ h h' := by
  have ms0 : MS (pI h 72 0 0) S := mb.1.o (by omega)
  have f0 : Fr wQ h (pI h 72 0 0) := f72 (by omega)
  have hk := mb.1.1.k
  have hm := ms0.1
  have ga := g.a
  have gb := g.b
  unfold ansBel
  by_cases c : (0 ≤ x ∧ x < S 1) ∧ (0 ≤ y ∧ y < S 2)
  · obtain ⟨h', e, f, q⟩ := m_isRight (d := d + 1) ms0 g lo c.1 c.2
    rw [if_neg (by omega)]
    refine ⟨h', ?_, mb.fr (f0.tr (f77 f)) (ms0.q f (fun k => by omega)), f0.tr (f77 f)⟩
    show EX (d+3) m_Mod_belongs 0 [(0, .inr (.inr (72))), (1, .inl (x)), (2, .inl (y))] [] (h) = _
    simp (disch := omega) only [Mod_belongs_0, Mod_belongs_5, Mod_belongs_10, Mod_belongs_13, Mod_belongs_19, Mod_belongs_22, Mod_belongs_25, Mod_belongs_31, Mod_belongs_34, Mod_belongs_38, Mod_belongs_39, wr_id, ix_id, okx, if_pos, if_neg, Int.toNat_of_nonneg, bak_v, bak_n, wr_b01, wr_bt, b01_or, b01_0, b01_1, lc_lt0, lc_gt0, lc_eq0, wl_wr, wr_wr, wl_id, true_and, and_true, true_or, or_true, not_true_eq_false, not_false_eq_true, nc0, nc1, nc2, nc3, nc4, nc5, nc6, nc7, nc8, nc9, nc10, nc11, nc12, nc13, nc14, nc15, nc16, nc17, nc18, nc19, nc20, nc21, nc22, nc23, nc35, nc47, nc59, nc60, nc61, nc73, nc74, nc214, nc215, nc1115, nc2230, nc3345, if_true, if_false, Int.reduceToNat, hk, hm.k, hm.r1, hm.r2, hm.r3, hm.r4, hm.r15, hm.r16, hm.r19, hm.r23, hm.r24, hm.r25, hm.r26, hm.r29, hm.r30, hm.r31, hm.r33, hm.r34, hm.r35, hm.k73, hm.k74, hm.k75, hm.k76, hm.k77, hm.k78, hm.k79, hm.k80, hm.k81, hm.k82, hm.k83, hm.k84, hm.k85, hm.k86, hm.k87, hm.k88, hm.k89, hm.n73, hm.n74, hm.n75, hm.n76, hm.n77, hm.n78, hm.n79, hm.n80, hm.n81, hm.n82, hm.n83, hm.n84, hm.n85, hm.n86, hm.n87, hm.n88, hm.n89, m_isHook ms0 ga, m_isRing ms0 gb, e]
    rcases q with q | q <;> simp [q, wr]
  · refine ⟨pI h 72 0 0, ?_, mb.fr f0 ms0, f0⟩
    rw [if_pos (by omega)]
    show EX (d+3) m_Mod_belongs 0 [(0, .inr (.inr (72))), (1, .inl (x)), (2, .inl (y))] [] (h) = _
    by_cases c1 : 0 ≤ x ∧ x < S 1
    · simp (disch := omega) only [Mod_belongs_0, Mod_belongs_5, Mod_belongs_10, Mod_belongs_13, Mod_belongs_19, Mod_belongs_22, Mod_belongs_25, Mod_belongs_31, Mod_belongs_34, Mod_belongs_38, Mod_belongs_39, wr_id, ix_id, okx, if_pos, if_neg, Int.toNat_of_nonneg, bak_v, bak_n, wr_b01, wr_bt, b01_or, b01_0, b01_1, lc_lt0, lc_gt0, lc_eq0, wl_wr, wr_wr, wl_id, true_and, and_true, true_or, or_true, not_true_eq_false, not_false_eq_true, nc0, nc1, nc2, nc3, nc4, nc5, nc6, nc7, nc8, nc9, nc10, nc11, nc12, nc13, nc14, nc15, nc16, nc17, nc18, nc19, nc20, nc21, nc22, nc23, nc35, nc47, nc59, nc60, nc61, nc73, nc74, nc214, nc215, nc1115, nc2230, nc3345, if_true, if_false, Int.reduceToNat, hk, hm.k, hm.r1, hm.r2, hm.r3, hm.r4, hm.r15, hm.r16, hm.r19, hm.r23, hm.r24, hm.r25, hm.r26, hm.r29, hm.r30, hm.r31, hm.r33, hm.r34, hm.r35, hm.k73, hm.k74, hm.k75, hm.k76, hm.k77, hm.k78, hm.k79, hm.k80, hm.k81, hm.k82, hm.k83, hm.k84, hm.k85, hm.k86, hm.k87, hm.k88, hm.k89, hm.n73, hm.n74, hm.n75, hm.n76, hm.n77, hm.n78, hm.n79, hm.n80, hm.n81, hm.n82, hm.n83, hm.n84, hm.n85, hm.n86, hm.n87, hm.n88, hm.n89, m_isHook ms0 ga, m_isRing ms0 gb]
    · simp (disch := omega) only [Mod_belongs_0, Mod_belongs_5, Mod_belongs_10, Mod_belongs_13, Mod_belongs_19, Mod_belongs_22, Mod_belongs_25, Mod_belongs_31, Mod_belongs_34, Mod_belongs_38, Mod_belongs_39, wr_id, ix_id, okx, if_pos, if_neg, Int.toNat_of_nonneg, bak_v, bak_n, wr_b01, wr_bt, b01_or, b01_0, b01_1, lc_lt0, lc_gt0, lc_eq0, wl_wr, wr_wr, wl_id, true_and, and_true, true_or, or_true, not_true_eq_false, not_false_eq_true, nc0, nc1, nc2, nc3, nc4, nc5, nc6, nc7, nc8, nc9, nc10, nc11, nc12, nc13, nc14, nc15, nc16, nc17, nc18, nc19, nc20, nc21, nc22, nc23, nc35, nc47, nc59, nc60, nc61, nc73, nc74, nc214, nc215, nc1115, nc2230, nc3345, if_true, if_false, Int.reduceToNat, hk, hm.k, hm.r1, hm.r2, hm.r3, hm.r4, hm.r15, hm.r16, hm.r19, hm.r23, hm.r24, hm.r25, hm.r26, hm.r29, hm.r30, hm.r31, hm.r33, hm.r34, hm.r35, hm.k73, hm.k74, hm.k75, hm.k76, hm.k77, hm.k78, hm.k79, hm.k80, hm.k81, hm.k82, hm.k83, hm.k84, hm.k85, hm.k86, hm.k87, hm.k88, hm.k89, hm.n73, hm.n74, hm.n75, hm.n76, hm.n77, hm.n78, hm.n79, hm.n80, hm.n81, hm.n82, hm.n83, hm.n84, hm.n85, hm.n86, hm.n87, hm.n88, hm.n89, m_isHook ms0 ga, m_isRing ms0 gb]
theorem mm_why {d : Nat} {h : Hp} {S G T rs rm nb : Int → Int} {n fk fp : Int} (mb : MB h S G T rs rm nb n fk fp) (g : Gd S) {x y : Int} (rx : -2147483648 ≤ x ∧ x ≤ 2147483647) (ry : -2147483648 ≤ y ∧ y ≤ 2147483647) : ∃ h', cal (d+3) m_Mod_why [.inr (.inr (72)), .inl (x), .inl (y)] (h) = some (.inl (whyM S x y), h') ∧ MB h' S G T rs rm nb n fk fp ∧ Fr wQ h h' := by
  have ms0 : MS (pI h 72 0 0) S := mb.1.o (by omega)
  have f0 : Fr wQ h (pI h 72 0 0) := f72 (by omega)
  have hk := mb.1.1.k
  have hm := ms0.1
  refine ⟨pI h 72 0 0, ?_, mb.fr f0 ms0, f0⟩
  show EX (d+2) m_Mod_why 0 [(0, .inr (.inr (72))), (1, .inl (x)), (2, .inl (y))] [] (h) = _
  simp (disch := omega) only [Mod_why_0, Mod_why_5, Mod_why_14, wr_id, ix_id, okx, if_pos, if_neg, Int.toNat_of_nonneg, bak_v, bak_n, wr_b01, wr_bt, b01_or, b01_0, b01_1, lc_lt0, lc_gt0, lc_eq0, wl_wr, wr_wr, wl_id, true_and, and_true, true_or, or_true, not_true_eq_false, not_false_eq_true, nc0, nc1, nc2, nc3, nc4, nc5, nc6, nc7, nc8, nc9, nc10, nc11, nc12, nc13, nc14, nc15, nc16, nc17, nc18, nc19, nc20, nc21, nc22, nc23, nc35, nc47, nc59, nc60, nc61, nc73, nc74, nc214, nc215, nc1115, nc2230, nc3345, if_true, if_false, Int.reduceToNat, hk, hm.k, hm.r1, m_whyNot ms0.rs g]
def ansJoin (S : Int → Int) (x y : Int) : Int := if whyM S x y = 0 then scA S (S 59) y else -10 - whyM S x y
def rowJoin (S : Int → Int) (x y : Int) : Int → Int := if whyM S x y = 0 then ntS S (joinS S x y) else S
theorem mm_join {d : Nat} {h : Hp} {S G T rs rm nb : Int → Int} {n fk fp : Int} (mb : MB h S G T rs rm nb n fk fp) (g : Gd S) (h73 : 0 ≤ S 73 ∧ S 73 ≤ 10) {x y : Int} (rx : -2147483648 ≤ x ∧ x ≤ 2147483647) (ry : -2147483648 ≤ y ∧ y ≤ 2147483647) : ∃ h', cal (d+5) m_Mod_join [.inr (.inr (72)), .inl (x), .inl (y)] (h) = some (.inl (ansJoin S x y), h') ∧ MB h' (rowJoin S x y) G T rs rm nb n fk fp ∧ Fr wQ h h' := by
  have ms0 : MS (pI h 72 0 0) S := mb.1.o (by omega)
  have f0 : Fr wQ h (pI h 72 0 0) := f72 (by omega)
  have hk := mb.1.1.k
  have hm := ms0.1
  have wr' := whyM_rng S x y
  have g59 := g.2.1
  have ga := g.a
  have gb := g.b
  unfold ansJoin rowJoin
  by_cases c : whyM S x y = 0
  · rw [if_pos c, if_pos c]
    have w0 := whyM_0 g c
    obtain ⟨h1, e1, k1, f1⟩ := m_keeps (d := d + 3) ms0
    have ms1 := ms0.q f1 (fun k => by omega)
    obtain ⟨h2, e2, ms2, f2⟩ := m_joins (d := d) ms1 g.1 (by omega) (x := x) (y := y) (by omega) (by omega)
    have k2 := k1.fr f2 (fun k => by omega)
    obtain ⟨h3, e3, ms3, f3⟩ := m_notes (d := d + 3) ms2 k2 (by rw [joinS_ah S (by omega) 73 (by omega)]; exact h73)
    have hm1 := ms1.1
    have hm2 := ms2.1
    have hm3 := ms3.1
    have ff := (f0.tr (f78 f1)).tr ((f73 f2).tr (f73 f3))
    refine ⟨h3, ?_, mb.fr ff ms3, ff⟩
    show EX (d+4) m_Mod_join 0 [(0, .inr (.inr (72))), (1, .inl (x)), (2, .inl (y))] [] (h) = _
    have e78 : hI h3 78 1 = S 60 := by rw [f3.I (by omega)]; exact k2 1 (by omega)
    have e60 : ntS S (joinS S x y) 60 = S 60 + scA S (S 59) y := by
      unfold ntS
      rw [joinS_ah S (by omega) 73 (by omega)]
      have : joinS S x y 60 = S 60 + scA S (S 59) y := by unfold joinS; rw [up_ne (by omega), goS_60]
      split
      · rw [if_neg (by omega), if_neg (by omega), if_neg (by omega), this]
      · rw [if_neg (by omega), if_neg (by omega), this]
    simp (disch := omega) only [Mod_join_0, Mod_join_5, Mod_join_14, Mod_join_19, Mod_join_24, Mod_join_28, Mod_join_34, Mod_join_38, wr_id, ix_id, okx, if_pos, if_neg, Int.toNat_of_nonneg, bak_v, bak_n, wr_b01, wr_bt, b01_or, b01_0, b01_1, lc_lt0, lc_gt0, lc_eq0, wl_wr, wr_wr, wl_id, true_and, and_true, true_or, or_true, not_true_eq_false, not_false_eq_true, nc0, nc1, nc2, nc3, nc4, nc5, nc6, nc7, nc8, nc9, nc10, nc11, nc12, nc13, nc14, nc15, nc16, nc17, nc18, nc19, nc20, nc21, nc22, nc23, nc35, nc47, nc59, nc60, nc61, nc73, nc74, nc214, nc215, nc1115, nc2230, nc3345, if_true, if_false, Int.reduceToNat, hk, hm.k, hm.r1, m_whyNot ms0.rs g, c, e1, hm1.k, e2, hm2.k, e3, hm3.k, hm3.r1, hm3.r16, hm3.k73, hm3.k78, hm3.n73, hm3.n78, ms3.2, e78, e60]
    rw [show S 60 + scA S (S 59) y - S 60 = scA S (S 59) y by omega]
  · rw [if_neg c, if_neg c]
    refine ⟨pI h 72 0 0, ?_, mb.fr f0 ms0, f0⟩
    show EX (d+4) m_Mod_join 0 [(0, .inr (.inr (72))), (1, .inl (x)), (2, .inl (y))] [] (h) = _
    simp (disch := omega) only [Mod_join_0, Mod_join_5, Mod_join_14, Mod_join_19, Mod_join_24, Mod_join_28, Mod_join_34, Mod_join_38, wr_id, ix_id, okx, if_pos, if_neg, Int.toNat_of_nonneg, bak_v, bak_n, wr_b01, wr_bt, b01_or, b01_0, b01_1, lc_lt0, lc_gt0, lc_eq0, wl_wr, wr_wr, wl_id, true_and, and_true, true_or, or_true, not_true_eq_false, not_false_eq_true, nc0, nc1, nc2, nc3, nc4, nc5, nc6, nc7, nc8, nc9, nc10, nc11, nc12, nc13, nc14, nc15, nc16, nc17, nc18, nc19, nc20, nc21, nc22, nc23, nc35, nc47, nc59, nc60, nc61, nc73, nc74, nc214, nc215, nc1115, nc2230, nc3345, if_true, if_false, Int.reduceToNat, hk, hm.k, hm.r1, m_whyNot ms0.rs g]
def ansOff (S : Int → Int) (x : Int) : Int := if offM S x = 0 then scA S (S 59) (S (61 + x)) else -10 - offM S x
def rowOff (S : Int → Int) (x : Int) : Int → Int := if offM S x = 0 then ntS S (offS S x) else S
theorem mm_unhook {d : Nat} {h : Hp} {S G T rs rm nb : Int → Int} {n fk fp : Int} (mb : MB h S G T rs rm nb n fk fp) (g : Gd S) (h73 : 0 ≤ S 73 ∧ S 73 ≤ 10) {x : Int} (rx : -2147483648 ≤ x ∧ x ≤ 2147483647) : ∃ h', cal (d+5) m_Mod_unhook [.inr (.inr (72)), .inl (x)] (h) = some (.inl (ansOff S x), h') ∧ MB h' (rowOff S x) G T rs rm nb n fk fp ∧ Fr wQ h h' := by
  have ms0 : MS (pI h 72 0 0) S := mb.1.o (by omega)
  have f0 : Fr wQ h (pI h 72 0 0) := f72 (by omega)
  have hk := mb.1.1.k
  have hm := ms0.1
  have wr' := offM_rng S x
  have g59 := g.2.1
  have ga := g.a
  have gb := g.b
  unfold ansOff rowOff
  by_cases c : offM S x = 0
  · rw [if_pos c, if_pos c]
    have w0 := offM_0 c
    have gx := g.rg w0.1.1 (by omega)
    obtain ⟨h1, e1, k1, f1⟩ := m_keeps (d := d + 3) ms0
    have ms1 := ms0.q f1 (fun k => by omega)
    obtain ⟨h2, e2, ms2, f2⟩ := m_unhooks (d := d) ms1 g.1 (by omega) (x := x) (by omega) (by omega)
    have k2 := k1.fr f2 (fun k => by omega)
    obtain ⟨h3, e3, ms3, f3⟩ := m_notes (d := d + 3) ms2 k2 (by rw [offS_ah S (by omega) 73 (by omega)]; exact h73)
    have hm1 := ms1.1
    have hm2 := ms2.1
    have hm3 := ms3.1
    have ff := (f0.tr (f78 f1)).tr ((f73 f2).tr (f73 f3))
    refine ⟨h3, ?_, mb.fr ff ms3, ff⟩
    show EX (d+4) m_Mod_unhook 0 [(0, .inr (.inr (72))), (1, .inl (x))] [] (h) = _
    have e78 : hI h3 78 1 = S 60 := by rw [f3.I (by omega)]; exact k2 1 (by omega)
    have e60 : ntS S (offS S x) 60 = S 60 + scA S (S 59) (S (61 + x)) := by
      unfold ntS
      rw [offS_ah S (by omega) 73 (by omega)]
      have : offS S x 60 = S 60 + scA S (S 59) (S (61 + x)) := by unfold offS; rw [up_ne (by omega), goS_60]
      split
      · rw [if_neg (by omega), if_neg (by omega), if_neg (by omega), this]
      · rw [if_neg (by omega), if_neg (by omega), this]
    simp (disch := omega) only [Mod_unhook_0, Mod_unhook_5, Mod_unhook_10, Mod_unhook_15, Mod_unhook_20, Mod_unhook_24, Mod_unhook_29, Mod_unhook_33, wr_id, ix_id, okx, if_pos, if_neg, Int.toNat_of_nonneg, bak_v, bak_n, wr_b01, wr_bt, b01_or, b01_0, b01_1, lc_lt0, lc_gt0, lc_eq0, wl_wr, wr_wr, wl_id, true_and, and_true, true_or, or_true, not_true_eq_false, not_false_eq_true, nc0, nc1, nc2, nc3, nc4, nc5, nc6, nc7, nc8, nc9, nc10, nc11, nc12, nc13, nc14, nc15, nc16, nc17, nc18, nc19, nc20, nc21, nc22, nc23, nc35, nc47, nc59, nc60, nc61, nc73, nc74, nc214, nc215, nc1115, nc2230, nc3345, if_true, if_false, Int.reduceToNat, hk, hm.k, hm.r1, m_whyNotOff ms0 g, c, e1, hm1.k, e2, hm2.k, e3, hm3.k, hm3.r1, hm3.r16, hm3.k73, hm3.k78, hm3.n73, hm3.n78, ms3.2, e78, e60]
    rw [show S 60 + scA S (S 59) (S (61 + x)) - S 60 = scA S (S 59) (S (61 + x)) by omega]
  · rw [if_neg c, if_neg c]
    refine ⟨pI h 72 0 0, ?_, mb.fr f0 ms0, f0⟩
    show EX (d+4) m_Mod_unhook 0 [(0, .inr (.inr (72))), (1, .inl (x))] [] (h) = _
    simp (disch := omega) only [Mod_unhook_0, Mod_unhook_5, Mod_unhook_10, Mod_unhook_15, Mod_unhook_20, Mod_unhook_24, Mod_unhook_29, Mod_unhook_33, wr_id, ix_id, okx, if_pos, if_neg, Int.toNat_of_nonneg, bak_v, bak_n, wr_b01, wr_bt, b01_or, b01_0, b01_1, lc_lt0, lc_gt0, lc_eq0, wl_wr, wr_wr, wl_id, true_and, and_true, true_or, or_true, not_true_eq_false, not_false_eq_true, nc0, nc1, nc2, nc3, nc4, nc5, nc6, nc7, nc8, nc9, nc10, nc11, nc12, nc13, nc14, nc15, nc16, nc17, nc18, nc19, nc20, nc21, nc22, nc23, nc35, nc47, nc59, nc60, nc61, nc73, nc74, nc214, nc215, nc1115, nc2230, nc3345, if_true, if_false, Int.reduceToNat, hk, hm.k, hm.r1, m_whyNotOff ms0 g]
