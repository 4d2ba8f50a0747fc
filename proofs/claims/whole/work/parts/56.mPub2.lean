/-! the model's calls: undo, judge, perform, day, sags, pleats, count, fault -/
def rowUndo (S : Int → Int) (n : Int) : Int → Int := if 1 ≤ n ∧ n ≤ 10 ∧ n ≤ S 73 then unS S n else S
def ansUndo (S : Int → Int) (n : Int) : Int := if 1 ≤ n ∧ n ≤ 10 ∧ n ≤ S 73 then S 73 - n else -3
theorem m_undo_l {d : Nat} {S : Int → Int} {n : Int} (hn : 0 ≤ S 73 - n ∧ S 73 - n < 10) : ∀ i, 0 ≤ i → i ≤ 14 → ∀ h U, MS h U → U 73 = S 73 - n → (∀ k, 0 ≤ k → ¬ k = 73 → U k = if 59 ≤ k ∧ k < 59 + i then S (74 + 14 * (S 73 - n) + (k - 59)) else S k) → ∃ h', EX (d) m_Mod_undo 44 [(0, .inr (.inr (72))), (2, .inl (i))] [] (h) = some (.inl (S 73 - n), h') ∧ (∀ k : Nat, hI h' 73 k = unS S n k) ∧ Fr (fun a _ => a = 73) h h' := by
  refine up_ind (hi := 14) ?_ ?_
  · intro i hi h0 h1 h U ms h73 hk
    have hm := ms.1
    refine ⟨h, ?_, fun k => ?_, Fr.rf⟩
    · rw [Mod_undo_44]
      simp (disch := omega) only [Mod_undo_85, wr_id, ix_id, okx, if_pos, if_neg, Int.toNat_of_nonneg, bak_v, bak_n, wr_b01, wr_bt, b01_or, b01_0, b01_1, lc_lt0, lc_gt0, lc_eq0, wl_wr, wr_wr, wl_id, true_and, and_true, true_or, or_true, not_true_eq_false, not_false_eq_true, nc0, nc1, nc2, nc3, nc4, nc5, nc6, nc7, nc8, nc9, nc10, nc11, nc12, nc13, nc14, nc15, nc16, nc17, nc18, nc19, nc20, nc21, nc22, nc23, nc35, nc47, nc59, nc60, nc61, nc73, nc74, nc214, nc215, nc1115, nc2230, nc3345, if_true, if_false, Int.reduceToNat, hm.k, hm.r1, hm.r2, hm.r3, hm.r4, hm.r15, hm.r16, hm.r19, hm.r23, hm.r24, hm.r25, hm.r26, hm.r29, hm.r30, hm.r31, hm.r33, hm.r34, hm.r35, hm.k73, hm.k74, hm.k75, hm.k76, hm.k77, hm.k78, hm.k79, hm.k80, hm.k81, hm.k82, hm.k83, hm.k84, hm.k85, hm.k86, hm.k87, hm.k88, hm.k89, hm.n73, hm.n74, hm.n75, hm.n76, hm.n77, hm.n78, hm.n79, hm.n80, hm.n81, hm.n82, hm.n83, hm.n84, hm.n85, hm.n86, hm.n87, hm.n88, hm.n89, ms.2, h73]
    · rw [ms.2]
      unfold unS
      by_cases c : (k : Int) = 73
      · rw [if_pos c, c]; exact h73
      · rw [if_neg c, hk _ (by omega) c, show i = 14 by omega]
        rfl
  · intro i hi ih h0 h1 h U ms h73 hk
    have hm := ms.1
    have e0 : U (74 + 14 * (S 73 - n) + i) = S (74 + 14 * (S 73 - n) + i) := by rw [hk _ (by omega) (by omega), if_neg (by omega)]
    obtain ⟨h', e, k1, f1⟩ := ih (by omega) (by omega) (pI h 73 (59 + i).toNat (S (74 + 14 * (S 73 - n) + i))) (up U (59 + i) (S (74 + 14 * (S 73 - n) + i))) (ms.up (by omega)) (by rw [up_ne (by omega)]; exact h73) (fun k q q' => by
      by_cases c : k = 59 + i
      · rw [c, up_same, if_pos (by omega)]; congr 1; omega
      · rw [up_ne c, hk k q q']
        by_cases c2 : 59 ≤ k ∧ k < 59 + i
        · rw [if_pos c2, if_pos (by omega)]
        · rw [if_neg c2, if_neg (by omega)])
    refine ⟨h', ?_, k1, Fr.tr (Fr.pI Fr.rf (by rfl)) f1⟩
    rw [Mod_undo_44]
    simp (disch := omega) only [Mod_undo_50, Mod_undo_79, wr_id, ix_id, okx, if_pos, if_neg, Int.toNat_of_nonneg, bak_v, bak_n, wr_b01, wr_bt, b01_or, b01_0, b01_1, lc_lt0, lc_gt0, lc_eq0, wl_wr, wr_wr, wl_id, true_and, and_true, true_or, or_true, not_true_eq_false, not_false_eq_true, nc0, nc1, nc2, nc3, nc4, nc5, nc6, nc7, nc8, nc9, nc10, nc11, nc12, nc13, nc14, nc15, nc16, nc17, nc18, nc19, nc20, nc21, nc22, nc23, nc35, nc47, nc59, nc60, nc61, nc73, nc74, nc214, nc215, nc1115, nc2230, nc3345, if_true, if_false, Int.reduceToNat, hm.k, hm.r1, hm.r2, hm.r3, hm.r4, hm.r15, hm.r16, hm.r19, hm.r23, hm.r24, hm.r25, hm.r26, hm.r29, hm.r30, hm.r31, hm.r33, hm.r34, hm.r35, hm.k73, hm.k74, hm.k75, hm.k76, hm.k77, hm.k78, hm.k79, hm.k80, hm.k81, hm.k82, hm.k83, hm.k84, hm.k85, hm.k86, hm.k87, hm.k88, hm.k89, hm.n73, hm.n74, hm.n75, hm.n76, hm.n77, hm.n78, hm.n79, hm.n80, hm.n81, hm.n82, hm.n83, hm.n84, hm.n85, hm.n86, hm.n87, hm.n88, hm.n89, ms.2, h73, e0, e]
theorem mm_undo {d : Nat} {h : Hp} {S G T rs rm nb : Int → Int} {n fk fp : Int} (mb : MB h S G T rs rm nb n fk fp) (h73 : 0 ≤ S 73 ∧ S 73 ≤ 10) {x : Int} (rx : -2147483648 ≤ x ∧ x ≤ 2147483647) : ∃ h', cal (d+2) m_Mod_undo [.inr (.inr (72)), .inl (x)] (h) = some (.inl (ansUndo S x), h') ∧ MB h' (rowUndo S x) G T rs rm nb n fk fp ∧ Fr wQ h h' := by
  have ms0 : MS (pI h 72 0 0) S := mb.1.o (by omega)
  have f0 : Fr wQ h (pI h 72 0 0) := f72 (by omega)
  have hk := mb.1.1.k
  have hm := ms0.1
  unfold ansUndo rowUndo
  by_cases c : 1 ≤ x ∧ x ≤ 10 ∧ x ≤ S 73
  · rw [if_pos c, if_pos c]
    obtain ⟨h', e, k1, f1⟩ := m_undo_l (d := d + 1) (S := S) (n := x) (by omega) 0 (by omega) (by omega) (pI (pI h 72 0 0) 73 73 (S 73 - x)) (up S 73 (S 73 - x)) (MS.up (z := 73) ms0 (by omega)) (up_same _ _ _) (fun k q q' => by rw [up_ne q', if_neg (by omega)])
    have ff := f0.tr (f73 (Fr.tr (Fr.pI Fr.rf (by rfl)) f1))
    refine ⟨h', ?_, mb.fr ff ⟨mb.1.1.fr ff, k1⟩, ff⟩
    show EX (d+1) m_Mod_undo 0 [(0, .inr (.inr (72))), (1, .inl (x))] [] (h) = _
    simp (disch := omega) only [Mod_undo_0, Mod_undo_5, Mod_undo_14, Mod_undo_17, Mod_undo_28, Mod_undo_31, Mod_undo_42, Mod_undo_50, Mod_undo_79, Mod_undo_85, wr_id, ix_id, okx, if_pos, if_neg, Int.toNat_of_nonneg, bak_v, bak_n, wr_b01, wr_bt, b01_or, b01_0, b01_1, lc_lt0, lc_gt0, lc_eq0, wl_wr, wr_wr, wl_id, true_and, and_true, true_or, or_true, not_true_eq_false, not_false_eq_true, nc0, nc1, nc2, nc3, nc4, nc5, nc6, nc7, nc8, nc9, nc10, nc11, nc12, nc13, nc14, nc15, nc16, nc17, nc18, nc19, nc20, nc21, nc22, nc23, nc35, nc47, nc59, nc60, nc61, nc73, nc74, nc214, nc215, nc1115, nc2230, nc3345, if_true, if_false, Int.reduceToNat, hk, hm.k, hm.r1, hm.r2, hm.r3, hm.r4, hm.r15, hm.r16, hm.r19, hm.r23, hm.r24, hm.r25, hm.r26, hm.r29, hm.r30, hm.r31, hm.r33, hm.r34, hm.r35, hm.k73, hm.k74, hm.k75, hm.k76, hm.k77, hm.k78, hm.k79, hm.k80, hm.k81, hm.k82, hm.k83, hm.k84, hm.k85, hm.k86, hm.k87, hm.k88, hm.k89, hm.n73, hm.n74, hm.n75, hm.n76, hm.n77, hm.n78, hm.n79, hm.n80, hm.n81, hm.n82, hm.n83, hm.n84, hm.n85, hm.n86, hm.n87, hm.n88, hm.n89, m_within, ms0.2, e]
  · rw [if_neg c, if_neg c]
    refine ⟨pI h 72 0 0, ?_, mb.fr f0 ms0, f0⟩
    show EX (d+1) m_Mod_undo 0 [(0, .inr (.inr (72))), (1, .inl (x))] [] (h) = _
    by_cases c1 : 1 ≤ x ∧ x ≤ 10
    · simp (disch := omega) only [Mod_undo_0, Mod_undo_5, Mod_undo_14, Mod_undo_17, Mod_undo_28, Mod_undo_31, Mod_undo_42, Mod_undo_50, Mod_undo_79, Mod_undo_85, wr_id, ix_id, okx, if_pos, if_neg, Int.toNat_of_nonneg, bak_v, bak_n, wr_b01, wr_bt, b01_or, b01_0, b01_1, lc_lt0, lc_gt0, lc_eq0, wl_wr, wr_wr, wl_id, true_and, and_true, true_or, or_true, not_true_eq_false, not_false_eq_true, nc0, nc1, nc2, nc3, nc4, nc5, nc6, nc7, nc8, nc9, nc10, nc11, nc12, nc13, nc14, nc15, nc16, nc17, nc18, nc19, nc20, nc21, nc22, nc23, nc35, nc47, nc59, nc60, nc61, nc73, nc74, nc214, nc215, nc1115, nc2230, nc3345, if_true, if_false, Int.reduceToNat, hk, hm.k, hm.r1, hm.r2, hm.r3, hm.r4, hm.r15, hm.r16, hm.r19, hm.r23, hm.r24, hm.r25, hm.r26, hm.r29, hm.r30, hm.r31, hm.r33, hm.r34, hm.r35, hm.k73, hm.k74, hm.k75, hm.k76, hm.k77, hm.k78, hm.k79, hm.k80, hm.k81, hm.k82, hm.k83, hm.k84, hm.k85, hm.k86, hm.k87, hm.k88, hm.k89, hm.n73, hm.n74, hm.n75, hm.n76, hm.n77, hm.n78, hm.n79, hm.n80, hm.n81, hm.n82, hm.n83, hm.n84, hm.n85, hm.n86, hm.n87, hm.n88, hm.n89, m_within, ms0.2]
    · simp (disch := omega) only [Mod_undo_0, Mod_undo_5, Mod_undo_14, Mod_undo_17, Mod_undo_28, Mod_undo_31, Mod_undo_42, Mod_undo_50, Mod_undo_79, Mod_undo_85, wr_id, ix_id, okx, if_pos, if_neg, Int.toNat_of_nonneg, bak_v, bak_n, wr_b01, wr_bt, b01_or, b01_0, b01_1, lc_lt0, lc_gt0, lc_eq0, wl_wr, wr_wr, wl_id, true_and, and_true, true_or, or_true, not_true_eq_false, not_false_eq_true, nc0, nc1, nc2, nc3, nc4, nc5, nc6, nc7, nc8, nc9, nc10, nc11, nc12, nc13, nc14, nc15, nc16, nc17, nc18, nc19, nc20, nc21, nc22, nc23, nc35, nc47, nc59, nc60, nc61, nc73, nc74, nc214, nc215, nc1115, nc2230, nc3345, if_true, if_false, Int.reduceToNat, hk, hm.k, hm.r1, hm.r2, hm.r3, hm.r4, hm.r15, hm.r16, hm.r19, hm.r23, hm.r24, hm.r25, hm.r26, hm.r29, hm.r30, hm.r31, hm.r33, hm.r34, hm.r35, hm.k73, hm.k74, hm.k75, hm.k76, hm.k77, hm.k78, hm.k79, hm.k80, hm.k81, hm.k82, hm.k83, hm.k84, hm.k85, hm.k86, hm.k87, hm.k88, hm.k89, hm.n73, hm.n74, hm.n75, hm.n76, hm.n77, hm.n78, hm.n79, hm.n80, hm.n81, hm.n82, hm.n83, hm.n84, hm.n85, hm.n86, hm.n87, hm.n88, hm.n89, m_within, ms0.2]
/-- deeds of tray t -/
def dds (S rm nb : Int → Int) (t : Int) : (Int → Int) × Int × Int := runD (fun k => nb (40 * t + k)) (rm t).toNat 0 S
def ansJudge (S rs rm nb : Int → Int) (t u : Int) : Int := if ¬ (0 ≤ u ∧ u ≤ 3) then -2 else if ¬ noT rs t = 0 then noT rs t else if u = 0 then (if (dds S rm nb t).2.2 = 0 then -1 else (dds S rm nb t).2.1) else if u = 1 then (dds S rm nb t).2.2 else if u = 2 then (dds S rm nb t).1 60 - S 60 else jnM (dds S rm nb t).1
theorem noT_rng (rs : Int → Int) (t : Int) : -6 ≤ noT rs t ∧ noT rs t ≤ 0 := by
  unfold noT
  repeat' split
  all_goals omega
theorem noT_0 {rs : Int → Int} {t : Int} (h : noT rs t = 0) : (0 ≤ t ∧ t < 4) ∧ ¬ rs t = -1 := by
  unfold noT at h
  split at h
  · omega
  · split at h
    · omega
    · omega
theorem agS_back {S S' : Int → Int} (a : Ah S S') : agS S S' = S := by
  funext k
  unfold agS
  split
  · rfl
  · exact a k (by omega)
theorem fpT {h h' : Hp} (f : Fr pT h h') : Fr wQ h h' := f.mo (fun a k q => pT.wq q)
theorem mm_judge {d : Nat} {h : Hp} {S G T rs rm nb : Int → Int} {n fk fp : Int} (mb : MB h S G T rs rm nb n fk fp) (g : Gd S) (tg : TG rs rm nb) {t u : Int} (rt : -2147483648 ≤ t ∧ t ≤ 2147483647) (ru : -2147483648 ≤ u ∧ u ≤ 2147483647) : ∃ h', cal (d+7) m_Mod_judge [.inr (.inr (72)), .inl (t), .inl (u)] (h) = some (.inl (ansJudge S rs rm nb t u), h') ∧ MB h' S G T rs rm nb n fk fp ∧ Fr wQ h h' := by
  have ms0 : MS (pI h 72 0 0) S := mb.1.o (by omega)
  have f0 : Fr wQ h (pI h 72 0 0) := f72 (by omega)
  have hk := mb.1.1.k
  have hm := ms0.1
  have mb0 := mb.fr f0 ms0
  have nr := noT_rng rs t
  unfold ansJudge
  by_cases c : 0 ≤ u ∧ u ≤ 3
  · rw [if_neg (by omega)]
    by_cases c1 : noT rs t = 0
    · rw [if_neg (by omega)]
      obtain ⟨n1, n2⟩ := noT_0 c1
      obtain ⟨h1, e1, k1, f1⟩ := m_keeps (d := d + 5) ms0
      have ms1 := ms0.q f1 (fun k => by omega)
      have mb1 := mb0.fr (f78 f1) ms1
      obtain ⟨h2, e2, ms2, q2, f2⟩ := m_tells (d := d) n1 tg ms1 mb1.2.2.2.2 g
      obtain ⟨r1, r2, r3, r4, r5, r6, r7⟩ := runD_ok (fun k => nb (40 * t + k)) (rm t).toNat 0 S g
      have k2 := k1.fr f2 (fun k => by unfold pT; omega)
      have ej := m_joinedMany (d := d + 5) ms2 r1
      obtain ⟨h3, e3, ms3, f3⟩ := m_isAgain (d := d + 5) ms2 k2
      rw [agS_back r2] at ms3
      have hm1 := ms1.1
      have hm2 := ms2.1
      have hm3 := ms3.1
      have ff := (f0.tr (f78 f1)).tr ((fpT f2).tr (f73 f3))
      have e78 : hI h2 78 1 = S 60 := k2 1 (by omega)
      have e17 : hI h3 72 17 = (dds S rm nb t).2.2 := by rw [f3.I (by omega)]; exact q2
      have gt := tg.1 t n1.1 n1.2
      have w17 : wr (dds S rm nb t).2.2 = (dds S rm nb t).2.2 := wr_id (by unfold dds; omega) (by unfold dds; omega)
      refine ⟨h3, ?_, mb.fr ff ms3, ff⟩
      show EX (d+6) m_Mod_judge 0 [(0, .inr (.inr (72))), (1, .inl (t)), (2, .inl (u))] [] (h) = _
      simp (disch := omega) only [Mod_judge_0, Mod_judge_5, Mod_judge_14, Mod_judge_17, Mod_judge_20, Mod_judge_25, Mod_judge_30, Mod_judge_32, Mod_judge_36, Mod_judge_41, Mod_judge_63, Mod_judge_69, Mod_judge_73, Mod_judge_80, Mod_judge_84, Mod_judge_89, Mod_judge_94, Mod_judge_101, Mod_judge_106, Mod_judge_111, Mod_judge_113, wr_id, ix_id, okx, if_pos, if_neg, Int.toNat_of_nonneg, bak_v, bak_n, wr_b01, wr_bt, b01_or, b01_0, b01_1, lc_lt0, lc_gt0, lc_eq0, wl_wr, wr_wr, wl_id, true_and, and_true, true_or, or_true, not_true_eq_false, not_false_eq_true, nc0, nc1, nc2, nc3, nc4, nc5, nc6, nc7, nc8, nc9, nc10, nc11, nc12, nc13, nc14, nc15, nc16, nc17, nc18, nc19, nc20, nc21, nc22, nc23, nc35, nc47, nc59, nc60, nc61, nc73, nc74, nc214, nc215, nc1115, nc2230, nc3345, if_true, if_false, Int.reduceToNat, hk, hm.k, m_within, m_noTray hm mb0.2.2.2.2 tg, c1, e1, hm1.k, e2, hm2.k, hm2.r1, hm2.r16, hm2.k73, hm2.n73, hm2.k78, hm2.n78, ms2.2, e78, ej, e3, hm3.k, e17, w17]
      rw [← dds]
      have : u = 0 ∨ u = 1 ∨ u = 2 ∨ u = 3 := by omega
      rcases this with e | e | e | e <;> subst e
      · by_cases q : (dds S rm nb t).2.2 = 0 <;> simp [q]
      · simp
      · simp
      · simp
    · rw [if_pos c1]
      refine ⟨pI h 72 0 0, ?_, mb0, f0⟩
      show EX (d+6) m_Mod_judge 0 [(0, .inr (.inr (72))), (1, .inl (t)), (2, .inl (u))] [] (h) = _
      simp (disch := omega) only [Mod_judge_0, Mod_judge_5, Mod_judge_14, Mod_judge_17, Mod_judge_20, Mod_judge_25, Mod_judge_30, Mod_judge_32, Mod_judge_36, Mod_judge_41, Mod_judge_63, Mod_judge_69, Mod_judge_73, Mod_judge_80, Mod_judge_84, Mod_judge_89, Mod_judge_94, Mod_judge_101, Mod_judge_106, Mod_judge_111, Mod_judge_113, wr_id, ix_id, okx, if_pos, if_neg, Int.toNat_of_nonneg, bak_v, bak_n, wr_b01, wr_bt, b01_or, b01_0, b01_1, lc_lt0, lc_gt0, lc_eq0, wl_wr, wr_wr, wl_id, true_and, and_true, true_or, or_true, not_true_eq_false, not_false_eq_true, nc0, nc1, nc2, nc3, nc4, nc5, nc6, nc7, nc8, nc9, nc10, nc11, nc12, nc13, nc14, nc15, nc16, nc17, nc18, nc19, nc20, nc21, nc22, nc23, nc35, nc47, nc59, nc60, nc61, nc73, nc74, nc214, nc215, nc1115, nc2230, nc3345, if_true, if_false, Int.reduceToNat, hk, hm.k, m_within, m_noTray hm mb0.2.2.2.2 tg]
  · rw [if_pos c]
    refine ⟨pI h 72 0 0, ?_, mb0, f0⟩
    show EX (d+6) m_Mod_judge 0 [(0, .inr (.inr (72))), (1, .inl (t)), (2, .inl (u))] [] (h) = _
    simp (disch := omega) only [Mod_judge_0, Mod_judge_5, Mod_judge_14, Mod_judge_17, Mod_judge_20, Mod_judge_25, Mod_judge_30, Mod_judge_32, Mod_judge_36, Mod_judge_41, Mod_judge_63, Mod_judge_69, Mod_judge_73, Mod_judge_80, Mod_judge_84, Mod_judge_89, Mod_judge_94, Mod_judge_101, Mod_judge_106, Mod_judge_111, Mod_judge_113, wr_id, ix_id, okx, if_pos, if_neg, Int.toNat_of_nonneg, bak_v, bak_n, wr_b01, wr_bt, b01_or, b01_0, b01_1, lc_lt0, lc_gt0, lc_eq0, wl_wr, wr_wr, wl_id, true_and, and_true, true_or, or_true, not_true_eq_false, not_false_eq_true, nc0, nc1, nc2, nc3, nc4, nc5, nc6, nc7, nc8, nc9, nc10, nc11, nc12, nc13, nc14, nc15, nc16, nc17, nc18, nc19, nc20, nc21, nc22, nc23, nc35, nc47, nc59, nc60, nc61, nc73, nc74, nc214, nc215, nc1115, nc2230, nc3345, if_true, if_false, Int.reduceToNat, hk, hm.k, m_within]
def ansPerf (S rs rm nb : Int → Int) (t : Int) : Int := if ¬ noT rs t = 0 then noT rs t else (dds S rm nb t).2.1
def rowPerf (S rs rm nb : Int → Int) (t : Int) : Int → Int := if ¬ noT rs t = 0 then S else if 0 < (dds S rm nb t).2.1 then ntS S (dds S rm nb t).1 else S
theorem runD_0 (T : Int → Int) : ∀ (n : Nat) (k : Int) (S : Int → Int), Gd S → (runD T n k S).2.1 = k → (runD T n k S).1 = S := by
  intro n k S g h
  cases n with
  | zero => rfl
  | succ n =>
    simp only [runD] at h ⊢
    by_cases c : whyD S (T k) = 0
    · rw [if_pos c] at h
      have := (runD_ok T n (k + 1) _ (doD_ok g c).1).2.2.1
      omega
    · rw [if_neg c]
theorem mm_perform {d : Nat} {h : Hp} {S G T rs rm nb : Int → Int} {n fk fp : Int} (mb : MB h S G T rs rm nb n fk fp) (g : Gd S) (tg : TG rs rm nb) (h73 : 0 ≤ S 73 ∧ S 73 ≤ 10) {t : Int} (rt : -2147483648 ≤ t ∧ t ≤ 2147483647) : ∃ h', cal (d+7) m_Mod_perform [.inr (.inr (72)), .inl (t)] (h) = some (.inl (ansPerf S rs rm nb t), h') ∧ MB h' (rowPerf S rs rm nb t) G T rs rm nb n fk fp ∧ Fr wQ h h' := by
  have ms0 : MS (pI h 72 0 0) S := mb.1.o (by omega)
  have f0 : Fr wQ h (pI h 72 0 0) := f72 (by omega)
  have hk := mb.1.1.k
  have hm := ms0.1
  have mb0 := mb.fr f0 ms0
  have nr := noT_rng rs t
  unfold ansPerf rowPerf
  by_cases c1 : noT rs t = 0
  · rw [if_neg (by omega), if_neg (by omega)]
    obtain ⟨n1, n2⟩ := noT_0 c1
    have gt := tg.1 t n1.1 n1.2
    obtain ⟨h1, e1, k1, f1⟩ := m_keeps (d := d + 5) ms0
    have ms1 := ms0.q f1 (fun k => by omega)
    have mb1 := mb0.fr (f78 f1) ms1
    obtain ⟨h2, e2, ms2, q2, f2⟩ := m_tells (d := d) n1 tg ms1 mb1.2.2.2.2 g
    obtain ⟨r1, r2, r3, r4, r5, r6, r7⟩ := runD_ok (fun k => nb (40 * t + k)) (rm t).toNat 0 S g
    have r0 := runD_0 (fun k => nb (40 * t + k)) (rm t).toNat 0 S g
    rw [← dds] at r1 r2 r3 r4 r5 r6 r7 r0 e2 ms2 q2
    have k2 := k1.fr f2 (fun k => by unfold pT; omega)
    have hm1 := ms1.1
    have hm2 := ms2.1
    by_cases c2 : 0 < (dds S rm nb t).2.1
    · rw [if_pos c2]
      obtain ⟨h3, e3, ms3, f3⟩ := m_notes (d := d + 5) ms2 k2 (by rw [r2 73 (by omega)]; exact h73)
      have ff := (f0.tr (f78 f1)).tr ((fpT f2).tr (f73 f3))
      refine ⟨h3, ?_, mb.fr ff ms3, ff⟩
      show EX (d+6) m_Mod_perform 0 [(0, .inr (.inr (72))), (1, .inl (t))] [] (h) = _
      simp (disch := omega) only [Mod_perform_0, Mod_perform_5, Mod_perform_10, Mod_perform_15, Mod_perform_17, Mod_perform_21, Mod_perform_26, Mod_perform_31, Mod_perform_35, wr_id, ix_id, okx, if_pos, if_neg, Int.toNat_of_nonneg, bak_v, bak_n, wr_b01, wr_bt, b01_or, b01_0, b01_1, lc_lt0, lc_gt0, lc_eq0, wl_wr, wr_wr, wl_id, true_and, and_true, true_or, or_true, not_true_eq_false, not_false_eq_true, nc0, nc1, nc2, nc3, nc4, nc5, nc6, nc7, nc8, nc9, nc10, nc11, nc12, nc13, nc14, nc15, nc16, nc17, nc18, nc19, nc20, nc21, nc22, nc23, nc35, nc47, nc59, nc60, nc61, nc73, nc74, nc214, nc215, nc1115, nc2230, nc3345, if_true, if_false, Int.reduceToNat, hk, hm.k, m_noTray hm mb0.2.2.2.2 tg, c1, e1, hm1.k, e2, hm2.k, e3]
    · rw [if_neg c2]
      rw [r0 (by omega)] at ms2
      have ff := (f0.tr (f78 f1)).tr (fpT f2)
      refine ⟨h2, ?_, mb.fr ff ms2, ff⟩
      show EX (d+6) m_Mod_perform 0 [(0, .inr (.inr (72))), (1, .inl (t))] [] (h) = _
      simp (disch := omega) only [Mod_perform_0, Mod_perform_5, Mod_perform_10, Mod_perform_15, Mod_perform_17, Mod_perform_21, Mod_perform_26, Mod_perform_31, Mod_perform_35, wr_id, ix_id, okx, if_pos, if_neg, Int.toNat_of_nonneg, bak_v, bak_n, wr_b01, wr_bt, b01_or, b01_0, b01_1, lc_lt0, lc_gt0, lc_eq0, wl_wr, wr_wr, wl_id, true_and, and_true, true_or, or_true, not_true_eq_false, not_false_eq_true, nc0, nc1, nc2, nc3, nc4, nc5, nc6, nc7, nc8, nc9, nc10, nc11, nc12, nc13, nc14, nc15, nc16, nc17, nc18, nc19, nc20, nc21, nc22, nc23, nc35, nc47, nc59, nc60, nc61, nc73, nc74, nc214, nc215, nc1115, nc2230, nc3345, if_true, if_false, Int.reduceToNat, hk, hm.k, m_noTray hm mb0.2.2.2.2 tg, c1, e1, hm1.k, e2, hm2.k]
  · rw [if_pos c1, if_pos c1]
    refine ⟨pI h 72 0 0, ?_, mb0, f0⟩
    show EX (d+6) m_Mod_perform 0 [(0, .inr (.inr (72))), (1, .inl (t))] [] (h) = _
    simp (disch := omega) only [Mod_perform_0, Mod_perform_5, Mod_perform_10, Mod_perform_15, Mod_perform_17, Mod_perform_21, Mod_perform_26, Mod_perform_31, Mod_perform_35, wr_id, ix_id, okx, if_pos, if_neg, Int.toNat_of_nonneg, bak_v, bak_n, wr_b01, wr_bt, b01_or, b01_0, b01_1, lc_lt0, lc_gt0, lc_eq0, wl_wr, wr_wr, wl_id, true_and, and_true, true_or, or_true, not_true_eq_false, not_false_eq_true, nc0, nc1, nc2, nc3, nc4, nc5, nc6, nc7, nc8, nc9, nc10, nc11, nc12, nc13, nc14, nc15, nc16, nc17, nc18, nc19, nc20, nc21, nc22, nc23, nc35, nc47, nc59, nc60, nc61, nc73, nc74, nc214, nc215, nc1115, nc2230, nc3345, if_true, if_false, Int.reduceToNat, hk, hm.k, m_noTray hm mb0.2.2.2.2 tg]
def ansDay (S : Int → Int) (x k : Int) : Int := if ¬ (1 ≤ k ∧ k ≤ 60) then -3 else if S 1 = 0 ∨ S 2 = 0 then -5 else (dayD k.toNat x S 0).2
def rowDay (S : Int → Int) (x k : Int) : Int → Int := if ¬ (1 ≤ k ∧ k ≤ 60) then S else if S 1 = 0 ∨ S 2 = 0 then S else if 0 < (dayD k.toNat x S 0).2 then ntS S (dayD k.toNat x S 0).1 else S
theorem dayD_0 : ∀ (n : Nat) (x : Int) (S : Int → Int) (m : Int), Gd S → 0 < S 1 → 0 < S 2 → (dayD n x S m).2 = m → (dayD n x S m).1 = S := by
  intro n
  induction n with
  | zero => intro x S m _ _ _ _; rfl
  | succ n ih =>
    intro x S m g p1 p2 h
    simp only [dayD] at h ⊢
    have ga := g.a
    have m1 := Int.emod_nonneg (bUshr (nxD x) 16) (show ¬ S 1 = 0 by omega)
    have m2 := Int.emod_lt_of_pos (bUshr (nxD x) 16) p1
    generalize bUshr (nxD x) 16 % S 1 = q at *
    generalize bUshr (nxD (nxD x)) 16 % S 2 = r at *
    split at h
    · rename_i c
      have o0 : offM S q = 0 := by unfold offM; rw [if_neg (by omega), if_neg c]
      have a1 := offS_ah S (x := q) (by omega)
      have := (dayD_ok n (nxD x) (offS S q) (m + 1) (Gd_off g o0) (by rw [a1 1 (by omega)]; exact p1) (by rw [a1 2 (by omega)]; exact p2)).2.2.1
      omega
    · rename_i c
      rw [if_neg c]
      split at h
      · rename_i c2
        have a1 := joinS_ah S (x := q) (y := r) (by omega)
        have := (dayD_ok n (nxD (nxD x)) (joinS S q r) (m + 1) (Gd_join g c2) (by rw [a1 1 (by omega)]; exact p1) (by rw [a1 2 (by omega)]; exact p2)).2.2.1
        omega
      · rename_i c2
        rw [if_neg c2]
        exact ih _ _ _ g p1 p2 h
theorem mm_day {d : Nat} {h : Hp} {S G T rs rm nb : Int → Int} {n fk fp : Int} (mb : MB h S G T rs rm nb n fk fp) (g : Gd S) (h73 : 0 ≤ S 73 ∧ S 73 ≤ 10) {x k : Int} (rk : -2147483648 ≤ k ∧ k ≤ 2147483647) : ∃ h', cal (d+5) m_Mod_day [.inr (.inr (72)), .inl (x), .inl (k)] (h) = some (.inl (ansDay S x k), h') ∧ MB h' (rowDay S x k) G T rs rm nb n fk fp ∧ Fr wQ h h' := by
  have ms0 : MS (pI h 72 0 0) S := mb.1.o (by omega)
  have f0 : Fr wQ h (pI h 72 0 0) := f72 (by omega)
  have hk := mb.1.1.k
  have hm := ms0.1
  have mb0 := mb.fr f0 ms0
  have ga := g.a
  have gb := g.b
  unfold ansDay rowDay
  by_cases c : 1 ≤ k ∧ k ≤ 60
  · have cc : ¬ ¬ (1 ≤ k ∧ k ≤ 60) := fun q => q c
    rw [if_neg cc, if_neg cc]
    by_cases c1 : S 1 = 0 ∨ S 2 = 0
    · rw [if_pos c1, if_pos c1]
      refine ⟨pI h 72 0 0, ?_, mb0, f0⟩
      show EX (d+4) m_Mod_day 0 [(0, .inr (.inr (72))), (1, .inl (x)), (2, .inl (k))] [] (h) = _
      by_cases c2 : S 1 = 0
      · simp (disch := omega) only [Mod_day_0, Mod_day_5, Mod_day_14, Mod_day_20, Mod_day_29, Mod_day_38, wr_id, ix_id, okx, if_pos, if_neg, Int.toNat_of_nonneg, bak_v, bak_n, wr_b01, wr_bt, b01_or, b01_0, b01_1, lc_lt0, lc_gt0, lc_eq0, wl_wr, wr_wr, wl_id, true_and, and_true, true_or, or_true, not_true_eq_false, not_false_eq_true, nc0, nc1, nc2, nc3, nc4, nc5, nc6, nc7, nc8, nc9, nc10, nc11, nc12, nc13, nc14, nc15, nc16, nc17, nc18, nc19, nc20, nc21, nc22, nc23, nc35, nc47, nc59, nc60, nc61, nc73, nc74, nc214, nc215, nc1115, nc2230, nc3345, if_true, if_false, Int.reduceToNat, hk, hm.k, hm.r1, hm.r2, hm.r3, hm.r4, hm.r15, hm.r16, hm.r19, hm.r23, hm.r24, hm.r25, hm.r26, hm.r29, hm.r30, hm.r31, hm.r33, hm.r34, hm.r35, hm.k73, hm.k74, hm.k75, hm.k76, hm.k77, hm.k78, hm.k79, hm.k80, hm.k81, hm.k82, hm.k83, hm.k84, hm.k85, hm.k86, hm.k87, hm.k88, hm.k89, hm.n73, hm.n74, hm.n75, hm.n76, hm.n77, hm.n78, hm.n79, hm.n80, hm.n81, hm.n82, hm.n83, hm.n84, hm.n85, hm.n86, hm.n87, hm.n88, hm.n89, m_within, ms0.2]
      · simp (disch := omega) only [Mod_day_0, Mod_day_5, Mod_day_14, Mod_day_20, Mod_day_29, Mod_day_38, wr_id, ix_id, okx, if_pos, if_neg, Int.toNat_of_nonneg, bak_v, bak_n, wr_b01, wr_bt, b01_or, b01_0, b01_1, lc_lt0, lc_gt0, lc_eq0, wl_wr, wr_wr, wl_id, true_and, and_true, true_or, or_true, not_true_eq_false, not_false_eq_true, nc0, nc1, nc2, nc3, nc4, nc5, nc6, nc7, nc8, nc9, nc10, nc11, nc12, nc13, nc14, nc15, nc16, nc17, nc18, nc19, nc20, nc21, nc22, nc23, nc35, nc47, nc59, nc60, nc61, nc73, nc74, nc214, nc215, nc1115, nc2230, nc3345, if_true, if_false, Int.reduceToNat, hk, hm.k, hm.r1, hm.r2, hm.r3, hm.r4, hm.r15, hm.r16, hm.r19, hm.r23, hm.r24, hm.r25, hm.r26, hm.r29, hm.r30, hm.r31, hm.r33, hm.r34, hm.r35, hm.k73, hm.k74, hm.k75, hm.k76, hm.k77, hm.k78, hm.k79, hm.k80, hm.k81, hm.k82, hm.k83, hm.k84, hm.k85, hm.k86, hm.k87, hm.k88, hm.k89, hm.n73, hm.n74, hm.n75, hm.n76, hm.n77, hm.n78, hm.n79, hm.n80, hm.n81, hm.n82, hm.n83, hm.n84, hm.n85, hm.n86, hm.n87, hm.n88, hm.n89, m_within, ms0.2]
    · rw [if_neg c1, if_neg c1]
      obtain ⟨h1, e1, k1, f1⟩ := m_keeps (d := d + 3) ms0
      have ms1 := ms0.q f1 (fun k => by omega)
      have ms1' : MS (pI h1 72 18 x) S := ms1.o (by omega)
      obtain ⟨h2, e2, ms2, f2⟩ := m_day_l (d := d) c.2 k.toNat 0 x 0 S (pI h1 72 18 x) (by omega) (by omega) ms1' (by rw [hI_pI, if_pos ⟨rfl, rfl⟩]) g (by omega) (by omega)
      obtain ⟨r1, r2, r3, r4⟩ := dayD_ok k.toNat x S 0 g (by omega) (by omega)
      have r0 := dayD_0 k.toNat x S 0 g (by omega) (by omega)
      have k2 : KV h2 S := KV.fr (h := pI h1 72 18 x) (fun j hj => by rw [hI_pI, if_neg (by omega)]; exact k1 j hj) f2 (fun k => by unfold pT; omega)
      have hm1 := ms1.1
      have hm2 := ms2.1
      have ff1 : Fr wQ h (pI h1 72 18 x) := (f0.tr (f78 f1)).tr (f72 (by omega))
      by_cases c2 : 0 < (dayD k.toNat x S 0).2
      · rw [if_pos c2]
        obtain ⟨h3, e3, ms3, f3⟩ := m_notes (d := d + 3) ms2 k2 (by rw [r2 73 (by omega)]; exact h73)
        have ff := ff1.tr ((fpT f2).tr (f73 f3))
        refine ⟨h3, ?_, mb.fr ff ms3, ff⟩
        show EX (d+4) m_Mod_day 0 [(0, .inr (.inr (72))), (1, .inl (x)), (2, .inl (k))] [] (h) = _
        simp (disch := omega) only [Mod_day_0, Mod_day_5, Mod_day_14, Mod_day_20, Mod_day_29, Mod_day_41, Mod_day_45, Mod_day_50, Mod_day_155, Mod_day_159, Mod_day_163, wr_id, ix_id, okx, if_pos, if_neg, Int.toNat_of_nonneg, bak_v, bak_n, wr_b01, wr_bt, b01_or, b01_0, b01_1, lc_lt0, lc_gt0, lc_eq0, wl_wr, wr_wr, wl_id, true_and, and_true, true_or, or_true, not_true_eq_false, not_false_eq_true, nc0, nc1, nc2, nc3, nc4, nc5, nc6, nc7, nc8, nc9, nc10, nc11, nc12, nc13, nc14, nc15, nc16, nc17, nc18, nc19, nc20, nc21, nc22, nc23, nc35, nc47, nc59, nc60, nc61, nc73, nc74, nc214, nc215, nc1115, nc2230, nc3345, if_true, if_false, Int.reduceToNat, hk, hm.k, hm.r1, hm.r2, hm.r3, hm.r4, hm.r15, hm.r16, hm.r19, hm.r23, hm.r24, hm.r25, hm.r26, hm.r29, hm.r30, hm.r31, hm.r33, hm.r34, hm.r35, hm.k73, hm.k74, hm.k75, hm.k76, hm.k77, hm.k78, hm.k79, hm.k80, hm.k81, hm.k82, hm.k83, hm.k84, hm.k85, hm.k86, hm.k87, hm.k88, hm.k89, hm.n73, hm.n74, hm.n75, hm.n76, hm.n77, hm.n78, hm.n79, hm.n80, hm.n81, hm.n82, hm.n83, hm.n84, hm.n85, hm.n86, hm.n87, hm.n88, hm.n89, m_within, ms0.2, e1, hm1.k, e2, hm2.k, e3]
      · rw [if_neg c2]
        rw [r0 (by omega)] at ms2
        have ff := ff1.tr (fpT f2)
        refine ⟨h2, ?_, mb.fr ff ms2, ff⟩
        show EX (d+4) m_Mod_day 0 [(0, .inr (.inr (72))), (1, .inl (x)), (2, .inl (k))] [] (h) = _
        simp (disch := omega) only [Mod_day_0, Mod_day_5, Mod_day_14, Mod_day_20, Mod_day_29, Mod_day_41, Mod_day_45, Mod_day_50, Mod_day_155, Mod_day_163, wr_id, ix_id, okx, if_pos, if_neg, Int.toNat_of_nonneg, bak_v, bak_n, wr_b01, wr_bt, b01_or, b01_0, b01_1, lc_lt0, lc_gt0, lc_eq0, wl_wr, wr_wr, wl_id, true_and, and_true, true_or, or_true, not_true_eq_false, not_false_eq_true, nc0, nc1, nc2, nc3, nc4, nc5, nc6, nc7, nc8, nc9, nc10, nc11, nc12, nc13, nc14, nc15, nc16, nc17, nc18, nc19, nc20, nc21, nc22, nc23, nc35, nc47, nc59, nc60, nc61, nc73, nc74, nc214, nc215, nc1115, nc2230, nc3345, if_true, if_false, Int.reduceToNat, hk, hm.k, hm.r1, hm.r2, hm.r3, hm.r4, hm.r15, hm.r16, hm.r19, hm.r23, hm.r24, hm.r25, hm.r26, hm.r29, hm.r30, hm.r31, hm.r33, hm.r34, hm.r35, hm.k73, hm.k74, hm.k75, hm.k76, hm.k77, hm.k78, hm.k79, hm.k80, hm.k81, hm.k82, hm.k83, hm.k84, hm.k85, hm.k86, hm.k87, hm.k88, hm.k89, hm.n73, hm.n74, hm.n75, hm.n76, hm.n77, hm.n78, hm.n79, hm.n80, hm.n81, hm.n82, hm.n83, hm.n84, hm.n85, hm.n86, hm.n87, hm.n88, hm.n89, m_within, ms0.2, e1, hm1.k, e2, hm2.k]
  · rw [if_pos c, if_pos c]
    refine ⟨pI h 72 0 0, ?_, mb0, f0⟩
    show EX (d+4) m_Mod_day 0 [(0, .inr (.inr (72))), (1, .inl (x)), (2, .inl (k))] [] (h) = _
    simp (disch := omega) only [Mod_day_0, Mod_day_5, Mod_day_14, Mod_day_17, wr_id, ix_id, okx, if_pos, if_neg, Int.toNat_of_nonneg, bak_v, bak_n, wr_b01, wr_bt, b01_or, b01_0, b01_1, lc_lt0, lc_gt0, lc_eq0, wl_wr, wr_wr, wl_id, true_and, and_true, true_or, or_true, not_true_eq_false, not_false_eq_true, nc0, nc1, nc2, nc3, nc4, nc5, nc6, nc7, nc8, nc9, nc10, nc11, nc12, nc13, nc14, nc15, nc16, nc17, nc18, nc19, nc20, nc21, nc22, nc23, nc35, nc47, nc59, nc60, nc61, nc73, nc74, nc214, nc215, nc1115, nc2230, nc3345, if_true, if_false, Int.reduceToNat, hk, m_within]
