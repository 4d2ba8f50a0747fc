/-! the model's calls: trays and images -/
def ansNum (t s k : Int) : Int := if ¬ (0 ≤ t ∧ t < 4) ∨ ¬ (0 ≤ s ∧ s ≤ 3) then -2 else if ¬ (0 ≤ k ∧ k ≤ 40) then -3 else 0
def zn (nb : Int → Int) (t k : Int) : Int → Int := fun j => if 40 * t ≤ j ∧ j < 40 * t + k then 0 else nb j
/-- what trays and images may write -/
def wT (a k : Nat) : Prop := wQ a k ∨ a = 74 ∨ a = 87 ∨ a = 88 ∨ a = 89
theorem wT.lt {a k : Nat} (h : wT a k) : 72 ≤ a := by unfold wT wQ at h; omega
theorem fwT {h h' : Hp} (f : Fr wQ h h') : Fr wT h h' := f.mo (fun _ _ q => Or.inl q)
theorem MB.t {h h' : Hp} {S G T rs rm nb rs' rm' nb' : Int → Int} {n fk fp : Int} (m : MB h S G T rs rm nb n fk fp) {p : Nat → Nat → Prop} (f : Fr p h h') (hp : ∀ a k, p a k → a = 87 ∨ a = 88 ∨ a = 89) (mt : MT h' rs' rm' nb') : MB h' S G T rs' rm' nb' n fk fp := by
  obtain ⟨m1, m2, m3, m4, m5⟩ := m
  have q : ∀ a k, ¬ (a = 87 ∨ a = 88 ∨ a = 89) → ¬ p a k := fun a k h1 h2 => h1 (hp a k h2)
  exact ⟨m1.fr f (fun k => q _ _ (by omega)), fun k => by rw [f.I (q _ _ (by omega))]; exact m2 k, fun k => by rw [f.I (q _ _ (by omega))]; exact m3 k, ⟨by rw [f.I (q _ _ (by omega))]; exact m4.1, by rw [f.I (q _ _ (by omega))]; exact m4.2.1, by rw [f.I (q _ _ (by omega))]; exact m4.2.2⟩, mt⟩
theorem up_rowL {h : Hp} {a : Nat} {R : Int → Int} (hR : ∀ j : Nat, hL h a j = R j) {z v : Int} (hz : 0 ≤ z) : ∀ j : Nat, hL (pL h a z.toNat v) a j = up R z v j := by
  intro j
  rw [hL_pL]
  unfold up
  by_cases c : j = z.toNat
  · rw [if_pos ⟨rfl, c⟩, if_pos (by omega)]
  · rw [if_neg (fun q => c q.2), if_neg (by omega), hR]
theorem m_numbers_l {d : Nat} {nb : Int → Int} {t k : Int} (ht : 0 ≤ t ∧ t < 4) (hk : 0 ≤ k ∧ k ≤ 40) : ∀ i, 0 ≤ i → i ≤ k → ∀ (h : Hp) (U : Int → Int), MR h → (∀ j : Nat, hL h 89 j = U j) → (∀ j, U j = if 40 * t ≤ j ∧ j < 40 * t + i then 0 else nb j) → ∃ h', EX (d) m_Mod_numbers 64 [(0, .inr (.inr (72))), (1, .inl (t)), (3, .inl (k)), (4, .inl (i))] [] (h) = some (.inl 0, h') ∧ (∀ j : Nat, hL h' 89 j = zn nb t k j) ∧ Fr (fun a _ => a = 89) h h' := by
  refine up_ind (hi := k) ?_ ?_
  · intro i hi h0 h1 h U hm hU hk2
    refine ⟨h, ?_, fun j => ?_, Fr.rf⟩
    · rw [Mod_numbers_64]
      simp (disch := omega) only [Mod_numbers_89, wr_id, ix_id, okx, if_pos, if_neg, Int.toNat_of_nonneg, bak_v, bak_n, wr_b01, wr_bt, b01_or, b01_0, b01_1, lc_lt0, lc_gt0, lc_eq0, wl_wr, wr_wr, wl_id, true_and, and_true, true_or, or_true, not_true_eq_false, not_false_eq_true, nc0, nc1, nc2, nc3, nc4, nc5, nc6, nc7, nc8, nc9, nc10, nc11, nc12, nc13, nc14, nc15, nc16, nc17, nc18, nc19, nc20, nc21, nc22, nc23, nc35, nc47, nc59, nc60, nc61, nc73, nc74, nc214, nc215, nc1115, nc2230, nc3345, if_true, if_false, Int.reduceToNat]
    · rw [hU, hk2, show i = k by omega]
      rfl
  · intro i hi ih h0 h1 h U hm hU hk2
    obtain ⟨h', e, k1, f1⟩ := ih (by omega) (by omega) (pL h 89 (40 * t + i).toNat 0) (up U (40 * t + i) 0) (hm.pL _ _ _) (up_rowL hU (by omega)) (fun j => by
      by_cases c : j = 40 * t + i
      · rw [c, up_same, if_pos (by omega)]
      · rw [up_ne c, hk2]
        by_cases c2 : 40 * t ≤ j ∧ j < 40 * t + i
        · rw [if_pos c2, if_pos (by omega)]
        · rw [if_neg c2, if_neg (by omega)])
    refine ⟨h', ?_, k1, Fr.tr (Fr.pL Fr.rf (by rfl)) f1⟩
    rw [Mod_numbers_64]
    simp (disch := omega) only [Mod_numbers_70, Mod_numbers_83, wr_id, ix_id, okx, if_pos, if_neg, Int.toNat_of_nonneg, bak_v, bak_n, wr_b01, wr_bt, b01_or, b01_0, b01_1, lc_lt0, lc_gt0, lc_eq0, wl_wr, wr_wr, wl_id, true_and, and_true, true_or, or_true, not_true_eq_false, not_false_eq_true, nc0, nc1, nc2, nc3, nc4, nc5, nc6, nc7, nc8, nc9, nc10, nc11, nc12, nc13, nc14, nc15, nc16, nc17, nc18, nc19, nc20, nc21, nc22, nc23, nc35, nc47, nc59, nc60, nc61, nc73, nc74, nc214, nc215, nc1115, nc2230, nc3345, if_true, if_false, Int.reduceToNat, hm.k, hm.r1, hm.r2, hm.r3, hm.r4, hm.r15, hm.r16, hm.r19, hm.r23, hm.r24, hm.r25, hm.r26, hm.r29, hm.r30, hm.r31, hm.r33, hm.r34, hm.r35, hm.k73, hm.k74, hm.k75, hm.k76, hm.k77, hm.k78, hm.k79, hm.k80, hm.k81, hm.k82, hm.k83, hm.k84, hm.k85, hm.k86, hm.k87, hm.k88, hm.k89, hm.n73, hm.n74, hm.n75, hm.n76, hm.n77, hm.n78, hm.n79, hm.n80, hm.n81, hm.n82, hm.n83, hm.n84, hm.n85, hm.n86, hm.n87, hm.n88, hm.n89, e]
def okNum (t s k : Int) : Prop := (0 ≤ t ∧ t < 4) ∧ (0 ≤ s ∧ s ≤ 3) ∧ (0 ≤ k ∧ k ≤ 40)
theorem mm_numbers_ok {d : Nat} {h : Hp} {S G T rs rm nb : Int → Int} {n fk fp : Int} (mb : MB h S G T rs rm nb n fk fp) {t s k : Int} (c : okNum t s k) : ∃ h', cal (d+2) m_Mod_numbers [.inr (.inr (72)), .inl (t), .inl (s), .inl (k)] (h) = some (.inl 0, h') ∧ MB h' S G T (up rs t s) (up rm t k) (zn nb t k) n fk fp ∧ Fr wT h h' := by
  obtain ⟨c1, c2, c3⟩ := c
  have ms0 : MS (pI h 72 0 0) S := mb.1.o (by omega)
  have f0 : Fr wQ h (pI h 72 0 0) := f72 (by omega)
  have hk := mb.1.1.k
  have hm := ms0.1
  have mb0 := mb.fr f0 ms0
  obtain ⟨t1, t2, t3⟩ := mb0.2.2.2.2
  obtain ⟨h', e, k1, f1⟩ := m_numbers_l (d := d + 1) (nb := nb) c1 c3 0 (by omega) (by omega) (pI (pI (pI h 72 0 0) 87 t.toNat s) 88 t.toNat k) nb ((hm.pI _ _ _).pI _ _ _) t3 (fun j => by rw [if_neg (by omega)])
  have ff : Fr (fun a _ => a = 87 ∨ a = 88 ∨ a = 89) (pI h 72 0 0) h' := (Fr.pI (Fr.pI Fr.rf (Or.inl rfl)) (Or.inr (Or.inl rfl))).tr (f1.mo (fun a k q => Or.inr (Or.inr q)))
  refine ⟨h', ?_, mb0.t ff (fun a k q => q) ⟨fun j => ?_, fun j => ?_, k1⟩, (fwT f0).tr (ff.mo (fun a k q => by unfold wT; omega))⟩
  · show EX (d+1) m_Mod_numbers 0 [(0, .inr (.inr (72))), (1, .inl (t)), (2, .inl (s)), (3, .inl (k))] [] (h) = _
    simp (disch := omega) only [Mod_numbers_0, Mod_numbers_5, Mod_numbers_14, Mod_numbers_17, Mod_numbers_26, Mod_numbers_29, Mod_numbers_32, Mod_numbers_41, Mod_numbers_44, Mod_numbers_47, Mod_numbers_54, Mod_numbers_61, Mod_numbers_70, Mod_numbers_83, Mod_numbers_89, wr_id, ix_id, okx, if_pos, if_neg, Int.toNat_of_nonneg, bak_v, bak_n, wr_b01, wr_bt, b01_or, b01_0, b01_1, lc_lt0, lc_gt0, lc_eq0, wl_wr, wr_wr, wl_id, true_and, and_true, true_or, or_true, not_true_eq_false, not_false_eq_true, nc0, nc1, nc2, nc3, nc4, nc5, nc6, nc7, nc8, nc9, nc10, nc11, nc12, nc13, nc14, nc15, nc16, nc17, nc18, nc19, nc20, nc21, nc22, nc23, nc35, nc47, nc59, nc60, nc61, nc73, nc74, nc214, nc215, nc1115, nc2230, nc3345, if_true, if_false, Int.reduceToNat, hk, hm.k, hm.r1, hm.r2, hm.r3, hm.r4, hm.r15, hm.r16, hm.r19, hm.r23, hm.r24, hm.r25, hm.r26, hm.r29, hm.r30, hm.r31, hm.r33, hm.r34, hm.r35, hm.k73, hm.k74, hm.k75, hm.k76, hm.k77, hm.k78, hm.k79, hm.k80, hm.k81, hm.k82, hm.k83, hm.k84, hm.k85, hm.k86, hm.k87, hm.k88, hm.k89, hm.n73, hm.n74, hm.n75, hm.n76, hm.n77, hm.n78, hm.n79, hm.n80, hm.n81, hm.n82, hm.n83, hm.n84, hm.n85, hm.n86, hm.n87, hm.n88, hm.n89, m_within, sK_pI, sN_pI, hR_pI, e]
  · rw [f1.I (by omega), hI_pI, if_neg (by omega)]
    exact up_row t1 c1.1 j
  · rw [f1.I (by omega)]
    exact up_row (h := pI (pI h 72 0 0) 87 t.toNat s) (fun j => by rw [hI_pI, if_neg (by omega)]; exact t2 j) c1.1 j
theorem mm_numbers_no {d : Nat} {h : Hp} {S G T rs rm nb : Int → Int} {n fk fp : Int} (mb : MB h S G T rs rm nb n fk fp) {t s k : Int} (rt : -2147483648 ≤ t ∧ t ≤ 2147483647) (rs' : -2147483648 ≤ s ∧ s ≤ 2147483647) (rk : -2147483648 ≤ k ∧ k ≤ 2147483647) (c : ¬ okNum t s k) : ∃ h', cal (d+2) m_Mod_numbers [.inr (.inr (72)), .inl (t), .inl (s), .inl (k)] (h) = some (.inl (ansNum t s k), h') ∧ MB h' S G T rs rm nb n fk fp ∧ Fr wT h h' := by
  have ms0 : MS (pI h 72 0 0) S := mb.1.o (by omega)
  have f0 : Fr wQ h (pI h 72 0 0) := f72 (by omega)
  have hk := mb.1.1.k
  have hm := ms0.1
  unfold okNum at c
  refine ⟨pI h 72 0 0, ?_, mb.fr f0 ms0, fwT f0⟩
  show EX (d+1) m_Mod_numbers 0 [(0, .inr (.inr (72))), (1, .inl (t)), (2, .inl (s)), (3, .inl (k))] [] (h) = _
  unfold ansNum
  by_cases c1 : 0 ≤ t ∧ t < 4
  · by_cases c2 : 0 ≤ s ∧ s ≤ 3
    · simp (disch := omega) only [Mod_numbers_0, Mod_numbers_5, Mod_numbers_14, Mod_numbers_17, Mod_numbers_26, Mod_numbers_29, Mod_numbers_32, Mod_numbers_41, Mod_numbers_44, wr_id, ix_id, okx, if_pos, if_neg, Int.toNat_of_nonneg, bak_v, bak_n, wr_b01, wr_bt, b01_or, b01_0, b01_1, lc_lt0, lc_gt0, lc_eq0, wl_wr, wr_wr, wl_id, true_and, and_true, true_or, or_true, not_true_eq_false, not_false_eq_true, nc0, nc1, nc2, nc3, nc4, nc5, nc6, nc7, nc8, nc9, nc10, nc11, nc12, nc13, nc14, nc15, nc16, nc17, nc18, nc19, nc20, nc21, nc22, nc23, nc35, nc47, nc59, nc60, nc61, nc73, nc74, nc214, nc215, nc1115, nc2230, nc3345, if_true, if_false, Int.reduceToNat, hk, m_within]
    · simp (disch := omega) only [Mod_numbers_0, Mod_numbers_5, Mod_numbers_14, Mod_numbers_17, Mod_numbers_26, Mod_numbers_29, wr_id, ix_id, okx, if_pos, if_neg, Int.toNat_of_nonneg, bak_v, bak_n, wr_b01, wr_bt, b01_or, b01_0, b01_1, lc_lt0, lc_gt0, lc_eq0, wl_wr, wr_wr, wl_id, true_and, and_true, true_or, or_true, not_true_eq_false, not_false_eq_true, nc0, nc1, nc2, nc3, nc4, nc5, nc6, nc7, nc8, nc9, nc10, nc11, nc12, nc13, nc14, nc15, nc16, nc17, nc18, nc19, nc20, nc21, nc22, nc23, nc35, nc47, nc59, nc60, nc61, nc73, nc74, nc214, nc215, nc1115, nc2230, nc3345, if_true, if_false, Int.reduceToNat, hk, m_within]
  · simp (disch := omega) only [Mod_numbers_0, Mod_numbers_5, Mod_numbers_14, Mod_numbers_29, wr_id, ix_id, okx, if_pos, if_neg, Int.toNat_of_nonneg, bak_v, bak_n, wr_b01, wr_bt, b01_or, b01_0, b01_1, lc_lt0, lc_gt0, lc_eq0, wl_wr, wr_wr, wl_id, true_and, and_true, true_or, or_true, not_true_eq_false, not_false_eq_true, nc0, nc1, nc2, nc3, nc4, nc5, nc6, nc7, nc8, nc9, nc10, nc11, nc12, nc13, nc14, nc15, nc16, nc17, nc18, nc19, nc20, nc21, nc22, nc23, nc35, nc47, nc59, nc60, nc61, nc73, nc74, nc214, nc215, nc1115, nc2230, nc3345, if_true, if_false, Int.reduceToNat, hk, m_within]
def ansWrite (rs rm : Int → Int) (t i v : Int) : Int := if ¬ noT rs t = 0 then noT rs t else if ¬ (0 ≤ i ∧ i < rm t) then -7 else cutV (rs t) v
def nbWrite (rs rm nb : Int → Int) (t i v : Int) : Int → Int := if ¬ noT rs t = 0 then nb else if ¬ (0 ≤ i ∧ i < rm t) then nb else up nb (40 * t + i) (cutV (rs t) v)
theorem mm_write {d : Nat} {h : Hp} {S G T rs rm nb : Int → Int} {n fk fp : Int} (mb : MB h S G T rs rm nb n fk fp) (tg : TG rs rm nb) {t i v : Int} (rt : -2147483648 ≤ t ∧ t ≤ 2147483647) (ri : -2147483648 ≤ i ∧ i ≤ 2147483647) : ∃ h', cal (d+3) m_Mod_write [.inr (.inr (72)), .inl (t), .inl (i), .inr (.inl (v))] (h) = some (.inr (.inl (ansWrite rs rm t i v)), h') ∧ MB h' S G T rs rm (nbWrite rs rm nb t i v) n fk fp ∧ Fr wT h h' := by
  have ms0 : MS (pI h 72 0 0) S := mb.1.o (by omega)
  have f0 : Fr wQ h (pI h 72 0 0) := f72 (by omega)
  have hk := mb.1.1.k
  have hm := ms0.1
  have mb0 := mb.fr f0 ms0
  obtain ⟨t1, t2, t3⟩ := mb0.2.2.2.2
  have nr := noT_rng rs t
  unfold ansWrite nbWrite
  by_cases c : noT rs t = 0
  · have cc : ¬ ¬ noT rs t = 0 := fun q => q c
    rw [if_neg cc, if_neg cc]
    obtain ⟨n1, n2⟩ := noT_0 c
    have gt := tg.1 t n1.1 n1.2
    by_cases c2 : 0 ≤ i ∧ i < rm t
    · have cc2 : ¬ ¬ (0 ≤ i ∧ i < rm t) := fun q => q c2
      rw [if_neg cc2, if_neg cc2]
      have ff : Fr (fun a _ => a = 87 ∨ a = 88 ∨ a = 89) (pI h 72 0 0) (pL (pI h 72 0 0) 89 (40 * t + i).toNat (cutV (rs t) v)) := Fr.pL Fr.rf (Or.inr (Or.inr rfl))
      refine ⟨pL (pI h 72 0 0) 89 (40 * t + i).toNat (cutV (rs t) v), ?_, mb0.t ff (fun a k q => q) ⟨t1, t2, up_rowL t3 (by omega)⟩, (fwT f0).tr (ff.mo (fun a k q => by unfold wT; omega))⟩
      show EX (d+2) m_Mod_write 0 [(0, .inr (.inr (72))), (1, .inl (t)), (2, .inl (i)), (3, .inr (.inl (v)))] [] (h) = _
      simp (disch := omega) only [Mod_write_0, Mod_write_5, Mod_write_10, Mod_write_17, Mod_write_21, Mod_write_36, Mod_write_39, Mod_write_43, Mod_write_63, Mod_write_64, wr_id, ix_id, okx, if_pos, if_neg, Int.toNat_of_nonneg, bak_v, bak_n, wr_b01, wr_bt, b01_or, b01_0, b01_1, lc_lt0, lc_gt0, lc_eq0, wl_wr, wr_wr, wl_id, true_and, and_true, true_or, or_true, not_true_eq_false, not_false_eq_true, nc0, nc1, nc2, nc3, nc4, nc5, nc6, nc7, nc8, nc9, nc10, nc11, nc12, nc13, nc14, nc15, nc16, nc17, nc18, nc19, nc20, nc21, nc22, nc23, nc35, nc47, nc59, nc60, nc61, nc73, nc74, nc214, nc215, nc1115, nc2230, nc3345, if_true, if_false, Int.reduceToNat, hk, hm.k, hm.r1, hm.r2, hm.r3, hm.r4, hm.r15, hm.r16, hm.r19, hm.r23, hm.r24, hm.r25, hm.r26, hm.r29, hm.r30, hm.r31, hm.r33, hm.r34, hm.r35, hm.k73, hm.k74, hm.k75, hm.k76, hm.k77, hm.k78, hm.k79, hm.k80, hm.k81, hm.k82, hm.k83, hm.k84, hm.k85, hm.k86, hm.k87, hm.k88, hm.k89, hm.n73, hm.n74, hm.n75, hm.n76, hm.n77, hm.n78, hm.n79, hm.n80, hm.n81, hm.n82, hm.n83, hm.n84, hm.n85, hm.n86, hm.n87, hm.n88, hm.n89, m_noTray hm mb0.2.2.2.2 tg, c, t1, t2, m_within, m_cut, sK_pL, sN_pL, hR_pL, hL_pL, and_self]
    · rw [if_pos c2, if_pos c2]
      refine ⟨pI h 72 0 0, ?_, mb0, fwT f0⟩
      show EX (d+2) m_Mod_write 0 [(0, .inr (.inr (72))), (1, .inl (t)), (2, .inl (i)), (3, .inr (.inl (v)))] [] (h) = _
      simp (disch := omega) only [Mod_write_0, Mod_write_5, Mod_write_10, Mod_write_21, Mod_write_36, Mod_write_39, wr_id, ix_id, okx, if_pos, if_neg, Int.toNat_of_nonneg, bak_v, bak_n, wr_b01, wr_bt, b01_or, b01_0, b01_1, lc_lt0, lc_gt0, lc_eq0, wl_wr, wr_wr, wl_id, true_and, and_true, true_or, or_true, not_true_eq_false, not_false_eq_true, nc0, nc1, nc2, nc3, nc4, nc5, nc6, nc7, nc8, nc9, nc10, nc11, nc12, nc13, nc14, nc15, nc16, nc17, nc18, nc19, nc20, nc21, nc22, nc23, nc35, nc47, nc59, nc60, nc61, nc73, nc74, nc214, nc215, nc1115, nc2230, nc3345, if_true, if_false, Int.reduceToNat, hk, hm.k, hm.r1, hm.r2, hm.r3, hm.r4, hm.r15, hm.r16, hm.r19, hm.r23, hm.r24, hm.r25, hm.r26, hm.r29, hm.r30, hm.r31, hm.r33, hm.r34, hm.r35, hm.k73, hm.k74, hm.k75, hm.k76, hm.k77, hm.k78, hm.k79, hm.k80, hm.k81, hm.k82, hm.k83, hm.k84, hm.k85, hm.k86, hm.k87, hm.k88, hm.k89, hm.n73, hm.n74, hm.n75, hm.n76, hm.n77, hm.n78, hm.n79, hm.n80, hm.n81, hm.n82, hm.n83, hm.n84, hm.n85, hm.n86, hm.n87, hm.n88, hm.n89, m_noTray hm mb0.2.2.2.2 tg, c, t1, t2, m_within]
  · rw [if_pos c, if_pos c]
    refine ⟨pI h 72 0 0, ?_, mb0, fwT f0⟩
    show EX (d+2) m_Mod_write 0 [(0, .inr (.inr (72))), (1, .inl (t)), (2, .inl (i)), (3, .inr (.inl (v)))] [] (h) = _
    simp (disch := omega) only [Mod_write_0, Mod_write_5, Mod_write_10, Mod_write_17, wr_id, ix_id, okx, if_pos, if_neg, Int.toNat_of_nonneg, bak_v, bak_n, wr_b01, wr_bt, b01_or, b01_0, b01_1, lc_lt0, lc_gt0, lc_eq0, wl_wr, wr_wr, wl_id, true_and, and_true, true_or, or_true, not_true_eq_false, not_false_eq_true, nc0, nc1, nc2, nc3, nc4, nc5, nc6, nc7, nc8, nc9, nc10, nc11, nc12, nc13, nc14, nc15, nc16, nc17, nc18, nc19, nc20, nc21, nc22, nc23, nc35, nc47, nc59, nc60, nc61, nc73, nc74, nc214, nc215, nc1115, nc2230, nc3345, if_true, if_false, Int.reduceToNat, hk, hm.k, hm.r1, hm.r2, hm.r3, hm.r4, hm.r15, hm.r16, hm.r19, hm.r23, hm.r24, hm.r25, hm.r26, hm.r29, hm.r30, hm.r31, hm.r33, hm.r34, hm.r35, hm.k73, hm.k74, hm.k75, hm.k76, hm.k77, hm.k78, hm.k79, hm.k80, hm.k81, hm.k82, hm.k83, hm.k84, hm.k85, hm.k86, hm.k87, hm.k88, hm.k89, hm.n73, hm.n74, hm.n75, hm.n76, hm.n77, hm.n78, hm.n79, hm.n80, hm.n81, hm.n82, hm.n83, hm.n84, hm.n85, hm.n86, hm.n87, hm.n88, hm.n89, m_noTray hm mb0.2.2.2.2 tg]
theorem m_sagOver_l {d : Nat} {h : Hp} {S : Int → Int} (ms : MS h S) (g : Gd S) {z : Int} (hz : 0 ≤ z ∧ z ≤ 100) : ∀ i, 0 ≤ i → i ≤ 12 → EX (d+2) m_Mod_sagOver 2 [(0, .inr (.inr (72))), (1, .inl (z)), (2, .inl (i))] [] (h) = some (.inl (if ff (ovr S z) i (S 1) = -1 then -2 else sagJ S (ff (ovr S z) i (S 1))), h) := by
  have hm := ms.1
  have ga := g.a
  have gb := g.b
  refine up_ind (hi := S 1) ?_ ?_
  · intro i hi h0 h1
    rw [Mod_sagOver_2]
    simp (disch := omega) only [Mod_sagOver_0, Mod_sagOver_12, Mod_sagOver_17, Mod_sagOver_31, Mod_sagOver_44, Mod_sagOver_49, Mod_sagOver_62, Mod_sagOver_67, Mod_sagOver_68, Mod_sagOver_74, wr_id, ix_id, okx, if_pos, if_neg, Int.toNat_of_nonneg, bak_v, bak_n, wr_b01, wr_bt, b01_or, b01_0, b01_1, lc_lt0, lc_gt0, lc_eq0, wl_wr, wr_wr, wl_id, true_and, and_true, true_or, or_true, not_true_eq_false, not_false_eq_true, nc0, nc1, nc2, nc3, nc4, nc5, nc6, nc7, nc8, nc9, nc10, nc11, nc12, nc13, nc14, nc15, nc16, nc17, nc18, nc19, nc20, nc21, nc22, nc23, nc35, nc47, nc59, nc60, nc61, nc73, nc74, nc214, nc215, nc1115, nc2230, nc3345, if_true, if_false, Int.reduceToNat, hm.k, hm.r1, hm.r2, hm.r3, hm.r4, hm.r15, hm.r16, hm.r19, hm.r23, hm.r24, hm.r25, hm.r26, hm.r29, hm.r30, hm.r31, hm.r33, hm.r34, hm.r35, hm.k73, hm.k74, hm.k75, hm.k76, hm.k77, hm.k78, hm.k79, hm.k80, hm.k81, hm.k82, hm.k83, hm.k84, hm.k85, hm.k86, hm.k87, hm.k88, hm.k89, hm.n73, hm.n74, hm.n75, hm.n76, hm.n77, hm.n78, hm.n79, hm.n80, hm.n81, hm.n82, hm.n83, hm.n84, hm.n85, hm.n86, hm.n87, hm.n88, hm.n89, ms.2, ff_stop]
  · intro i hi ih h0 h1
    have gr := g.rg h0 (by omega)
    have ih := ih (by omega) (by omega)
    have f2 := ff_spec (p := Jn S) (N := S 1) (i + 1)
    have i1 : ¬ i = -1 := by omega
    rw [Mod_sagOver_2, ff_step hi]
    by_cases c1 : S (61 + i) = -1
    · simp (disch := omega) only [Mod_sagOver_0, Mod_sagOver_12, Mod_sagOver_17, Mod_sagOver_31, Mod_sagOver_44, Mod_sagOver_49, Mod_sagOver_62, Mod_sagOver_67, Mod_sagOver_68, Mod_sagOver_74, wr_id, ix_id, okx, if_pos, if_neg, Int.toNat_of_nonneg, bak_v, bak_n, wr_b01, wr_bt, b01_or, b01_0, b01_1, lc_lt0, lc_gt0, lc_eq0, wl_wr, wr_wr, wl_id, true_and, and_true, true_or, or_true, not_true_eq_false, not_false_eq_true, nc0, nc1, nc2, nc3, nc4, nc5, nc6, nc7, nc8, nc9, nc10, nc11, nc12, nc13, nc14, nc15, nc16, nc17, nc18, nc19, nc20, nc21, nc22, nc23, nc35, nc47, nc59, nc60, nc61, nc73, nc74, nc214, nc215, nc1115, nc2230, nc3345, if_true, if_false, Int.reduceToNat, hm.k, hm.r1, hm.r2, hm.r3, hm.r4, hm.r15, hm.r16, hm.r19, hm.r23, hm.r24, hm.r25, hm.r26, hm.r29, hm.r30, hm.r31, hm.r33, hm.r34, hm.r35, hm.k73, hm.k74, hm.k75, hm.k76, hm.k77, hm.k78, hm.k79, hm.k80, hm.k81, hm.k82, hm.k83, hm.k84, hm.k85, hm.k86, hm.k87, hm.k88, hm.k89, hm.n73, hm.n74, hm.n75, hm.n76, hm.n77, hm.n78, hm.n79, hm.n80, hm.n81, hm.n82, hm.n83, hm.n84, hm.n85, hm.n86, hm.n87, hm.n88, hm.n89, ms.2, m_sagOf ms g, m_nextJoined ms g, ih]
      simp [ovr, c1]
    · by_cases c2 : ff (Jn S) (i + 1) (S 1) = -1
      · simp (disch := omega) only [Mod_sagOver_0, Mod_sagOver_12, Mod_sagOver_17, Mod_sagOver_31, Mod_sagOver_44, Mod_sagOver_49, Mod_sagOver_62, Mod_sagOver_67, Mod_sagOver_68, Mod_sagOver_74, wr_id, ix_id, okx, if_pos, if_neg, Int.toNat_of_nonneg, bak_v, bak_n, wr_b01, wr_bt, b01_or, b01_0, b01_1, lc_lt0, lc_gt0, lc_eq0, wl_wr, wr_wr, wl_id, true_and, and_true, true_or, or_true, not_true_eq_false, not_false_eq_true, nc0, nc1, nc2, nc3, nc4, nc5, nc6, nc7, nc8, nc9, nc10, nc11, nc12, nc13, nc14, nc15, nc16, nc17, nc18, nc19, nc20, nc21, nc22, nc23, nc35, nc47, nc59, nc60, nc61, nc73, nc74, nc214, nc215, nc1115, nc2230, nc3345, if_true, if_false, Int.reduceToNat, hm.k, hm.r1, hm.r2, hm.r3, hm.r4, hm.r15, hm.r16, hm.r19, hm.r23, hm.r24, hm.r25, hm.r26, hm.r29, hm.r30, hm.r31, hm.r33, hm.r34, hm.r35, hm.k73, hm.k74, hm.k75, hm.k76, hm.k77, hm.k78, hm.k79, hm.k80, hm.k81, hm.k82, hm.k83, hm.k84, hm.k85, hm.k86, hm.k87, hm.k88, hm.k89, hm.n73, hm.n74, hm.n75, hm.n76, hm.n77, hm.n78, hm.n79, hm.n80, hm.n81, hm.n82, hm.n83, hm.n84, hm.n85, hm.n86, hm.n87, hm.n88, hm.n89, ms.2, m_sagOf ms g, m_nextJoined ms g, ih]
        by_cases c3 : z < S (61 + i) <;> simp [ovr, c2, c3]
      · have f3 := nxt_facts g (by omega) hi c2
        simp (disch := omega) only [Mod_sagOver_0, Mod_sagOver_12, Mod_sagOver_17, Mod_sagOver_31, Mod_sagOver_44, Mod_sagOver_49, Mod_sagOver_62, Mod_sagOver_67, Mod_sagOver_68, Mod_sagOver_74, wr_id, ix_id, okx, if_pos, if_neg, Int.toNat_of_nonneg, bak_v, bak_n, wr_b01, wr_bt, b01_or, b01_0, b01_1, lc_lt0, lc_gt0, lc_eq0, wl_wr, wr_wr, wl_id, true_and, and_true, true_or, or_true, not_true_eq_false, not_false_eq_true, nc0, nc1, nc2, nc3, nc4, nc5, nc6, nc7, nc8, nc9, nc10, nc11, nc12, nc13, nc14, nc15, nc16, nc17, nc18, nc19, nc20, nc21, nc22, nc23, nc35, nc47, nc59, nc60, nc61, nc73, nc74, nc214, nc215, nc1115, nc2230, nc3345, if_true, if_false, Int.reduceToNat, hm.k, hm.r1, hm.r2, hm.r3, hm.r4, hm.r15, hm.r16, hm.r19, hm.r23, hm.r24, hm.r25, hm.r26, hm.r29, hm.r30, hm.r31, hm.r33, hm.r34, hm.r35, hm.k73, hm.k74, hm.k75, hm.k76, hm.k77, hm.k78, hm.k79, hm.k80, hm.k81, hm.k82, hm.k83, hm.k84, hm.k85, hm.k86, hm.k87, hm.k88, hm.k89, hm.n73, hm.n74, hm.n75, hm.n76, hm.n77, hm.n78, hm.n79, hm.n80, hm.n81, hm.n82, hm.n83, hm.n84, hm.n85, hm.n86, hm.n87, hm.n88, hm.n89, ms.2, m_sagOf ms g, m_nextJoined ms g, ih]
        by_cases c3 : z < S (61 + i)
        · have c3' : ¬ S (61 + i) ≤ z := by omega
          simp [ovr, c1, c2, c3, c3']
        · have c3' : S (61 + i) ≤ z := by omega
          by_cases c4 : z < S (61 + ff (Jn S) (i + 1) (S 1))
          · simp [ovr, c1, c2, c3, c3', c4, i1]
          · simp [ovr, c1, c2, c3, c3', c4]
theorem m_sagOver {d : Nat} {h : Hp} {S : Int → Int} (ms : MS h S) (g : Gd S) {z : Int} (hz : 0 ≤ z ∧ z ≤ 100) : cal (d+3) m_Mod_sagOver [.inr (.inr (72)), .inl (z)] (h) = some (.inl (seenM S z), h) := by
  show EX (d+2) m_Mod_sagOver 0 [(0, .inr (.inr (72))), (1, .inl (z))] [] (h) = _
  rw [Mod_sagOver_0, m_sagOver_l ms g hz 0 (by omega) (by omega)]
  rfl
theorem seenM_rng {S : Int → Int} (g : Gd S) (z : Int) : -1200 ≤ seenM S z ∧ seenM S z ≤ 1200 := by
  unfold seenM
  split
  · omega
  · rcases ff_spec (p := ovr S z) (N := S 1) 0 with q | q
    · omega
    · exact sagJ_rng g q.1 q.2.1
/-- how many places copy fills -/
def cpN (S rm : Int → Int) (t : Int) : Int := if (if S 2 = 0 then 0 else S 2 - 1) < rm t then (if S 2 = 0 then 0 else S 2 - 1) else rm t
def ansCopy (S rs rm : Int → Int) (t : Int) : Int := if ¬ noT rs t = 0 then noT rs t else cpN S rm t
def cpV (S rs nb : Int → Int) (t k : Int) : Int → Int := fun j => if 40 * t ≤ j ∧ j < 40 * t + k then cutV (rs t) (seenM S (j - 40 * t)) else nb j
def nbCopy (S rs rm nb : Int → Int) (t : Int) : Int → Int := if ¬ noT rs t = 0 then nb else cpV S rs nb t (cpN S rm t)
theorem m_copy_l {d : Nat} {S rs nb : Int → Int} (g : Gd S) {t k : Int} (ht : 0 ≤ t ∧ t < 4) (hs : 0 ≤ rs t ∧ rs t ≤ 3) (hk : 0 ≤ k ∧ k ≤ 40) : ∀ i, 0 ≤ i → i ≤ k → ∀ (h : Hp) (U : Int → Int), MS h S → (∀ j : Nat, hI h 87 j = rs j) → (∀ j : Nat, hL h 89 j = U j) → (∀ j, U j = if 40 * t ≤ j ∧ j < 40 * t + i then cutV (rs t) (seenM S (j - 40 * t)) else nb j) → ∃ h', EX (d+3) m_Mod_copy 64 [(0, .inr (.inr (72))), (1, .inl (t)), (4, .inl (k)), (5, .inl (i))] [] (h) = some (.inl k, h') ∧ (∀ j : Nat, hL h' 89 j = cpV S rs nb t k j) ∧ Fr (fun a _ => a = 89) h h' := by
  refine up_ind (hi := k) ?_ ?_
  · intro i hi h0 h1 h U ms t1 hU hk2
    refine ⟨h, ?_, fun j => ?_, Fr.rf⟩
    · rw [Mod_copy_64]
      simp (disch := omega) only [Mod_copy_105, wr_id, ix_id, okx, if_pos, if_neg, Int.toNat_of_nonneg, bak_v, bak_n, wr_b01, wr_bt, b01_or, b01_0, b01_1, lc_lt0, lc_gt0, lc_eq0, wl_wr, wr_wr, wl_id, true_and, and_true, true_or, or_true, not_true_eq_false, not_false_eq_true, nc0, nc1, nc2, nc3, nc4, nc5, nc6, nc7, nc8, nc9, nc10, nc11, nc12, nc13, nc14, nc15, nc16, nc17, nc18, nc19, nc20, nc21, nc22, nc23, nc35, nc47, nc59, nc60, nc61, nc73, nc74, nc214, nc215, nc1115, nc2230, nc3345, if_true, if_false, Int.reduceToNat]
    · rw [hU, hk2, show i = k by omega]
      rfl
  · intro i hi ih h0 h1 h U ms t1 hU hk2
    have hm := ms.1
    have sr := seenM_rng g i
    obtain ⟨h', e, k1, f1⟩ := ih (by omega) (by omega) (pL h 89 (40 * t + i).toNat (cutV (rs t) (seenM S i))) (up U (40 * t + i) (cutV (rs t) (seenM S i))) ⟨hm.pL _ _ _, ms.2⟩ t1 (up_rowL hU (by omega)) (fun j => by
      by_cases c : j = 40 * t + i
      · rw [c, up_same, if_pos (by omega), show 40 * t + i - 40 * t = i by omega]
      · rw [up_ne c, hk2]
        by_cases c2 : 40 * t ≤ j ∧ j < 40 * t + i
        · rw [if_pos c2, if_pos (by omega)]
        · rw [if_neg c2, if_neg (by omega)])
    refine ⟨h', ?_, k1, Fr.tr (Fr.pL Fr.rf (by rfl)) f1⟩
    rw [Mod_copy_64]
    simp (disch := omega) only [Mod_copy_71, Mod_copy_88, Mod_copy_98, Mod_copy_99, wr_id, ix_id, okx, if_pos, if_neg, Int.toNat_of_nonneg, bak_v, bak_n, wr_b01, wr_bt, b01_or, b01_0, b01_1, lc_lt0, lc_gt0, lc_eq0, wl_wr, wr_wr, wl_id, true_and, and_true, true_or, or_true, not_true_eq_false, not_false_eq_true, nc0, nc1, nc2, nc3, nc4, nc5, nc6, nc7, nc8, nc9, nc10, nc11, nc12, nc13, nc14, nc15, nc16, nc17, nc18, nc19, nc20, nc21, nc22, nc23, nc35, nc47, nc59, nc60, nc61, nc73, nc74, nc214, nc215, nc1115, nc2230, nc3345, if_true, if_false, Int.reduceToNat, hm.k, hm.r1, hm.r2, hm.r3, hm.r4, hm.r15, hm.r16, hm.r19, hm.r23, hm.r24, hm.r25, hm.r26, hm.r29, hm.r30, hm.r31, hm.r33, hm.r34, hm.r35, hm.k73, hm.k74, hm.k75, hm.k76, hm.k77, hm.k78, hm.k79, hm.k80, hm.k81, hm.k82, hm.k83, hm.k84, hm.k85, hm.k86, hm.k87, hm.k88, hm.k89, hm.n73, hm.n74, hm.n75, hm.n76, hm.n77, hm.n78, hm.n79, hm.n80, hm.n81, hm.n82, hm.n83, hm.n84, hm.n85, hm.n86, hm.n87, hm.n88, hm.n89, m_sagOver ms g, t1, m_cut, e]
theorem mm_copy {d : Nat} {h : Hp} {S G T rs rm nb : Int → Int} {n fk fp : Int} (mb : MB h S G T rs rm nb n fk fp) (g : Gd S) (tg : TG rs rm nb) {t : Int} (rt : -2147483648 ≤ t ∧ t ≤ 2147483647) : ∃ h', cal (d+4) m_Mod_copy [.inr (.inr (72)), .inl (t)] (h) = some (.inl (ansCopy S rs rm t), h') ∧ MB h' S G T rs rm (nbCopy S rs rm nb t) n fk fp ∧ Fr wT h h' := by
  have ms0 : MS (pI h 72 0 0) S := mb.1.o (by omega)
  have f0 : Fr wQ h (pI h 72 0 0) := f72 (by omega)
  have hk := mb.1.1.k
  have hm := ms0.1
  have mb0 := mb.fr f0 ms0
  obtain ⟨t1, t2, t3⟩ := mb0.2.2.2.2
  have nr := noT_rng rs t
  have gb := g.b
  unfold ansCopy nbCopy
  by_cases c : noT rs t = 0
  · have cc : ¬ ¬ noT rs t = 0 := fun q => q c
    rw [if_neg cc, if_neg cc]
    obtain ⟨n1, n2⟩ := noT_0 c
    have gt := tg.1 t n1.1 n1.2
    have hn : 0 ≤ cpN S rm t ∧ cpN S rm t ≤ 40 := by unfold cpN; repeat' split
                                                     all_goals omega
    obtain ⟨h', e, k1, f1⟩ := m_copy_l (d := d) (nb := nb) g n1 (by omega) hn 0 (by omega) (by omega) (pI h 72 0 0) nb ms0 t1 t3 (fun j => by rw [if_neg (by omega)])
    refine ⟨h', ?_, mb0.t f1 (fun a k q => by omega) ⟨fun j => by rw [f1.I (by omega)]; exact t1 j, fun j => by rw [f1.I (by omega)]; exact t2 j, k1⟩, (fwT f0).tr (f1.mo (fun a k q => by unfold wT; omega))⟩
    show EX (d+3) m_Mod_copy 0 [(0, .inr (.inr (72))), (1, .inl (t))] [] (h) = _
    unfold cpN at e ⊢
    by_cases c2 : S 2 = 0
    · rw [if_pos c2] at e ⊢
      by_cases c3 : 0 < rm t
      · rw [if_pos c3] at e ⊢
        simp (disch := omega) only [Mod_copy_0, Mod_copy_5, Mod_copy_10, Mod_copy_15, Mod_copy_17, Mod_copy_26, Mod_copy_30, Mod_copy_38, Mod_copy_49, Mod_copy_53, Mod_copy_59, Mod_copy_71, Mod_copy_88, Mod_copy_98, Mod_copy_99, Mod_copy_105, wr_id, ix_id, okx, if_pos, if_neg, Int.toNat_of_nonneg, bak_v, bak_n, wr_b01, wr_bt, b01_or, b01_0, b01_1, lc_lt0, lc_gt0, lc_eq0, wl_wr, wr_wr, wl_id, true_and, and_true, true_or, or_true, not_true_eq_false, not_false_eq_true, nc0, nc1, nc2, nc3, nc4, nc5, nc6, nc7, nc8, nc9, nc10, nc11, nc12, nc13, nc14, nc15, nc16, nc17, nc18, nc19, nc20, nc21, nc22, nc23, nc35, nc47, nc59, nc60, nc61, nc73, nc74, nc214, nc215, nc1115, nc2230, nc3345, if_true, if_false, Int.reduceToNat, hk, hm.k, hm.r1, hm.r2, hm.r3, hm.r4, hm.r15, hm.r16, hm.r19, hm.r23, hm.r24, hm.r25, hm.r26, hm.r29, hm.r30, hm.r31, hm.r33, hm.r34, hm.r35, hm.k73, hm.k74, hm.k75, hm.k76, hm.k77, hm.k78, hm.k79, hm.k80, hm.k81, hm.k82, hm.k83, hm.k84, hm.k85, hm.k86, hm.k87, hm.k88, hm.k89, hm.n73, hm.n74, hm.n75, hm.n76, hm.n77, hm.n78, hm.n79, hm.n80, hm.n81, hm.n82, hm.n83, hm.n84, hm.n85, hm.n86, hm.n87, hm.n88, hm.n89, m_noTray hm mb0.2.2.2.2 tg, c, c2, ms0.2, t2, e]
      · rw [if_neg c3] at e ⊢
        simp (disch := omega) only [Mod_copy_0, Mod_copy_5, Mod_copy_10, Mod_copy_15, Mod_copy_17, Mod_copy_26, Mod_copy_30, Mod_copy_38, Mod_copy_49, Mod_copy_53, Mod_copy_59, Mod_copy_71, Mod_copy_88, Mod_copy_98, Mod_copy_99, Mod_copy_105, wr_id, ix_id, okx, if_pos, if_neg, Int.toNat_of_nonneg, bak_v, bak_n, wr_b01, wr_bt, b01_or, b01_0, b01_1, lc_lt0, lc_gt0, lc_eq0, wl_wr, wr_wr, wl_id, true_and, and_true, true_or, or_true, not_true_eq_false, not_false_eq_true, nc0, nc1, nc2, nc3, nc4, nc5, nc6, nc7, nc8, nc9, nc10, nc11, nc12, nc13, nc14, nc15, nc16, nc17, nc18, nc19, nc20, nc21, nc22, nc23, nc35, nc47, nc59, nc60, nc61, nc73, nc74, nc214, nc215, nc1115, nc2230, nc3345, if_true, if_false, Int.reduceToNat, hk, hm.k, hm.r1, hm.r2, hm.r3, hm.r4, hm.r15, hm.r16, hm.r19, hm.r23, hm.r24, hm.r25, hm.r26, hm.r29, hm.r30, hm.r31, hm.r33, hm.r34, hm.r35, hm.k73, hm.k74, hm.k75, hm.k76, hm.k77, hm.k78, hm.k79, hm.k80, hm.k81, hm.k82, hm.k83, hm.k84, hm.k85, hm.k86, hm.k87, hm.k88, hm.k89, hm.n73, hm.n74, hm.n75, hm.n76, hm.n77, hm.n78, hm.n79, hm.n80, hm.n81, hm.n82, hm.n83, hm.n84, hm.n85, hm.n86, hm.n87, hm.n88, hm.n89, m_noTray hm mb0.2.2.2.2 tg, c, c2, ms0.2, t2, e]
    · rw [if_neg c2] at e ⊢
      by_cases c3 : S 2 - 1 < rm t
      · rw [if_pos c3] at e ⊢
        simp (disch := omega) only [Mod_copy_0, Mod_copy_5, Mod_copy_10, Mod_copy_15, Mod_copy_17, Mod_copy_26, Mod_copy_30, Mod_copy_38, Mod_copy_49, Mod_copy_53, Mod_copy_59, Mod_copy_71, Mod_copy_88, Mod_copy_98, Mod_copy_99, Mod_copy_105, wr_id, ix_id, okx, if_pos, if_neg, Int.toNat_of_nonneg, bak_v, bak_n, wr_b01, wr_bt, b01_or, b01_0, b01_1, lc_lt0, lc_gt0, lc_eq0, wl_wr, wr_wr, wl_id, true_and, and_true, true_or, or_true, not_true_eq_false, not_false_eq_true, nc0, nc1, nc2, nc3, nc4, nc5, nc6, nc7, nc8, nc9, nc10, nc11, nc12, nc13, nc14, nc15, nc16, nc17, nc18, nc19, nc20, nc21, nc22, nc23, nc35, nc47, nc59, nc60, nc61, nc73, nc74, nc214, nc215, nc1115, nc2230, nc3345, if_true, if_false, Int.reduceToNat, hk, hm.k, hm.r1, hm.r2, hm.r3, hm.r4, hm.r15, hm.r16, hm.r19, hm.r23, hm.r24, hm.r25, hm.r26, hm.r29, hm.r30, hm.r31, hm.r33, hm.r34, hm.r35, hm.k73, hm.k74, hm.k75, hm.k76, hm.k77, hm.k78, hm.k79, hm.k80, hm.k81, hm.k82, hm.k83, hm.k84, hm.k85, hm.k86, hm.k87, hm.k88, hm.k89, hm.n73, hm.n74, hm.n75, hm.n76, hm.n77, hm.n78, hm.n79, hm.n80, hm.n81, hm.n82, hm.n83, hm.n84, hm.n85, hm.n86, hm.n87, hm.n88, hm.n89, m_noTray hm mb0.2.2.2.2 tg, c, ms0.2, t2, e]
      · rw [if_neg c3] at e ⊢
        simp (disch := omega) only [Mod_copy_0, Mod_copy_5, Mod_copy_10, Mod_copy_15, Mod_copy_17, Mod_copy_26, Mod_copy_30, Mod_copy_38, Mod_copy_49, Mod_copy_53, Mod_copy_59, Mod_copy_71, Mod_copy_88, Mod_copy_98, Mod_copy_99, Mod_copy_105, wr_id, ix_id, okx, if_pos, if_neg, Int.toNat_of_nonneg, bak_v, bak_n, wr_b01, wr_bt, b01_or, b01_0, b01_1, lc_lt0, lc_gt0, lc_eq0, wl_wr, wr_wr, wl_id, true_and, and_true, true_or, or_true, not_true_eq_false, not_false_eq_true, nc0, nc1, nc2, nc3, nc4, nc5, nc6, nc7, nc8, nc9, nc10, nc11, nc12, nc13, nc14, nc15, nc16, nc17, nc18, nc19, nc20, nc21, nc22, nc23, nc35, nc47, nc59, nc60, nc61, nc73, nc74, nc214, nc215, nc1115, nc2230, nc3345, if_true, if_false, Int.reduceToNat, hk, hm.k, hm.r1, hm.r2, hm.r3, hm.r4, hm.r15, hm.r16, hm.r19, hm.r23, hm.r24, hm.r25, hm.r26, hm.r29, hm.r30, hm.r31, hm.r33, hm.r34, hm.r35, hm.k73, hm.k74, hm.k75, hm.k76, hm.k77, hm.k78, hm.k79, hm.k80, hm.k81, hm.k82, hm.k83, hm.k84, hm.k85, hm.k86, hm.k87, hm.k88, hm.k89, hm.n73, hm.n74, hm.n75, hm.n76, hm.n77, hm.n78, hm.n79, hm.n80, hm.n81, hm.n82, hm.n83, hm.n84, hm.n85, hm.n86, hm.n87, hm.n88, hm.n89, m_noTray hm mb0.2.2.2.2 tg, c, ms0.2, t2, e]
  · rw [if_pos c, if_pos c]
    refine ⟨pI h 72 0 0, ?_, mb0, fwT f0⟩
    show EX (d+3) m_Mod_copy 0 [(0, .inr (.inr (72))), (1, .inl (t))] [] (h) = _
    simp (disch := omega) only [Mod_copy_0, Mod_copy_5, Mod_copy_10, Mod_copy_15, wr_id, ix_id, okx, if_pos, if_neg, Int.toNat_of_nonneg, bak_v, bak_n, wr_b01, wr_bt, b01_or, b01_0, b01_1, lc_lt0, lc_gt0, lc_eq0, wl_wr, wr_wr, wl_id, true_and, and_true, true_or, or_true, not_true_eq_false, not_false_eq_true, nc0, nc1, nc2, nc3, nc4, nc5, nc6, nc7, nc8, nc9, nc10, nc11, nc12, nc13, nc14, nc15, nc16, nc17, nc18, nc19, nc20, nc21, nc22, nc23, nc35, nc47, nc59, nc60, nc61, nc73, nc74, nc214, nc215, nc1115, nc2230, nc3345, if_true, if_false, Int.reduceToNat, hk, hm.k, hm.r1, hm.r2, hm.r3, hm.r4, hm.r15, hm.r16, hm.r19, hm.r23, hm.r24, hm.r25, hm.r26, hm.r29, hm.r30, hm.r31, hm.r33, hm.r34, hm.r35, hm.k73, hm.k74, hm.k75, hm.k76, hm.k77, hm.k78, hm.k79, hm.k80, hm.k81, hm.k82, hm.k83, hm.k84, hm.k85, hm.k86, hm.k87, hm.k88, hm.k89, hm.n73, hm.n74, hm.n75, hm.n76, hm.n77, hm.n78, hm.n79, hm.n80, hm.n81, hm.n82, hm.n83, hm.n84, hm.n85, hm.n86, hm.n87, hm.n88, hm.n89, m_noTray hm mb0.2.2.2.2 tg]
/-! images -/
def imS (S : Int → Int) (i : Int) : Int → Int := fun k => if 1115 * (i + 1) ≤ k ∧ k < 1115 * (i + 1) + 1115 then S (k - 1115 * (i + 1)) else S k
def reS (S : Int → Int) (i : Int) : Int → Int := fun k => if k = 73 then 0 else if 0 ≤ k ∧ k < 1115 then S (1115 * (i + 1) + k) else S k
theorem MB.g {h h' : Hp} {S S' G G' T rs rm nb : Int → Int} {n fk fp : Int} (m : MB h S G T rs rm nb n fk fp) (f : Fr (fun a _ => a = 73 ∨ a = 74) h h') (ms : MS h' S') (hG : ∀ k : Nat, hI h' 74 k = G' k) : MB h' S' G' T rs rm nb n fk fp := by
  obtain ⟨m1, m2, m3, m4, m5⟩ := m
  exact ⟨ms, hG, fun k => by rw [f.I (by omega)]; exact m3 k, ⟨by rw [f.I (by omega)]; exact m4.1, by rw [f.I (by omega)]; exact m4.2.1, by rw [f.I (by omega)]; exact m4.2.2⟩, m5.fr f (fun a k q1 q2 => by omega)⟩
theorem m_image_l {d : Nat} {S : Int → Int} {i : Int} (hi : 0 ≤ i ∧ i ≤ 1) : ∀ k, 0 ≤ k → k ≤ 1115 → ∀ h U, MS h U → (∀ j, U j = if 1115 * (i + 1) ≤ j ∧ j < 1115 * (i + 1) + k then S (j - 1115 * (i + 1)) else S j) → ∃ h', EX (d) m_Mod_image 20 [(0, .inr (.inr (72))), (1, .inl (i)), (2, .inl (k))] [] (h) = EX (d) m_Mod_image 53 [(0, .inr (.inr (72))), (1, .inl (i))] [] (h') ∧ MS h' (imS S i) ∧ Fr (fun a _ => a = 73) h h' := by
  refine up_ind (hi := 1115) ?_ ?_
  · intro k hk h0 h1 h U ms hU
    have e : imS S i = U := by
      funext j
      rw [hU, show k = 1115 by omega]
      rfl
    refine ⟨h, ?_, by rw [e]; exact ms, Fr.rf⟩
    rw [Mod_image_20]
    simp (disch := omega) only [wr_id, ix_id, okx, if_pos, if_neg, Int.toNat_of_nonneg, bak_v, bak_n, wr_b01, wr_bt, b01_or, b01_0, b01_1, lc_lt0, lc_gt0, lc_eq0, wl_wr, wr_wr, wl_id, true_and, and_true, true_or, or_true, not_true_eq_false, not_false_eq_true, nc0, nc1, nc2, nc3, nc4, nc5, nc6, nc7, nc8, nc9, nc10, nc11, nc12, nc13, nc14, nc15, nc16, nc17, nc18, nc19, nc20, nc21, nc22, nc23, nc35, nc47, nc59, nc60, nc61, nc73, nc74, nc214, nc215, nc1115, nc2230, nc3345, if_true, if_false, Int.reduceToNat]
  · intro k hk ih h0 h1 h U ms hU
    have hm := ms.1
    have e0 : U k = S k := by rw [hU, if_neg (by omega)]
    obtain ⟨h', e, k1, f1⟩ := ih (by omega) (by omega) (pI h 73 (1115 * (i + 1) + k).toNat (S k)) (up U (1115 * (i + 1) + k) (S k)) (ms.up (by omega)) (fun j => by
      by_cases c : j = 1115 * (i + 1) + k
      · rw [c, up_same, if_pos (by omega)]; congr 1; omega
      · rw [up_ne c, hU]
        by_cases c2 : 1115 * (i + 1) ≤ j ∧ j < 1115 * (i + 1) + k
        · rw [if_pos c2, if_pos (by omega)]
        · rw [if_neg c2, if_neg (by omega)])
    refine ⟨h', ?_, k1, Fr.tr (Fr.pI Fr.rf (by rfl)) f1⟩
    rw [Mod_image_20]
    simp (disch := omega) only [Mod_image_27, Mod_image_47, wr_id, ix_id, okx, if_pos, if_neg, Int.toNat_of_nonneg, bak_v, bak_n, wr_b01, wr_bt, b01_or, b01_0, b01_1, lc_lt0, lc_gt0, lc_eq0, wl_wr, wr_wr, wl_id, true_and, and_true, true_or, or_true, not_true_eq_false, not_false_eq_true, nc0, nc1, nc2, nc3, nc4, nc5, nc6, nc7, nc8, nc9, nc10, nc11, nc12, nc13, nc14, nc15, nc16, nc17, nc18, nc19, nc20, nc21, nc22, nc23, nc35, nc47, nc59, nc60, nc61, nc73, nc74, nc214, nc215, nc1115, nc2230, nc3345, if_true, if_false, Int.reduceToNat, hm.k, hm.r1, hm.r2, hm.r3, hm.r4, hm.r15, hm.r16, hm.r19, hm.r23, hm.r24, hm.r25, hm.r26, hm.r29, hm.r30, hm.r31, hm.r33, hm.r34, hm.r35, hm.k73, hm.k74, hm.k75, hm.k76, hm.k77, hm.k78, hm.k79, hm.k80, hm.k81, hm.k82, hm.k83, hm.k84, hm.k85, hm.k86, hm.k87, hm.k88, hm.k89, hm.n73, hm.n74, hm.n75, hm.n76, hm.n77, hm.n78, hm.n79, hm.n80, hm.n81, hm.n82, hm.n83, hm.n84, hm.n85, hm.n86, hm.n87, hm.n88, hm.n89, ms.2, e0, e]
def ansIm (i : Int) : Int := if 0 ≤ i ∧ i ≤ 1 then 0 else -2
theorem mm_image_ok {d : Nat} {h : Hp} {S G T rs rm nb : Int → Int} {n fk fp : Int} (mb : MB h S G T rs rm nb n fk fp) {i : Int} (hi : 0 ≤ i ∧ i ≤ 1) : ∃ h', cal (d+2) m_Mod_image [.inr (.inr (72)), .inl (i)] (h) = some (.inl 0, h') ∧ MB h' (imS S i) (up G i 1) T rs rm nb n fk fp ∧ Fr wT h h' := by
  have ms0 : MS (pI h 72 0 0) S := mb.1.o (by omega)
  have f0 : Fr wQ h (pI h 72 0 0) := f72 (by omega)
  have hk := mb.1.1.k
  have hm := ms0.1
  have mb0 := mb.fr f0 ms0
  obtain ⟨h1, e1, ms1, f1⟩ := m_image_l (d := d + 1) (S := S) hi 0 (by omega) (by omega) (pI h 72 0 0) S ms0 (fun j => by rw [if_neg (by omega)])
  have hm1 := ms1.1
  have ff : Fr (fun a _ => a = 73 ∨ a = 74) (pI h 72 0 0) (pI h1 74 i.toNat 1) := Fr.pI (f1.mo (fun a k q => Or.inl q)) (Or.inr rfl)
  refine ⟨pI h1 74 i.toNat 1, ?_, mb0.g ff (ms1.o (by omega)) (up_row (fun j => by rw [f1.I (by omega)]; exact mb0.2.1 j) hi.1), (fwT f0).tr (ff.mo (fun a k q => by unfold wT wQ; omega))⟩
  show EX (d+1) m_Mod_image 0 [(0, .inr (.inr (72))), (1, .inl (i))] [] (h) = _
  simp (disch := omega) only [Mod_image_0, Mod_image_5, Mod_image_12, Mod_image_18, wr_id, ix_id, okx, if_pos, if_neg, Int.toNat_of_nonneg, bak_v, bak_n, wr_b01, wr_bt, b01_or, b01_0, b01_1, lc_lt0, lc_gt0, lc_eq0, wl_wr, wr_wr, wl_id, true_and, and_true, true_or, or_true, not_true_eq_false, not_false_eq_true, nc0, nc1, nc2, nc3, nc4, nc5, nc6, nc7, nc8, nc9, nc10, nc11, nc12, nc13, nc14, nc15, nc16, nc17, nc18, nc19, nc20, nc21, nc22, nc23, nc35, nc47, nc59, nc60, nc61, nc73, nc74, nc214, nc215, nc1115, nc2230, nc3345, if_true, if_false, Int.reduceToNat, hk, m_within, e1]
  have hm := hm1
  simp (disch := omega) only [Mod_image_53, Mod_image_60, wr_id, ix_id, okx, if_pos, if_neg, Int.toNat_of_nonneg, bak_v, bak_n, wr_b01, wr_bt, b01_or, b01_0, b01_1, lc_lt0, lc_gt0, lc_eq0, wl_wr, wr_wr, wl_id, true_and, and_true, true_or, or_true, not_true_eq_false, not_false_eq_true, nc0, nc1, nc2, nc3, nc4, nc5, nc6, nc7, nc8, nc9, nc10, nc11, nc12, nc13, nc14, nc15, nc16, nc17, nc18, nc19, nc20, nc21, nc22, nc23, nc35, nc47, nc59, nc60, nc61, nc73, nc74, nc214, nc215, nc1115, nc2230, nc3345, if_true, if_false, Int.reduceToNat, hm.k, hm.r1, hm.r2, hm.r3, hm.r4, hm.r15, hm.r16, hm.r19, hm.r23, hm.r24, hm.r25, hm.r26, hm.r29, hm.r30, hm.r31, hm.r33, hm.r34, hm.r35, hm.k73, hm.k74, hm.k75, hm.k76, hm.k77, hm.k78, hm.k79, hm.k80, hm.k81, hm.k82, hm.k83, hm.k84, hm.k85, hm.k86, hm.k87, hm.k88, hm.k89, hm.n73, hm.n74, hm.n75, hm.n76, hm.n77, hm.n78, hm.n79, hm.n80, hm.n81, hm.n82, hm.n83, hm.n84, hm.n85, hm.n86, hm.n87, hm.n88, hm.n89]
theorem mm_image_no {d : Nat} {h : Hp} {S G T rs rm nb : Int → Int} {n fk fp : Int} (mb : MB h S G T rs rm nb n fk fp) {i : Int} (ri : -2147483648 ≤ i ∧ i ≤ 2147483647) (hi : ¬ (0 ≤ i ∧ i ≤ 1)) : ∃ h', cal (d+2) m_Mod_image [.inr (.inr (72)), .inl (i)] (h) = some (.inl (-2), h') ∧ MB h' S G T rs rm nb n fk fp ∧ Fr wT h h' := by
  have ms0 : MS (pI h 72 0 0) S := mb.1.o (by omega)
  have f0 : Fr wQ h (pI h 72 0 0) := f72 (by omega)
  have hk := mb.1.1.k
  refine ⟨pI h 72 0 0, ?_, mb.fr f0 ms0, fwT f0⟩
  show EX (d+1) m_Mod_image 0 [(0, .inr (.inr (72))), (1, .inl (i))] [] (h) = _
  simp (disch := omega) only [Mod_image_0, Mod_image_5, Mod_image_12, Mod_image_15, wr_id, ix_id, okx, if_pos, if_neg, Int.toNat_of_nonneg, bak_v, bak_n, wr_b01, wr_bt, b01_or, b01_0, b01_1, lc_lt0, lc_gt0, lc_eq0, wl_wr, wr_wr, wl_id, true_and, and_true, true_or, or_true, not_true_eq_false, not_false_eq_true, nc0, nc1, nc2, nc3, nc4, nc5, nc6, nc7, nc8, nc9, nc10, nc11, nc12, nc13, nc14, nc15, nc16, nc17, nc18, nc19, nc20, nc21, nc22, nc23, nc35, nc47, nc59, nc60, nc61, nc73, nc74, nc214, nc215, nc1115, nc2230, nc3345, if_true, if_false, Int.reduceToNat, hk, m_within]
theorem m_restore_l {d : Nat} {S : Int → Int} {i : Int} (hi : 0 ≤ i ∧ i ≤ 1) : ∀ k, 0 ≤ k → k ≤ 1115 → ∀ h U, MS h U → (∀ j, U j = if 0 ≤ j ∧ j < k then S (1115 * (i + 1) + j) else S j) → ∃ h', EX (d) m_Mod_restore 32 [(0, .inr (.inr (72))), (1, .inl (i)), (2, .inl (k))] [] (h) = some (.inl 0, h') ∧ MS h' (reS S i) ∧ Fr (fun a _ => a = 73) h h' := by
  refine up_ind (hi := 1115) ?_ ?_
  · intro k hk h0 h1 h U ms hU
    have hm := ms.1
    have e : reS S i = up U 73 0 := by
      funext j
      unfold reS up
      by_cases c : j = 73
      · rw [if_pos c, if_pos c]
      · rw [if_neg c, if_neg c, hU, show k = 1115 by omega]
    refine ⟨pI h 73 73 0, ?_, by rw [e]; exact MS.up (z := 73) ms (by omega), Fr.pI Fr.rf (by rfl)⟩
    rw [Mod_restore_32]
    simp (disch := omega) only [Mod_restore_65, Mod_restore_73, wr_id, ix_id, okx, if_pos, if_neg, Int.toNat_of_nonneg, bak_v, bak_n, wr_b01, wr_bt, b01_or, b01_0, b01_1, lc_lt0, lc_gt0, lc_eq0, wl_wr, wr_wr, wl_id, true_and, and_true, true_or, or_true, not_true_eq_false, not_false_eq_true, nc0, nc1, nc2, nc3, nc4, nc5, nc6, nc7, nc8, nc9, nc10, nc11, nc12, nc13, nc14, nc15, nc16, nc17, nc18, nc19, nc20, nc21, nc22, nc23, nc35, nc47, nc59, nc60, nc61, nc73, nc74, nc214, nc215, nc1115, nc2230, nc3345, if_true, if_false, Int.reduceToNat, hm.k, hm.r1, hm.r2, hm.r3, hm.r4, hm.r15, hm.r16, hm.r19, hm.r23, hm.r24, hm.r25, hm.r26, hm.r29, hm.r30, hm.r31, hm.r33, hm.r34, hm.r35, hm.k73, hm.k74, hm.k75, hm.k76, hm.k77, hm.k78, hm.k79, hm.k80, hm.k81, hm.k82, hm.k83, hm.k84, hm.k85, hm.k86, hm.k87, hm.k88, hm.k89, hm.n73, hm.n74, hm.n75, hm.n76, hm.n77, hm.n78, hm.n79, hm.n80, hm.n81, hm.n82, hm.n83, hm.n84, hm.n85, hm.n86, hm.n87, hm.n88, hm.n89]
  · intro k hk ih h0 h1 h U ms hU
    have hm := ms.1
    have e0 : U (1115 * (i + 1) + k) = S (1115 * (i + 1) + k) := by rw [hU, if_neg (by omega)]
    obtain ⟨h', e, k1, f1⟩ := ih (by omega) (by omega) (pI h 73 k.toNat (S (1115 * (i + 1) + k))) (up U k (S (1115 * (i + 1) + k))) (ms.up (by omega)) (fun j => by
      by_cases c : j = k
      · rw [c, up_same, if_pos (by omega)]
      · rw [up_ne c, hU]
        by_cases c2 : 0 ≤ j ∧ j < k
        · rw [if_pos c2, if_pos (by omega)]
        · rw [if_neg c2, if_neg (by omega)])
    refine ⟨h', ?_, k1, Fr.tr (Fr.pI Fr.rf (by rfl)) f1⟩
    rw [Mod_restore_32]
    simp (disch := omega) only [Mod_restore_39, Mod_restore_59, wr_id, ix_id, okx, if_pos, if_neg, Int.toNat_of_nonneg, bak_v, bak_n, wr_b01, wr_bt, b01_or, b01_0, b01_1, lc_lt0, lc_gt0, lc_eq0, wl_wr, wr_wr, wl_id, true_and, and_true, true_or, or_true, not_true_eq_false, not_false_eq_true, nc0, nc1, nc2, nc3, nc4, nc5, nc6, nc7, nc8, nc9, nc10, nc11, nc12, nc13, nc14, nc15, nc16, nc17, nc18, nc19, nc20, nc21, nc22, nc23, nc35, nc47, nc59, nc60, nc61, nc73, nc74, nc214, nc215, nc1115, nc2230, nc3345, if_true, if_false, Int.reduceToNat, hm.k, hm.r1, hm.r2, hm.r3, hm.r4, hm.r15, hm.r16, hm.r19, hm.r23, hm.r24, hm.r25, hm.r26, hm.r29, hm.r30, hm.r31, hm.r33, hm.r34, hm.r35, hm.k73, hm.k74, hm.k75, hm.k76, hm.k77, hm.k78, hm.k79, hm.k80, hm.k81, hm.k82, hm.k83, hm.k84, hm.k85, hm.k86, hm.k87, hm.k88, hm.k89, hm.n73, hm.n74, hm.n75, hm.n76, hm.n77, hm.n78, hm.n79, hm.n80, hm.n81, hm.n82, hm.n83, hm.n84, hm.n85, hm.n86, hm.n87, hm.n88, hm.n89, ms.2, e0, e]
def ansRe (G : Int → Int) (i : Int) : Int := if ¬ (0 ≤ i ∧ i ≤ 1) then -2 else if G i = 0 then -5 else 0
def rowRe (S G : Int → Int) (i : Int) : Int → Int := if ¬ (0 ≤ i ∧ i ≤ 1) then S else if G i = 0 then S else reS S i
theorem mm_restore {d : Nat} {h : Hp} {S G T rs rm nb : Int → Int} {n fk fp : Int} (mb : MB h S G T rs rm nb n fk fp) (hG : ∀ i, 0 ≤ i → i ≤ 1 → G i = 0 ∨ G i = 1) {i : Int} (ri : -2147483648 ≤ i ∧ i ≤ 2147483647) : ∃ h', cal (d+2) m_Mod_restore [.inr (.inr (72)), .inl (i)] (h) = some (.inl (ansRe G i), h') ∧ MB h' (rowRe S G i) G T rs rm nb n fk fp ∧ Fr wT h h' := by
  have ms0 : MS (pI h 72 0 0) S := mb.1.o (by omega)
  have f0 : Fr wQ h (pI h 72 0 0) := f72 (by omega)
  have hk := mb.1.1.k
  have hm := ms0.1
  have mb0 := mb.fr f0 ms0
  have eG := mb0.2.1
  unfold ansRe rowRe
  by_cases hi : 0 ≤ i ∧ i ≤ 1
  · have cc : ¬ ¬ (0 ≤ i ∧ i ≤ 1) := fun q => q hi
    rw [if_neg cc, if_neg cc]
    have gi := hG i hi.1 hi.2
    by_cases c : G i = 0
    · rw [if_pos c, if_pos c]
      refine ⟨pI h 72 0 0, ?_, mb0, fwT f0⟩
      show EX (d+1) m_Mod_restore 0 [(0, .inr (.inr (72))), (1, .inl (i))] [] (h) = _
      simp (disch := omega) only [Mod_restore_0, Mod_restore_5, Mod_restore_12, Mod_restore_18, Mod_restore_27, wr_id, ix_id, okx, if_pos, if_neg, Int.toNat_of_nonneg, bak_v, bak_n, wr_b01, wr_bt, b01_or, b01_0, b01_1, lc_lt0, lc_gt0, lc_eq0, wl_wr, wr_wr, wl_id, true_and, and_true, true_or, or_true, not_true_eq_false, not_false_eq_true, nc0, nc1, nc2, nc3, nc4, nc5, nc6, nc7, nc8, nc9, nc10, nc11, nc12, nc13, nc14, nc15, nc16, nc17, nc18, nc19, nc20, nc21, nc22, nc23, nc35, nc47, nc59, nc60, nc61, nc73, nc74, nc214, nc215, nc1115, nc2230, nc3345, if_true, if_false, Int.reduceToNat, hk, hm.k, hm.r1, hm.r2, hm.r3, hm.r4, hm.r15, hm.r16, hm.r19, hm.r23, hm.r24, hm.r25, hm.r26, hm.r29, hm.r30, hm.r31, hm.r33, hm.r34, hm.r35, hm.k73, hm.k74, hm.k75, hm.k76, hm.k77, hm.k78, hm.k79, hm.k80, hm.k81, hm.k82, hm.k83, hm.k84, hm.k85, hm.k86, hm.k87, hm.k88, hm.k89, hm.n73, hm.n74, hm.n75, hm.n76, hm.n77, hm.n78, hm.n79, hm.n80, hm.n81, hm.n82, hm.n83, hm.n84, hm.n85, hm.n86, hm.n87, hm.n88, hm.n89, m_within, eG, c]
    · rw [if_neg c, if_neg c]
      obtain ⟨h1, e1, ms1, f1⟩ := m_restore_l (d := d + 1) (S := S) hi 0 (by omega) (by omega) (pI h 72 0 0) S ms0 (fun j => by rw [if_neg (by omega)])
      refine ⟨h1, ?_, mb0.fr (f73 f1) ms1, fwT (f0.tr (f73 f1))⟩
      show EX (d+1) m_Mod_restore 0 [(0, .inr (.inr (72))), (1, .inl (i))] [] (h) = _
      simp (disch := omega) only [Mod_restore_0, Mod_restore_5, Mod_restore_12, Mod_restore_18, Mod_restore_30, wr_id, ix_id, okx, if_pos, if_neg, Int.toNat_of_nonneg, bak_v, bak_n, wr_b01, wr_bt, b01_or, b01_0, b01_1, lc_lt0, lc_gt0, lc_eq0, wl_wr, wr_wr, wl_id, true_and, and_true, true_or, or_true, not_true_eq_false, not_false_eq_true, nc0, nc1, nc2, nc3, nc4, nc5, nc6, nc7, nc8, nc9, nc10, nc11, nc12, nc13, nc14, nc15, nc16, nc17, nc18, nc19, nc20, nc21, nc22, nc23, nc35, nc47, nc59, nc60, nc61, nc73, nc74, nc214, nc215, nc1115, nc2230, nc3345, if_true, if_false, Int.reduceToNat, hk, hm.k, hm.r1, hm.r2, hm.r3, hm.r4, hm.r15, hm.r16, hm.r19, hm.r23, hm.r24, hm.r25, hm.r26, hm.r29, hm.r30, hm.r31, hm.r33, hm.r34, hm.r35, hm.k73, hm.k74, hm.k75, hm.k76, hm.k77, hm.k78, hm.k79, hm.k80, hm.k81, hm.k82, hm.k83, hm.k84, hm.k85, hm.k86, hm.k87, hm.k88, hm.k89, hm.n73, hm.n74, hm.n75, hm.n76, hm.n77, hm.n78, hm.n79, hm.n80, hm.n81, hm.n82, hm.n83, hm.n84, hm.n85, hm.n86, hm.n87, hm.n88, hm.n89, m_within, eG, e1]
  · rw [if_pos hi, if_pos hi]
    refine ⟨pI h 72 0 0, ?_, mb0, fwT f0⟩
    show EX (d+1) m_Mod_restore 0 [(0, .inr (.inr (72))), (1, .inl (i))] [] (h) = _
    simp (disch := omega) only [Mod_restore_0, Mod_restore_5, Mod_restore_12, Mod_restore_15, wr_id, ix_id, okx, if_pos, if_neg, Int.toNat_of_nonneg, bak_v, bak_n, wr_b01, wr_bt, b01_or, b01_0, b01_1, lc_lt0, lc_gt0, lc_eq0, wl_wr, wr_wr, wl_id, true_and, and_true, true_or, or_true, not_true_eq_false, not_false_eq_true, nc0, nc1, nc2, nc3, nc4, nc5, nc6, nc7, nc8, nc9, nc10, nc11, nc12, nc13, nc14, nc15, nc16, nc17, nc18, nc19, nc20, nc21, nc22, nc23, nc35, nc47, nc59, nc60, nc61, nc73, nc74, nc214, nc215, nc1115, nc2230, nc3345, if_true, if_false, Int.reduceToNat, hk, m_within]
