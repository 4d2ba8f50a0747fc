/-! the model's state; tells, joinedMany, day's loop -/
def MB (h : Hp) (S G T rs rm nb : Int → Int) (n fk fp : Int) : Prop := MS h S ∧ (∀ k : Nat, hI h 74 k = G k) ∧ (∀ k : Nat, hI h 75 k = T k) ∧ (hI h 72 5 = n ∧ hI h 72 13 = fk ∧ hI h 72 14 = fp) ∧ MT h rs rm nb
theorem MT.fr {h h' : Hp} {rs rm nb : Int → Int} (m : MT h rs rm nb) {p : Nat → Nat → Prop} (f : Fr p h h') (hp : ∀ a k, 87 ≤ a → a ≤ 89 → ¬ p a k) : MT h' rs rm nb := ⟨fun k => by rw [f.I (hp 87 k (by omega) (by omega))]; exact m.1 k, fun k => by rw [f.I (hp 88 k (by omega) (by omega))]; exact m.2.1 k, fun k => by rw [f.L (hp 89 k (by omega) (by omega))]; exact m.2.2 k⟩
/-- what may be written without a change of the state but for the row -/
def wQ (a k : Nat) : Prop := a = 73 ∨ (76 ≤ a ∧ a ≤ 86) ∨ (a = 72 ∧ ¬ k = 5 ∧ ¬ k = 13 ∧ ¬ k = 14)
theorem MB.fr {h h' : Hp} {S S' G T rs rm nb : Int → Int} {n fk fp : Int} (m : MB h S G T rs rm nb n fk fp) (f : Fr wQ h h') (ms : MS h' S') : MB h' S' G T rs rm nb n fk fp := by
  obtain ⟨m1, m2, m3, m4, m5⟩ := m
  refine ⟨ms, fun k => by rw [f.I (by unfold wQ; omega)]; exact m2 k, fun k => by rw [f.I (by unfold wQ; omega)]; exact m3 k, ⟨by rw [f.I (by unfold wQ; omega)]; exact m4.1, by rw [f.I (by unfold wQ; omega)]; exact m4.2.1, by rw [f.I (by unfold wQ; omega)]; exact m4.2.2⟩, m5.fr f (fun a k q1 q2 => by unfold wQ; omega)⟩
theorem wQ.lt {a k : Nat} (h : wQ a k) : 72 ≤ a := by unfold wQ at h; omega
theorem Fr.wq {h h' : Hp} {p : Nat → Nat → Prop} (f : Fr p h h') (hp : ∀ a k, p a k → wQ a k) : Fr wQ h h' := f.mo hp
theorem f73 {h h' : Hp} (f : Fr (fun a _ => a = 73) h h') : Fr wQ h h' := f.mo (fun a k q => Or.inl q)
theorem f77 {h h' : Hp} (f : Fr (fun a _ => a = 77) h h') : Fr wQ h h' := f.mo (fun a k q => Or.inr (Or.inl (by omega)))
theorem f78 {h h' : Hp} (f : Fr (fun a _ => a = 78) h h') : Fr wQ h h' := f.mo (fun a k q => Or.inr (Or.inl (by omega)))
theorem f72 {h : Hp} {k : Nat} {v : Int} (hk : ¬ k = 5 ∧ ¬ k = 13 ∧ ¬ k = 14) : Fr wQ h (pI h 72 k v) := Fr.pI Fr.rf (Or.inr (Or.inr ⟨rfl, hk⟩))
theorem MS.q {h h' : Hp} {S : Int → Int} (ms : MS h S) {p : Nat → Nat → Prop} (f : Fr p h h') (hp : ∀ k, ¬ p 73 k) : MS h' S := ms.fr f hp
theorem m_whyNotTold {d : Nat} {h : Hp} {S : Int → Int} (ms : MS h S) (g : Gd S) {v : Int} (rv : -9223372036854775808 ≤ v ∧ v ≤ 9223372036854775807) : cal (d+4) m_Mod_whyNotTold [.inr (.inr (72)), .inr (.inl (v))] (h) = some (.inl (whyD S v), h) := by
  have hm := ms.1
  show EX (d+3) m_Mod_whyNotTold 0 [(0, .inr (.inr (72))), (1, .inr (.inl (v)))] [] (h) = _
  unfold whyD
  by_cases c1 : 0 ≤ v ∧ v < 144
  · simp (disch := omega) only [Mod_whyNotTold_0, Mod_whyNotTold_8, Mod_whyNotTold_11, Mod_whyNotTold_28, Mod_whyNotTold_29, Mod_whyNotTold_39, Mod_whyNotTold_42, Mod_whyNotTold_52, Mod_whyNotTold_55, Mod_whyNotTold_56, wr_id, ix_id, okx, if_pos, if_neg, Int.toNat_of_nonneg, bak_v, bak_n, wr_b01, wr_bt, b01_or, b01_0, b01_1, lc_lt0, lc_gt0, lc_eq0, wl_wr, wr_wr, wl_id, true_and, and_true, true_or, or_true, not_true_eq_false, not_false_eq_true, nc0, nc1, nc2, nc3, nc4, nc5, nc6, nc7, nc8, nc9, nc10, nc11, nc12, nc13, nc14, nc15, nc16, nc17, nc18, nc19, nc20, nc21, nc22, nc23, nc35, nc47, nc59, nc60, nc61, nc73, nc74, nc214, nc215, nc1115, nc2230, nc3345, if_true, if_false, Int.reduceToNat, hm.k, hm.r1, m_within, bDiv_e, bRem_e, m_whyNot ms.rs g]
  · by_cases c2 : 200 ≤ v ∧ v < 212
    · simp (disch := omega) only [Mod_whyNotTold_0, Mod_whyNotTold_8, Mod_whyNotTold_11, Mod_whyNotTold_28, Mod_whyNotTold_29, Mod_whyNotTold_39, Mod_whyNotTold_42, Mod_whyNotTold_52, Mod_whyNotTold_55, Mod_whyNotTold_56, wr_id, ix_id, okx, if_pos, if_neg, Int.toNat_of_nonneg, bak_v, bak_n, wr_b01, wr_bt, b01_or, b01_0, b01_1, lc_lt0, lc_gt0, lc_eq0, wl_wr, wr_wr, wl_id, true_and, and_true, true_or, or_true, not_true_eq_false, not_false_eq_true, nc0, nc1, nc2, nc3, nc4, nc5, nc6, nc7, nc8, nc9, nc10, nc11, nc12, nc13, nc14, nc15, nc16, nc17, nc18, nc19, nc20, nc21, nc22, nc23, nc35, nc47, nc59, nc60, nc61, nc73, nc74, nc214, nc215, nc1115, nc2230, nc3345, if_true, if_false, Int.reduceToNat, hm.k, hm.r1, m_within, m_whyNotOff ms g]
    · simp (disch := omega) only [Mod_whyNotTold_0, Mod_whyNotTold_8, Mod_whyNotTold_11, Mod_whyNotTold_28, Mod_whyNotTold_29, Mod_whyNotTold_39, Mod_whyNotTold_42, Mod_whyNotTold_52, Mod_whyNotTold_55, Mod_whyNotTold_56, wr_id, ix_id, okx, if_pos, if_neg, Int.toNat_of_nonneg, bak_v, bak_n, wr_b01, wr_bt, b01_or, b01_0, b01_1, lc_lt0, lc_gt0, lc_eq0, wl_wr, wr_wr, wl_id, true_and, and_true, true_or, or_true, not_true_eq_false, not_false_eq_true, nc0, nc1, nc2, nc3, nc4, nc5, nc6, nc7, nc8, nc9, nc10, nc11, nc12, nc13, nc14, nc15, nc16, nc17, nc18, nc19, nc20, nc21, nc22, nc23, nc35, nc47, nc59, nc60, nc61, nc73, nc74, nc214, nc215, nc1115, nc2230, nc3345, if_true, if_false, Int.reduceToNat, hm.k, hm.r1, m_within]
/-- what tells and its like may write -/
def pT (a k : Nat) : Prop := a = 73 ∨ (a = 72 ∧ (k = 17 ∨ k = 18 ∨ k = 0))
theorem pT.wq {a k : Nat} (h : pT a k) : wQ a k := by unfold pT at h; unfold wQ; omega
theorem m_tells_l {d : Nat} {t : Int} (ht : 0 ≤ t ∧ t < 4) {rs rm nb : Int → Int} (tg : TG rs rm nb) : ∀ (n : Nat) (i : Int) (S : Int → Int) (h : Hp), 0 ≤ i → i + n = rm t → MS h S → MT h rs rm nb → Gd S → hI h 72 17 = 0 → ∃ h', EX (d+5) m_Mod_tells 7 [(0, .inr (.inr (72))), (1, .inl (t)), (2, .inl (i))] [] (h) = some (.inl (runD (fun k => nb (40 * t + k)) n i S).2.1, h') ∧ MS h' (runD (fun k => nb (40 * t + k)) n i S).1 ∧ hI h' 72 17 = (runD (fun k => nb (40 * t + k)) n i S).2.2 ∧ Fr pT h h' := by
  have gt := tg.1 t (by omega) (by omega)
  intro n
  induction n with
  | zero =>
    intro i S h h0 hi ms mt g h17
    have hm := ms.1
    refine ⟨h, ?_, ms, h17, Fr.rf⟩
    rw [Mod_tells_7]
    simp (disch := omega) only [Mod_tells_88, wr_id, ix_id, okx, if_pos, if_neg, Int.toNat_of_nonneg, bak_v, bak_n, wr_b01, wr_bt, b01_or, b01_0, b01_1, lc_lt0, lc_gt0, lc_eq0, wl_wr, wr_wr, wl_id, true_and, and_true, true_or, or_true, not_true_eq_false, not_false_eq_true, nc0, nc1, nc2, nc3, nc4, nc5, nc6, nc7, nc8, nc9, nc10, nc11, nc12, nc13, nc14, nc15, nc16, nc17, nc18, nc19, nc20, nc21, nc22, nc23, nc35, nc47, nc59, nc60, nc61, nc73, nc74, nc214, nc215, nc1115, nc2230, nc3345, if_true, if_false, Int.reduceToNat, hm.k, hm.r1, hm.r2, hm.r3, hm.r4, hm.r15, hm.r16, hm.r19, hm.r23, hm.r24, hm.r25, hm.r26, hm.r29, hm.r30, hm.r31, hm.r33, hm.r34, hm.r35, hm.k73, hm.k74, hm.k75, hm.k76, hm.k77, hm.k78, hm.k79, hm.k80, hm.k81, hm.k82, hm.k83, hm.k84, hm.k85, hm.k86, hm.k87, hm.k88, hm.k89, hm.n73, hm.n74, hm.n75, hm.n76, hm.n77, hm.n78, hm.n79, hm.n80, hm.n81, hm.n82, hm.n83, hm.n84, hm.n85, hm.n86, hm.n87, hm.n88, hm.n89, mt.2.1, runD]
    rw [show rm t = i by omega]
  | succ n ih =>
    intro i S h h0 hi ms mt g h17
    have hm := ms.1
    have rn := tg.2 (40 * t + i)
    have wr' := whyD_rng S (nb (40 * t + i))
    have ga := g.a
    have gb := g.b
    have g59 := g.2.1
    rw [Mod_tells_7]
    simp only [runD]
    by_cases c : whyD S (nb (40 * t + i)) = 0
    · rw [if_pos c]
      obtain ⟨g1, a1⟩ := doD_ok g c
      have ms0 : MS (pI h 72 17 0) S := ms.o (by omega)
      have mt0 : MT (pI h 72 17 0) rs rm nb := mt.fr (p := fun a _ => a = 72) (Fr.pI Fr.rf (by rfl)) (fun a k q1 q2 => by omega)
      have f0 : Fr pT h (pI h 72 17 0) := Fr.pI Fr.rf (Or.inr ⟨rfl, Or.inl rfl⟩)
      rcases whyD_0 c with ⟨c1, c2, c3⟩ | ⟨c1, c2, c3⟩
      · have w0 := whyM_0 g c3
        obtain ⟨h1, e1, ms1, f1⟩ := m_joins (d := d + 1) ms0 g.1 (by omega) (x := nb (40 * t + i) / 12) (y := nb (40 * t + i) % 12) (by omega) (by omega)
        have dd : doD S (nb (40 * t + i)) = joinS S (nb (40 * t + i) / 12) (nb (40 * t + i) % 12) := by unfold doD; rw [if_pos (by omega)]
        rw [dd] at g1 a1 ⊢
        obtain ⟨h2, e2, ms2, q2, f2⟩ := ih (i + 1) _ h1 (by omega) (by omega) ms1 (mt0.fr f1 (fun a k q1 q2 => by omega)) g1 (by rw [f1.I (by omega), hI_pI, if_pos ⟨rfl, rfl⟩])
        refine ⟨h2, ?_, ms2, q2, f0.tr ((f1.mo (fun a k q => Or.inl q)).tr f2)⟩
        simp (disch := omega) only [Mod_tells_0, Mod_tells_5, Mod_tells_17, Mod_tells_35, Mod_tells_38, Mod_tells_45, Mod_tells_47, Mod_tells_55, Mod_tells_69, Mod_tells_72, Mod_tells_82, Mod_tells_88, wr_id, ix_id, okx, if_pos, if_neg, Int.toNat_of_nonneg, bak_v, bak_n, wr_b01, wr_bt, b01_or, b01_0, b01_1, lc_lt0, lc_gt0, lc_eq0, wl_wr, wr_wr, wl_id, true_and, and_true, true_or, or_true, not_true_eq_false, not_false_eq_true, nc0, nc1, nc2, nc3, nc4, nc5, nc6, nc7, nc8, nc9, nc10, nc11, nc12, nc13, nc14, nc15, nc16, nc17, nc18, nc19, nc20, nc21, nc22, nc23, nc35, nc47, nc59, nc60, nc61, nc73, nc74, nc214, nc215, nc1115, nc2230, nc3345, if_true, if_false, Int.reduceToNat, hm.k, hm.r1, hm.r2, hm.r3, hm.r4, hm.r15, hm.r16, hm.r19, hm.r23, hm.r24, hm.r25, hm.r26, hm.r29, hm.r30, hm.r31, hm.r33, hm.r34, hm.r35, hm.k73, hm.k74, hm.k75, hm.k76, hm.k77, hm.k78, hm.k79, hm.k80, hm.k81, hm.k82, hm.k83, hm.k84, hm.k85, hm.k86, hm.k87, hm.k88, hm.k89, hm.n73, hm.n74, hm.n75, hm.n76, hm.n77, hm.n78, hm.n79, hm.n80, hm.n81, hm.n82, hm.n83, hm.n84, hm.n85, hm.n86, hm.n87, hm.n88, hm.n89, mt.2.1, mt.2.2, m_whyNotTold ms g, c, sK_pI, hI_pI, bDiv_e, bRem_e, e1, e2, and_self]
      · have w0 := offM_0 c3
        have gx := g.rg w0.1.1 (by omega)
        obtain ⟨h1, e1, ms1, f1⟩ := m_unhooks (d := d + 1) ms0 g.1 (by omega) (x := nb (40 * t + i) - 200) (by omega) (by omega)
        have dd : doD S (nb (40 * t + i)) = offS S (nb (40 * t + i) - 200) := by unfold doD; rw [if_neg (by omega)]
        rw [dd] at g1 a1 ⊢
        obtain ⟨h2, e2, ms2, q2, f2⟩ := ih (i + 1) _ h1 (by omega) (by omega) ms1 (mt0.fr f1 (fun a k q1 q2 => by omega)) g1 (by rw [f1.I (by omega), hI_pI, if_pos ⟨rfl, rfl⟩])
        refine ⟨h2, ?_, ms2, q2, f0.tr ((f1.mo (fun a k q => Or.inl q)).tr f2)⟩
        simp (disch := omega) only [Mod_tells_0, Mod_tells_5, Mod_tells_17, Mod_tells_35, Mod_tells_38, Mod_tells_45, Mod_tells_47, Mod_tells_55, Mod_tells_69, Mod_tells_72, Mod_tells_82, Mod_tells_88, wr_id, ix_id, okx, if_pos, if_neg, Int.toNat_of_nonneg, bak_v, bak_n, wr_b01, wr_bt, b01_or, b01_0, b01_1, lc_lt0, lc_gt0, lc_eq0, wl_wr, wr_wr, wl_id, true_and, and_true, true_or, or_true, not_true_eq_false, not_false_eq_true, nc0, nc1, nc2, nc3, nc4, nc5, nc6, nc7, nc8, nc9, nc10, nc11, nc12, nc13, nc14, nc15, nc16, nc17, nc18, nc19, nc20, nc21, nc22, nc23, nc35, nc47, nc59, nc60, nc61, nc73, nc74, nc214, nc215, nc1115, nc2230, nc3345, if_true, if_false, Int.reduceToNat, hm.k, hm.r1, hm.r2, hm.r3, hm.r4, hm.r15, hm.r16, hm.r19, hm.r23, hm.r24, hm.r25, hm.r26, hm.r29, hm.r30, hm.r31, hm.r33, hm.r34, hm.r35, hm.k73, hm.k74, hm.k75, hm.k76, hm.k77, hm.k78, hm.k79, hm.k80, hm.k81, hm.k82, hm.k83, hm.k84, hm.k85, hm.k86, hm.k87, hm.k88, hm.k89, hm.n73, hm.n74, hm.n75, hm.n76, hm.n77, hm.n78, hm.n79, hm.n80, hm.n81, hm.n82, hm.n83, hm.n84, hm.n85, hm.n86, hm.n87, hm.n88, hm.n89, mt.2.1, mt.2.2, m_whyNotTold ms g, c, sK_pI, hI_pI, e1, e2, and_self]
    · rw [if_neg c]
      refine ⟨pI h 72 17 (whyD S (nb (40 * t + i))), ?_, ms.o (by omega), by rw [hI_pI, if_pos ⟨rfl, rfl⟩], Fr.pI Fr.rf (Or.inr ⟨rfl, Or.inl rfl⟩)⟩
      simp (disch := omega) only [Mod_tells_0, Mod_tells_5, Mod_tells_17, Mod_tells_35, Mod_tells_38, Mod_tells_45, Mod_tells_47, Mod_tells_55, Mod_tells_69, Mod_tells_72, Mod_tells_82, Mod_tells_88, wr_id, ix_id, okx, if_pos, if_neg, Int.toNat_of_nonneg, bak_v, bak_n, wr_b01, wr_bt, b01_or, b01_0, b01_1, lc_lt0, lc_gt0, lc_eq0, wl_wr, wr_wr, wl_id, true_and, and_true, true_or, or_true, not_true_eq_false, not_false_eq_true, nc0, nc1, nc2, nc3, nc4, nc5, nc6, nc7, nc8, nc9, nc10, nc11, nc12, nc13, nc14, nc15, nc16, nc17, nc18, nc19, nc20, nc21, nc22, nc23, nc35, nc47, nc59, nc60, nc61, nc73, nc74, nc214, nc215, nc1115, nc2230, nc3345, if_true, if_false, Int.reduceToNat, hm.k, hm.r1, hm.r2, hm.r3, hm.r4, hm.r15, hm.r16, hm.r19, hm.r23, hm.r24, hm.r25, hm.r26, hm.r29, hm.r30, hm.r31, hm.r33, hm.r34, hm.r35, hm.k73, hm.k74, hm.k75, hm.k76, hm.k77, hm.k78, hm.k79, hm.k80, hm.k81, hm.k82, hm.k83, hm.k84, hm.k85, hm.k86, hm.k87, hm.k88, hm.k89, hm.n73, hm.n74, hm.n75, hm.n76, hm.n77, hm.n78, hm.n79, hm.n80, hm.n81, hm.n82, hm.n83, hm.n84, hm.n85, hm.n86, hm.n87, hm.n88, hm.n89, mt.2.1, mt.2.2, m_whyNotTold ms g, sK_pI, hI_pI, and_self]
theorem m_tells {d : Nat} {h : Hp} {t : Int} (ht : 0 ≤ t ∧ t < 4) {S rs rm nb : Int → Int} (tg : TG rs rm nb) (ms : MS h S) (mt : MT h rs rm nb) (g : Gd S) : ∃ h', cal (d+6) m_Mod_tells [.inr (.inr (72)), .inl (t)] (h) = some (.inl (runD (fun k => nb (40 * t + k)) (rm t).toNat 0 S).2.1, h') ∧ MS h' (runD (fun k => nb (40 * t + k)) (rm t).toNat 0 S).1 ∧ hI h' 72 17 = (runD (fun k => nb (40 * t + k)) (rm t).toNat 0 S).2.2 ∧ Fr pT h h' := by
  have hm := ms.1
  have gt := tg.1 t (by omega) (by omega)
  obtain ⟨h', e, q1, q2, q3⟩ := m_tells_l (d := d) ht tg (rm t).toNat 0 S (pI h 72 17 0) (by omega) (by omega) (ms.o (by omega)) (mt.fr (p := fun a _ => a = 72) (Fr.pI Fr.rf (by rfl)) (fun a k q1 q2 => by omega)) g (by rw [hI_pI, if_pos ⟨rfl, rfl⟩])
  refine ⟨h', ?_, q1, q2, Fr.tr (Fr.pI Fr.rf (Or.inr ⟨rfl, Or.inl rfl⟩)) q3⟩
  show EX (d+5) m_Mod_tells 0 [(0, .inr (.inr (72))), (1, .inl (t))] [] (h) = _
  simp (disch := omega) only [Mod_tells_0, Mod_tells_5, wr_id, ix_id, okx, if_pos, if_neg, Int.toNat_of_nonneg, bak_v, bak_n, wr_b01, wr_bt, b01_or, b01_0, b01_1, lc_lt0, lc_gt0, lc_eq0, wl_wr, wr_wr, wl_id, true_and, and_true, true_or, or_true, not_true_eq_false, not_false_eq_true, nc0, nc1, nc2, nc3, nc4, nc5, nc6, nc7, nc8, nc9, nc10, nc11, nc12, nc13, nc14, nc15, nc16, nc17, nc18, nc19, nc20, nc21, nc22, nc23, nc35, nc47, nc59, nc60, nc61, nc73, nc74, nc214, nc215, nc1115, nc2230, nc3345, if_true, if_false, Int.reduceToNat, hm.k, e]
theorem m_joinedMany_l {d : Nat} {h : Hp} {S : Int → Int} (ms : MS h S) (g : Gd S) : ∀ i, 0 ≤ i → i ≤ 12 → ∀ f, EX (d) m_Mod_joinedMany 4 [(0, .inr (.inr (72))), (1, .inl (f)), (2, .inl (i))] [] (h) = some (.inl (f + sm (fun k => b01 (¬ S (61 + k) = -1)) i (S 1)), h) := by
  have hm := ms.1
  have ga := g.a
  have gb := g.b
  refine up_ind (hi := S 1) ?_ ?_
  · intro i hi h0 h1 f
    rw [Mod_joinedMany_4]
    simp (disch := omega) only [Mod_joinedMany_0, Mod_joinedMany_14, Mod_joinedMany_28, Mod_joinedMany_32, Mod_joinedMany_33, Mod_joinedMany_41, wr_id, ix_id, okx, if_pos, if_neg, Int.toNat_of_nonneg, bak_v, bak_n, wr_b01, wr_bt, b01_or, b01_0, b01_1, lc_lt0, lc_gt0, lc_eq0, wl_wr, wr_wr, wl_id, true_and, and_true, true_or, or_true, not_true_eq_false, not_false_eq_true, nc0, nc1, nc2, nc3, nc4, nc5, nc6, nc7, nc8, nc9, nc10, nc11, nc12, nc13, nc14, nc15, nc16, nc17, nc18, nc19, nc20, nc21, nc22, nc23, nc35, nc47, nc59, nc60, nc61, nc73, nc74, nc214, nc215, nc1115, nc2230, nc3345, if_true, if_false, Int.reduceToNat, hm.k, hm.r1, hm.r2, hm.r3, hm.r4, hm.r15, hm.r16, hm.r19, hm.r23, hm.r24, hm.r25, hm.r26, hm.r29, hm.r30, hm.r31, hm.r33, hm.r34, hm.r35, hm.k73, hm.k74, hm.k75, hm.k76, hm.k77, hm.k78, hm.k79, hm.k80, hm.k81, hm.k82, hm.k83, hm.k84, hm.k85, hm.k86, hm.k87, hm.k88, hm.k89, hm.n73, hm.n74, hm.n75, hm.n76, hm.n77, hm.n78, hm.n79, hm.n80, hm.n81, hm.n82, hm.n83, hm.n84, hm.n85, hm.n86, hm.n87, hm.n88, hm.n89, ms.2, sm_stop, Int.add_zero]
  · intro i hi ih h0 h1 f
    have gr := g.rg h0 (by omega)
    rw [Mod_joinedMany_4]
    simp (disch := omega) only [Mod_joinedMany_0, Mod_joinedMany_14, Mod_joinedMany_28, Mod_joinedMany_32, Mod_joinedMany_33, Mod_joinedMany_41, wr_id, ix_id, okx, if_pos, if_neg, Int.toNat_of_nonneg, bak_v, bak_n, wr_b01, wr_bt, b01_or, b01_0, b01_1, lc_lt0, lc_gt0, lc_eq0, wl_wr, wr_wr, wl_id, true_and, and_true, true_or, or_true, not_true_eq_false, not_false_eq_true, nc0, nc1, nc2, nc3, nc4, nc5, nc6, nc7, nc8, nc9, nc10, nc11, nc12, nc13, nc14, nc15, nc16, nc17, nc18, nc19, nc20, nc21, nc22, nc23, nc35, nc47, nc59, nc60, nc61, nc73, nc74, nc214, nc215, nc1115, nc2230, nc3345, if_true, if_false, Int.reduceToNat, hm.k, hm.r1, hm.r2, hm.r3, hm.r4, hm.r15, hm.r16, hm.r19, hm.r23, hm.r24, hm.r25, hm.r26, hm.r29, hm.r30, hm.r31, hm.r33, hm.r34, hm.r35, hm.k73, hm.k74, hm.k75, hm.k76, hm.k77, hm.k78, hm.k79, hm.k80, hm.k81, hm.k82, hm.k83, hm.k84, hm.k85, hm.k86, hm.k87, hm.k88, hm.k89, hm.n73, hm.n74, hm.n75, hm.n76, hm.n77, hm.n78, hm.n79, hm.n80, hm.n81, hm.n82, hm.n83, hm.n84, hm.n85, hm.n86, hm.n87, hm.n88, hm.n89, ms.2, sm_step hi, ih]
    unfold b01
    by_cases c : S (61 + i) = -1 <;> simp [c, Int.add_assoc]
theorem m_joinedMany {d : Nat} {h : Hp} {S : Int → Int} (ms : MS h S) (g : Gd S) : cal (d+1) m_Mod_joinedMany [.inr (.inr (72))] (h) = some (.inl (jnM S), h) := by
  show EX (d) m_Mod_joinedMany 0 [(0, .inr (.inr (72)))] [] (h) = _
  rw [Mod_joinedMany_0, m_joinedMany_l ms g 0 (by omega) (by omega), Int.zero_add]
  rfl
theorem m_draw {d : Nat} {h : Hp} (hm : MR h) {x b : Int} (hx : hI h 72 18 = x) (hb : 0 < b ∧ b ≤ 12) : cal (d+1) m_Mod_draw [.inr (.inr (72)), .inl (b)] (h) = some (.inl (bUshr (nxD x) 16 % b), pI h 72 18 (nxD x)) := by
  show EX (d) m_Mod_draw 0 [(0, .inr (.inr (72))), (1, .inl (b))] [] (h) = _
  have := bUshr16 (nxD x)
  simp (disch := omega) only [Mod_draw_0, Mod_draw_16, wr_id, ix_id, okx, if_pos, if_neg, Int.toNat_of_nonneg, bak_v, bak_n, wr_b01, wr_bt, b01_or, b01_0, b01_1, lc_lt0, lc_gt0, lc_eq0, wl_wr, wr_wr, wl_id, true_and, and_true, true_or, or_true, not_true_eq_false, not_false_eq_true, nc0, nc1, nc2, nc3, nc4, nc5, nc6, nc7, nc8, nc9, nc10, nc11, nc12, nc13, nc14, nc15, nc16, nc17, nc18, nc19, nc20, nc21, nc22, nc23, nc35, nc47, nc59, nc60, nc61, nc73, nc74, nc214, nc215, nc1115, nc2230, nc3345, if_true, if_false, Int.reduceToNat, hm.k, hx, sK_pI, hI_pI, and_self]
  rw [show 1103515245 * x + 12345 = nxD x from rfl, bRem_e (by omega) (by omega)]
theorem m_day_l {d : Nat} {times : Int} (hti : times ≤ 60) : ∀ (n : Nat) (i x m : Int) (S : Int → Int) (h : Hp), 0 ≤ i → i + n = times → MS h S → hI h 72 18 = x → Gd S → 0 < S 1 → 0 < S 2 → ∃ h', EX (d+4) m_Mod_day 55 [(0, .inr (.inr (72))), (2, .inl (times)), (3, .inl (m)), (4, .inl (i))] [] (h) = EX (d+4) m_Mod_day 155 [(0, .inr (.inr (72))), (3, .inl ((dayD n x S m).2))] [] (h') ∧ MS h' (dayD n x S m).1 ∧ Fr pT h h' := by
  intro n
  induction n with
  | zero =>
    intro i x m S h h0 hi ms hx g p1 p2
    refine ⟨h, ?_, ms, Fr.rf⟩
    rw [Mod_day_55]
    simp (disch := omega) only [wr_id, ix_id, okx, if_pos, if_neg, Int.toNat_of_nonneg, bak_v, bak_n, wr_b01, wr_bt, b01_or, b01_0, b01_1, lc_lt0, lc_gt0, lc_eq0, wl_wr, wr_wr, wl_id, true_and, and_true, true_or, or_true, not_true_eq_false, not_false_eq_true, nc0, nc1, nc2, nc3, nc4, nc5, nc6, nc7, nc8, nc9, nc10, nc11, nc12, nc13, nc14, nc15, nc16, nc17, nc18, nc19, nc20, nc21, nc22, nc23, nc35, nc47, nc59, nc60, nc61, nc73, nc74, nc214, nc215, nc1115, nc2230, nc3345, if_true, if_false, Int.reduceToNat, dayD]
  | succ n ih =>
    intro i x m S h h0 hi ms hx g p1 p2
    have hm := ms.1
    have ga := g.a
    have gb := g.b
    have g59 := g.2.1
    have b1 := bUshr16 (nxD x)
    have b2 := bUshr16 (nxD (nxD x))
    have m1 := Int.emod_nonneg (bUshr (nxD x) 16) (show ¬ S 1 = 0 by omega)
    have m2 := Int.emod_lt_of_pos (bUshr (nxD x) 16) p1
    have m3 := Int.emod_nonneg (bUshr (nxD (nxD x)) 16) (show ¬ S 2 = 0 by omega)
    have m4 := Int.emod_lt_of_pos (bUshr (nxD (nxD x)) 16) p2
    have gx := g.rg m1 (by omega)
    have wr' := whyM_rng S (bUshr (nxD x) 16 % S 1) (bUshr (nxD (nxD x)) 16 % S 2)
    have ms0 : MS (pI h 72 18 (nxD x)) S := ms.o (by omega)
    have hm0 := ms0.1
    have f0 : Fr pT h (pI h 72 18 (nxD x)) := Fr.pI Fr.rf (Or.inr ⟨rfl, Or.inr (Or.inl rfl)⟩)
    have d1 := m_draw (d := d + 3) hm hx (b := S 1) (by omega)
    rw [Mod_day_55]
    simp only [dayD]
    by_cases c : ¬ S (61 + bUshr (nxD x) 16 % S 1) = -1
    · rw [if_pos c]
      have o0 : offM S (bUshr (nxD x) 16 % S 1) = 0 := by unfold offM; rw [if_neg (by omega), if_neg c]
      have a1 := offS_ah S (x := bUshr (nxD x) 16 % S 1) (by omega)
      obtain ⟨h1, e1, ms1, f1⟩ := m_unhooks (d := d) ms0 g.1 (by omega) (x := bUshr (nxD x) 16 % S 1) (by omega) (by omega)
      obtain ⟨h2, e2, ms2, f2⟩ := ih (i + 1) (nxD x) (m + 1) _ h1 (by omega) (by omega) ms1 (by rw [f1.I (by omega), hI_pI, if_pos ⟨rfl, rfl⟩]) (Gd_off g o0) (by rw [a1 1 (by omega)]; exact p1) (by rw [a1 2 (by omega)]; exact p2)
      refine ⟨h2, ?_, ms2, f0.tr ((f1.mo (fun a k q => Or.inl q)).tr f2)⟩
      simp (disch := omega) only [Mod_day_61, Mod_day_71, Mod_day_87, Mod_day_91, Mod_day_101, Mod_day_109, Mod_day_115, Mod_day_118, Mod_day_146, wr_id, ix_id, okx, if_pos, if_neg, Int.toNat_of_nonneg, bak_v, bak_n, wr_b01, wr_bt, b01_or, b01_0, b01_1, lc_lt0, lc_gt0, lc_eq0, wl_wr, wr_wr, wl_id, true_and, and_true, true_or, or_true, not_true_eq_false, not_false_eq_true, nc0, nc1, nc2, nc3, nc4, nc5, nc6, nc7, nc8, nc9, nc10, nc11, nc12, nc13, nc14, nc15, nc16, nc17, nc18, nc19, nc20, nc21, nc22, nc23, nc35, nc47, nc59, nc60, nc61, nc73, nc74, nc214, nc215, nc1115, nc2230, nc3345, if_true, if_false, Int.reduceToNat, hm.k, hm.r1, hm.r2, hm.r3, hm.r4, hm.r15, hm.r16, hm.r19, hm.r23, hm.r24, hm.r25, hm.r26, hm.r29, hm.r30, hm.r31, hm.r33, hm.r34, hm.r35, hm.k73, hm.k74, hm.k75, hm.k76, hm.k77, hm.k78, hm.k79, hm.k80, hm.k81, hm.k82, hm.k83, hm.k84, hm.k85, hm.k86, hm.k87, hm.k88, hm.k89, hm.n73, hm.n74, hm.n75, hm.n76, hm.n77, hm.n78, hm.n79, hm.n80, hm.n81, hm.n82, hm.n83, hm.n84, hm.n85, hm.n86, hm.n87, hm.n88, hm.n89, ms.2, d1, sK_pI, sN_pI, hR_pI, hI_pI, e1, e2]
    · rw [if_neg c]
      have d2 := m_draw (d := d + 3) hm0 (x := nxD x) (by rw [hI_pI, if_pos ⟨rfl, rfl⟩]) (b := S 2) (by omega)
      have ms00 : MS (pI (pI h 72 18 (nxD x)) 72 18 (nxD (nxD x))) S := ms0.o (by omega)
      have f00 : Fr pT h (pI (pI h 72 18 (nxD x)) 72 18 (nxD (nxD x))) := Fr.pI f0 (Or.inr ⟨rfl, Or.inr (Or.inl rfl)⟩)
      by_cases c2 : whyM S (bUshr (nxD x) 16 % S 1) (bUshr (nxD (nxD x)) 16 % S 2) = 0
      · rw [if_pos c2]
        have a1 := joinS_ah S (x := bUshr (nxD x) 16 % S 1) (y := bUshr (nxD (nxD x)) 16 % S 2) (by omega)
        obtain ⟨h1, e1, ms1, f1⟩ := m_joins (d := d) ms00 g.1 (by omega) (x := bUshr (nxD x) 16 % S 1) (y := bUshr (nxD (nxD x)) 16 % S 2) (by omega) (by omega)
        obtain ⟨h2, e2, ms2, f2⟩ := ih (i + 1) (nxD (nxD x)) (m + 1) _ h1 (by omega) (by omega) ms1 (by rw [f1.I (by omega), hI_pI, if_pos ⟨rfl, rfl⟩]) (Gd_join g c2) (by rw [a1 1 (by omega)]; exact p1) (by rw [a1 2 (by omega)]; exact p2)
        refine ⟨h2, ?_, ms2, f00.tr ((f1.mo (fun a k q => Or.inl q)).tr f2)⟩
        simp (disch := omega) only [Mod_day_61, Mod_day_71, Mod_day_87, Mod_day_91, Mod_day_101, Mod_day_118, Mod_day_129, Mod_day_132, Mod_day_140, Mod_day_146, wr_id, ix_id, okx, if_pos, if_neg, Int.toNat_of_nonneg, bak_v, bak_n, wr_b01, wr_bt, b01_or, b01_0, b01_1, lc_lt0, lc_gt0, lc_eq0, wl_wr, wr_wr, wl_id, true_and, and_true, true_or, or_true, not_true_eq_false, not_false_eq_true, nc0, nc1, nc2, nc3, nc4, nc5, nc6, nc7, nc8, nc9, nc10, nc11, nc12, nc13, nc14, nc15, nc16, nc17, nc18, nc19, nc20, nc21, nc22, nc23, nc35, nc47, nc59, nc60, nc61, nc73, nc74, nc214, nc215, nc1115, nc2230, nc3345, if_true, if_false, Int.reduceToNat, hm.k, hm.r1, hm.r2, hm.r3, hm.r4, hm.r15, hm.r16, hm.r19, hm.r23, hm.r24, hm.r25, hm.r26, hm.r29, hm.r30, hm.r31, hm.r33, hm.r34, hm.r35, hm.k73, hm.k74, hm.k75, hm.k76, hm.k77, hm.k78, hm.k79, hm.k80, hm.k81, hm.k82, hm.k83, hm.k84, hm.k85, hm.k86, hm.k87, hm.k88, hm.k89, hm.n73, hm.n74, hm.n75, hm.n76, hm.n77, hm.n78, hm.n79, hm.n80, hm.n81, hm.n82, hm.n83, hm.n84, hm.n85, hm.n86, hm.n87, hm.n88, hm.n89, ms.2, d1, d2, sK_pI, sN_pI, hR_pI, hI_pI, m_whyNot ms00.rs g, c2, e1, e2]
      · rw [if_neg c2]
        obtain ⟨h2, e2, ms2, f2⟩ := ih (i + 1) (nxD (nxD x)) m S _ (by omega) (by omega) ms00 (by rw [hI_pI, if_pos ⟨rfl, rfl⟩]) g p1 p2
        refine ⟨h2, ?_, ms2, f00.tr f2⟩
        have em : m + -1 + 1 = m := by omega
        simp (disch := omega) only [Mod_day_61, Mod_day_71, Mod_day_87, Mod_day_91, Mod_day_101, Mod_day_118, Mod_day_129, Mod_day_143, Mod_day_146, wr_id, ix_id, okx, if_pos, if_neg, Int.toNat_of_nonneg, bak_v, bak_n, wr_b01, wr_bt, b01_or, b01_0, b01_1, lc_lt0, lc_gt0, lc_eq0, wl_wr, wr_wr, wl_id, true_and, and_true, true_or, or_true, not_true_eq_false, not_false_eq_true, nc0, nc1, nc2, nc3, nc4, nc5, nc6, nc7, nc8, nc9, nc10, nc11, nc12, nc13, nc14, nc15, nc16, nc17, nc18, nc19, nc20, nc21, nc22, nc23, nc35, nc47, nc59, nc60, nc61, nc73, nc74, nc214, nc215, nc1115, nc2230, nc3345, if_true, if_false, Int.reduceToNat, hm.k, hm.r1, hm.r2, hm.r3, hm.r4, hm.r15, hm.r16, hm.r19, hm.r23, hm.r24, hm.r25, hm.r26, hm.r29, hm.r30, hm.r31, hm.r33, hm.r34, hm.r35, hm.k73, hm.k74, hm.k75, hm.k76, hm.k77, hm.k78, hm.k79, hm.k80, hm.k81, hm.k82, hm.k83, hm.k84, hm.k85, hm.k86, hm.k87, hm.k88, hm.k89, hm.n73, hm.n74, hm.n75, hm.n76, hm.n77, hm.n78, hm.n79, hm.n80, hm.n81, hm.n82, hm.n83, hm.n84, hm.n85, hm.n86, hm.n87, hm.n88, hm.n89, ms.2, d1, d2, sK_pI, sN_pI, hR_pI, hI_pI, m_whyNot ms00.rs g, em, e2]
