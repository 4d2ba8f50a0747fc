/-! the model: laysLeast whole -/
theorem lsV.fr {h h' : Hp} {b : Nat} {S : Int → Int} {mo sq x r y s : Int} (v : lsV h b S mo sq y s) (f : Fr (pRe b x r) h h') (hx : -1 ≤ x) (hr : -1 ≤ r ∧ r ≤ 11) (hy : -1 ≤ y) (hs : -1 ≤ s ∧ s ≤ 11) (ne : ¬ (x = y ∧ r = s)) : lsV h' b S mo sq y s := by
  intro m m0 m1
  rw [f.I (by unfold pRe; omega)]
  exact v m m0 m1
theorem m_lL_3 {d a : Nat} {S nb : Int → Int} (ha : a = 82 ∨ a = 83) (n64 : N64 nb) (gd : Gd S) {mo sq x r : Int} (hmo : -1 ≤ mo ∧ mo ≤ 100000000) (hsq : sq = 0 ∨ sq = 1) (hx : -1 ≤ x ∧ x < S 1) (hr : -1 ≤ r ∧ r < S 2) (hxr : x = -1 ↔ r = -1) : ∀ n, 0 ≤ n → n ≤ 13 → ∀ h, PT h S nb → (∀ g s, x < g → g < S 1 → 0 ≤ s → s < S 2 → lsV h a S mo sq g s) → (∀ m, 0 ≤ m → m < n → hI h a (169 * (x + 1) + 13 * (r + 1) + m).toNat = Lv S mo sq m x r) → ∃ h', EX (d+3) m_Mod_laysLeast 63 [(0, .inr (.inr (72))), (1, .inr (.inr (a))), (2, .inl (mo)), (3, .inl (sq)), (4, .inl (x)), (5, .inl (r)), (6, .inl (n))] [] (h) = EX (d+3) m_Mod_laysLeast 194 [(0, .inr (.inr (72))), (1, .inr (.inr (a))), (2, .inl (mo)), (3, .inl (sq)), (4, .inl (x)), (5, .inl (r))] [] (h') ∧ lsV h' a S mo sq x r ∧ Fr (pRe a x r) h h' := by
  have ga := gd.a
  have gb := gd.b
  refine up_ind (hi := 13) ?_ ?_
  · intro n hn h0 h1 h p lv lx
    refine ⟨h, ?_, fun m m0 m1 => lx m m0 (by omega), Fr.rf⟩
    rw [Mod_laysLeast_63]
    simp (disch := omega) only [wr_id, ix_id, okx, if_pos, if_neg, Int.toNat_of_nonneg, bak_v, bak_n, wr_b01, wr_bt, b01_or, b01_0, b01_1, lc_lt0, lc_gt0, lc_eq0, wl_wr, wr_wr, wl_id, true_and, and_true, true_or, or_true, not_true_eq_false, not_false_eq_true, nc0, nc1, nc2, nc3, nc4, nc5, nc6, nc7, nc8, nc9, nc10, nc11, nc12, nc13, nc14, nc15, nc16, nc17, nc18, nc19, nc20, nc21, nc22, nc23, nc35, nc47, nc59, nc60, nc61, nc73, nc74, nc214, nc215, nc1115, nc2230, nc3345, if_true, if_false, Int.reduceToNat]
  · intro n hn ih h0 h1 h p lv lx
    have ms := p.1.1
    have hm := ms.1
    have hk : sK h a = 20 := by rcases ha with e | e <;> subst e; exact hm.k82; exact hm.k83
    have hN : sN h a = 2197 := by rcases ha with e | e <;> subst e; exact hm.n82; exact hm.n83
    have f0 : Fr (pRe a x r) h (pI h a (169 * (x + 1) + 13 * (r + 1) + n).toNat (Lv S mo sq n x r)) := Fr.pI Fr.rf (by unfold pRe; omega)
    have p1 := p.fr f0 (fun b k q => by unfold pRe at q; omega)
    obtain ⟨h2, e2, k2, f2⟩ := ih (by omega) (by omega) _ p1 (fun g s z1 z2 z3 z4 => (lv g s z1 z2 z3 z4).fr f0 (by omega) (by omega) (by omega) (by omega) (by omega)) (fun m m0 m1 => by
      rw [hI_pI]
      by_cases c : m = n
      · rw [if_pos ⟨rfl, by rw [c]⟩, c]
      · rw [if_neg (fun q => c (by have := q.2; omega))]
        exact lx m m0 (by omega))
    refine ⟨h2, ?_, k2, f0.tr f2⟩
    have e175 : EX (d+3) m_Mod_laysLeast 175 [(0, .inr (.inr (72))), (1, .inr (.inr (a))), (2, .inl (mo)), (3, .inl (sq)), (4, .inl (x)), (5, .inl (r)), (6, .inl (n)), (7, .inl (Lv S mo sq n x r))] [] (h) = EX (d+3) m_Mod_laysLeast 194 [(0, .inr (.inr (72))), (1, .inr (.inr (a))), (2, .inl (mo)), (3, .inl (sq)), (4, .inl (x)), (5, .inl (r))] [] (h2) := by
      simp (disch := omega) only [Mod_laysLeast_175, Mod_laysLeast_185, Mod_laysLeast_188, wr_id, ix_id, okx, if_pos, if_neg, Int.toNat_of_nonneg, bak_v, bak_n, wr_b01, wr_bt, b01_or, b01_0, b01_1, lc_lt0, lc_gt0, lc_eq0, wl_wr, wr_wr, wl_id, true_and, and_true, true_or, or_true, not_true_eq_false, not_false_eq_true, nc0, nc1, nc2, nc3, nc4, nc5, nc6, nc7, nc8, nc9, nc10, nc11, nc12, nc13, nc14, nc15, nc16, nc17, nc18, nc19, nc20, nc21, nc22, nc23, nc35, nc47, nc59, nc60, nc61, nc73, nc74, nc214, nc215, nc1115, nc2230, nc3345, if_true, if_false, Int.reduceToNat, m_spot, hk, hN]
      exact e2
    rw [Mod_laysLeast_63]
    by_cases c : n = 0
    · subst c
      simp (disch := omega) only [Mod_laysLeast_70, Mod_laysLeast_75, Mod_laysLeast_80, wr_id, ix_id, okx, if_pos, if_neg, Int.toNat_of_nonneg, bak_v, bak_n, wr_b01, wr_bt, b01_or, b01_0, b01_1, lc_lt0, lc_gt0, lc_eq0, wl_wr, wr_wr, wl_id, true_and, and_true, true_or, or_true, not_true_eq_false, not_false_eq_true, nc0, nc1, nc2, nc3, nc4, nc5, nc6, nc7, nc8, nc9, nc10, nc11, nc12, nc13, nc14, nc15, nc16, nc17, nc18, nc19, nc20, nc21, nc22, nc23, nc35, nc47, nc59, nc60, nc61, nc73, nc74, nc214, nc215, nc1115, nc2230, nc3345, if_true, if_false, Int.reduceToNat]
      rw [Mod_laysLeast_88]
      have e0 : Lv S mo sq 0 x r = 0 := rfl
      rw [e0] at e175
      by_cases c2 : x + 1 < S 1
      · simp (disch := omega) only [Mod_laysLeast_99, wr_id, ix_id, okx, if_pos, if_neg, Int.toNat_of_nonneg, bak_v, bak_n, wr_b01, wr_bt, b01_or, b01_0, b01_1, lc_lt0, lc_gt0, lc_eq0, wl_wr, wr_wr, wl_id, true_and, and_true, true_or, or_true, not_true_eq_false, not_false_eq_true, nc0, nc1, nc2, nc3, nc4, nc5, nc6, nc7, nc8, nc9, nc10, nc11, nc12, nc13, nc14, nc15, nc16, nc17, nc18, nc19, nc20, nc21, nc22, nc23, nc35, nc47, nc59, nc60, nc61, nc73, nc74, nc214, nc215, nc1115, nc2230, nc3345, if_true, if_false, Int.reduceToNat, hm.k, hm.r1, hm.r2, hm.r3, hm.r4, hm.r15, hm.r16, hm.r19, hm.r23, hm.r24, hm.r25, hm.r26, hm.r29, hm.r30, hm.r31, hm.r33, hm.r34, hm.r35, hm.k73, hm.k74, hm.k75, hm.k76, hm.k77, hm.k78, hm.k79, hm.k80, hm.k81, hm.k82, hm.k83, hm.k84, hm.k85, hm.k86, hm.k87, hm.k88, hm.k89, hm.n73, hm.n74, hm.n75, hm.n76, hm.n77, hm.n78, hm.n79, hm.n80, hm.n81, hm.n82, hm.n83, hm.n84, hm.n85, hm.n86, hm.n87, hm.n88, hm.n89, ms.2]
        exact e175
      · simp (disch := omega) only [wr_id, ix_id, okx, if_pos, if_neg, Int.toNat_of_nonneg, bak_v, bak_n, wr_b01, wr_bt, b01_or, b01_0, b01_1, lc_lt0, lc_gt0, lc_eq0, wl_wr, wr_wr, wl_id, true_and, and_true, true_or, or_true, not_true_eq_false, not_false_eq_true, nc0, nc1, nc2, nc3, nc4, nc5, nc6, nc7, nc8, nc9, nc10, nc11, nc12, nc13, nc14, nc15, nc16, nc17, nc18, nc19, nc20, nc21, nc22, nc23, nc35, nc47, nc59, nc60, nc61, nc73, nc74, nc214, nc215, nc1115, nc2230, nc3345, if_true, if_false, Int.reduceToNat, hm.k, hm.r1, hm.r2, hm.r3, hm.r4, hm.r15, hm.r16, hm.r19, hm.r23, hm.r24, hm.r25, hm.r26, hm.r29, hm.r30, hm.r31, hm.r33, hm.r34, hm.r35, hm.k73, hm.k74, hm.k75, hm.k76, hm.k77, hm.k78, hm.k79, hm.k80, hm.k81, hm.k82, hm.k83, hm.k84, hm.k85, hm.k86, hm.k87, hm.k88, hm.k89, hm.n73, hm.n74, hm.n75, hm.n76, hm.n77, hm.n78, hm.n79, hm.n80, hm.n81, hm.n82, hm.n83, hm.n84, hm.n85, hm.n86, hm.n87, hm.n88, hm.n89, ms.2]
        exact e175
    · simp (disch := omega) only [Mod_laysLeast_70, Mod_laysLeast_79, Mod_laysLeast_80, wr_id, ix_id, okx, if_pos, if_neg, Int.toNat_of_nonneg, bak_v, bak_n, wr_b01, wr_bt, b01_or, b01_0, b01_1, lc_lt0, lc_gt0, lc_eq0, wl_wr, wr_wr, wl_id, true_and, and_true, true_or, or_true, not_true_eq_false, not_false_eq_true, nc0, nc1, nc2, nc3, nc4, nc5, nc6, nc7, nc8, nc9, nc10, nc11, nc12, nc13, nc14, nc15, nc16, nc17, nc18, nc19, nc20, nc21, nc22, nc23, nc35, nc47, nc59, nc60, nc61, nc73, nc74, nc214, nc215, nc1115, nc2230, nc3345, if_true, if_false, Int.reduceToNat]
      refine (m_lL_2 (d := d) ha p n64 gd hmo hsq (n := n) (by omega) (x := x) (r := r) (by omega) hr hxr lv (x + 1) (by omega) (by omega) (-1) (by omega)).trans ?_
      rw [← Lv_s (by omega)]
      exact e175
theorem m_lL_4 {d a : Nat} {S nb : Int → Int} (ha : a = 82 ∨ a = 83) (n64 : N64 nb) (gd : Gd S) {mo sq x : Int} (hmo : -1 ≤ mo ∧ mo ≤ 100000000) (hsq : sq = 0 ∨ sq = 1) (hx : -1 ≤ x ∧ x < S 1) : ∀ r, -2 ≤ r → r < S 2 → ∀ h, PT h S nb → (∀ g s, x < g → g < S 1 → 0 ≤ s → s < S 2 → lsV h a S mo sq g s) → (∀ s, r < s → s < S 2 → (x = -1 ↔ s = -1) → lsV h a S mo sq x s) → ∃ h', EX (d+3) m_Mod_laysLeast 26 [(0, .inr (.inr (72))), (1, .inr (.inr (a))), (2, .inl (mo)), (3, .inl (sq)), (4, .inl (x)), (5, .inl (r))] [] (h) = EX (d+3) m_Mod_laysLeast 200 [(0, .inr (.inr (72))), (1, .inr (.inr (a))), (2, .inl (mo)), (3, .inl (sq)), (4, .inl (x))] [] (h') ∧ (∀ g s, x ≤ g → g < S 1 → -1 ≤ s → s < S 2 → (g = -1 ↔ s = -1) → lsV h' a S mo sq g s) ∧ Fr (fun b _ => b = a) h h' := by
  have ga := gd.a
  have gb := gd.b
  refine dn_ind (lo := -1) ?_ ?_
  · intro r hr h0 h1 h p lv lx
    refine ⟨h, ?_, fun g s z1 z2 z3 z4 z5 => ?_, Fr.rf⟩
    · rw [Mod_laysLeast_26]
      simp (disch := omega) only [wr_id, ix_id, okx, if_pos, if_neg, Int.toNat_of_nonneg, bak_v, bak_n, wr_b01, wr_bt, b01_or, b01_0, b01_1, lc_lt0, lc_gt0, lc_eq0, wl_wr, wr_wr, wl_id, true_and, and_true, true_or, or_true, not_true_eq_false, not_false_eq_true, nc0, nc1, nc2, nc3, nc4, nc5, nc6, nc7, nc8, nc9, nc10, nc11, nc12, nc13, nc14, nc15, nc16, nc17, nc18, nc19, nc20, nc21, nc22, nc23, nc35, nc47, nc59, nc60, nc61, nc73, nc74, nc214, nc215, nc1115, nc2230, nc3345, if_true, if_false, Int.reduceToNat]
    · by_cases c : g = x
      · rw [c] at z5 ⊢; exact lx s (by omega) z4 z5
      · exact lv g s (by omega) z2 (by omega) z4
  · intro r hr ih h0 h1 h p lv lx
    have er : r + -1 = r - 1 := by omega
    by_cases c : x = -1 ↔ r = -1
    · obtain ⟨h1', e1, k1, f1⟩ := m_lL_3 (d := d) ha n64 gd hmo hsq hx (r := r) ⟨hr, h1⟩ c 0 (by omega) (by omega) h p lv (fun m m0 m1 => by omega)
      have fm : Fr (fun b _ => b = a) h h1' := f1.mo (fun b k q => q.1)
      obtain ⟨h2, e2, k2, f2⟩ := ih (by omega) (by omega) h1' (p.fr fm (fun b k q => by omega)) (fun g s z1 z2 z3 z4 => (lv g s z1 z2 z3 z4).fr f1 (by omega) (by omega) (by omega) (by omega) (by omega)) (fun s s1 s2 s3 => by
        by_cases cs : s = r
        · rw [cs]; exact k1
        · exact (lx s (by omega) s2 s3).fr f1 (by omega) (by omega) (by omega) (by omega) (by omega))
      refine ⟨h2, ?_, k2, fm.tr f2⟩
      rw [Mod_laysLeast_26]
      by_cases cx : x = -1
      · have cr := c.mp cx
        simp (disch := omega) only [Mod_laysLeast_32, Mod_laysLeast_38, Mod_laysLeast_43, Mod_laysLeast_49, Mod_laysLeast_54, Mod_laysLeast_60, wr_id, ix_id, okx, if_pos, if_neg, Int.toNat_of_nonneg, bak_v, bak_n, wr_b01, wr_bt, b01_or, b01_0, b01_1, lc_lt0, lc_gt0, lc_eq0, wl_wr, wr_wr, wl_id, true_and, and_true, true_or, or_true, not_true_eq_false, not_false_eq_true, nc0, nc1, nc2, nc3, nc4, nc5, nc6, nc7, nc8, nc9, nc10, nc11, nc12, nc13, nc14, nc15, nc16, nc17, nc18, nc19, nc20, nc21, nc22, nc23, nc35, nc47, nc59, nc60, nc61, nc73, nc74, nc214, nc215, nc1115, nc2230, nc3345, if_true, if_false, Int.reduceToNat]
        refine e1.trans ?_
        rw [Mod_laysLeast_194, er]
        exact e2
      · have cr : ¬ r = -1 := fun q => cx (c.mpr q)
        simp (disch := omega) only [Mod_laysLeast_32, Mod_laysLeast_42, Mod_laysLeast_43, Mod_laysLeast_53, Mod_laysLeast_54, Mod_laysLeast_60, wr_id, ix_id, okx, if_pos, if_neg, Int.toNat_of_nonneg, bak_v, bak_n, wr_b01, wr_bt, b01_or, b01_0, b01_1, lc_lt0, lc_gt0, lc_eq0, wl_wr, wr_wr, wl_id, true_and, and_true, true_or, or_true, not_true_eq_false, not_false_eq_true, nc0, nc1, nc2, nc3, nc4, nc5, nc6, nc7, nc8, nc9, nc10, nc11, nc12, nc13, nc14, nc15, nc16, nc17, nc18, nc19, nc20, nc21, nc22, nc23, nc35, nc47, nc59, nc60, nc61, nc73, nc74, nc214, nc215, nc1115, nc2230, nc3345, if_true, if_false, Int.reduceToNat]
        refine e1.trans ?_
        rw [Mod_laysLeast_194, er]
        exact e2
    · obtain ⟨h2, e2, k2, f2⟩ := ih (by omega) (by omega) h p lv (fun s s1 s2 s3 => by
        by_cases cs : s = r
        · rw [cs] at s3; exact absurd s3 c
        · exact lx s (by omega) s2 s3)
      refine ⟨h2, ?_, k2, f2⟩
      rw [Mod_laysLeast_26]
      by_cases cx : x = -1
      · have cr : ¬ r = -1 := fun q => c ⟨fun _ => q, fun _ => cx⟩
        simp (disch := omega) only [Mod_laysLeast_32, Mod_laysLeast_38, Mod_laysLeast_43, Mod_laysLeast_53, Mod_laysLeast_54, Mod_laysLeast_57, Mod_laysLeast_194, wr_id, ix_id, okx, if_pos, if_neg, Int.toNat_of_nonneg, bak_v, bak_n, wr_b01, wr_bt, b01_or, b01_0, b01_1, lc_lt0, lc_gt0, lc_eq0, wl_wr, wr_wr, wl_id, true_and, and_true, true_or, or_true, not_true_eq_false, not_false_eq_true, nc0, nc1, nc2, nc3, nc4, nc5, nc6, nc7, nc8, nc9, nc10, nc11, nc12, nc13, nc14, nc15, nc16, nc17, nc18, nc19, nc20, nc21, nc22, nc23, nc35, nc47, nc59, nc60, nc61, nc73, nc74, nc214, nc215, nc1115, nc2230, nc3345, if_true, if_false, Int.reduceToNat, er, e2]
      · have cr : r = -1 := by
          refine Decidable.not_not.mp fun q => c ⟨fun z => absurd z cx, fun z => absurd z q⟩
        simp (disch := omega) only [Mod_laysLeast_32, Mod_laysLeast_42, Mod_laysLeast_43, Mod_laysLeast_49, Mod_laysLeast_54, Mod_laysLeast_57, Mod_laysLeast_194, wr_id, ix_id, okx, if_pos, if_neg, Int.toNat_of_nonneg, bak_v, bak_n, wr_b01, wr_bt, b01_or, b01_0, b01_1, lc_lt0, lc_gt0, lc_eq0, wl_wr, wr_wr, wl_id, true_and, and_true, true_or, or_true, not_true_eq_false, not_false_eq_true, nc0, nc1, nc2, nc3, nc4, nc5, nc6, nc7, nc8, nc9, nc10, nc11, nc12, nc13, nc14, nc15, nc16, nc17, nc18, nc19, nc20, nc21, nc22, nc23, nc35, nc47, nc59, nc60, nc61, nc73, nc74, nc214, nc215, nc1115, nc2230, nc3345, if_true, if_false, Int.reduceToNat, er, e2]
theorem m_lL_5 {d a : Nat} {S nb : Int → Int} (ha : a = 82 ∨ a = 83) (n64 : N64 nb) (gd : Gd S) {mo sq : Int} (hmo : -1 ≤ mo ∧ mo ≤ 100000000) (hsq : sq = 0 ∨ sq = 1) : ∀ x, -2 ≤ x → x < S 1 → ∀ h, PT h S nb → (∀ g s, x < g → g < S 1 → -1 ≤ s → s < S 2 → (g = -1 ↔ s = -1) → lsV h a S mo sq g s) → ∃ h', EX (d+3) m_Mod_laysLeast 10 [(0, .inr (.inr (72))), (1, .inr (.inr (a))), (2, .inl (mo)), (3, .inl (sq)), (4, .inl (x))] [] (h) = some (.inl 0, h') ∧ (∀ g s, -1 ≤ g → g < S 1 → -1 ≤ s → s < S 2 → (g = -1 ↔ s = -1) → lsV h' a S mo sq g s) ∧ Fr (fun b _ => b = a) h h' := by
  have ga := gd.a
  have gb := gd.b
  refine dn_ind (lo := -1) ?_ ?_
  · intro x hx h0 h1 h p lv
    refine ⟨h, ?_, fun g s z1 z2 z3 z4 z5 => lv g s (by omega) z2 z3 z4 z5, Fr.rf⟩
    rw [Mod_laysLeast_10]
    simp (disch := omega) only [Mod_laysLeast_206, wr_id, ix_id, okx, if_pos, if_neg, Int.toNat_of_nonneg, bak_v, bak_n, wr_b01, wr_bt, b01_or, b01_0, b01_1, lc_lt0, lc_gt0, lc_eq0, wl_wr, wr_wr, wl_id, true_and, and_true, true_or, or_true, not_true_eq_false, not_false_eq_true, nc0, nc1, nc2, nc3, nc4, nc5, nc6, nc7, nc8, nc9, nc10, nc11, nc12, nc13, nc14, nc15, nc16, nc17, nc18, nc19, nc20, nc21, nc22, nc23, nc35, nc47, nc59, nc60, nc61, nc73, nc74, nc214, nc215, nc1115, nc2230, nc3345, if_true, if_false, Int.reduceToNat]
  · intro x hx ih h0 h1 h p lv
    have ms := p.1.1
    have hm := ms.1
    obtain ⟨h1', e1, k1, f1⟩ := m_lL_4 (d := d) ha n64 gd hmo hsq (x := x) ⟨hx, h1⟩ (S 2 - 1) (by omega) (by omega) h p (fun g s z1 z2 z3 z4 => lv g s z1 z2 (by omega) z4 (by omega)) (fun s s1 s2 _ => by omega)
    obtain ⟨h2, e2, k2, f2⟩ := ih (by omega) (by omega) h1' (p.fr f1 (fun b k q => by omega)) (fun g s z1 z2 z3 z4 z5 => k1 g s (by omega) z2 z3 z4 z5)
    refine ⟨h2, ?_, k2, f1.tr f2⟩
    rw [Mod_laysLeast_10]
    simp (disch := omega) only [Mod_laysLeast_16, wr_id, ix_id, okx, if_pos, if_neg, Int.toNat_of_nonneg, bak_v, bak_n, wr_b01, wr_bt, b01_or, b01_0, b01_1, lc_lt0, lc_gt0, lc_eq0, wl_wr, wr_wr, wl_id, true_and, and_true, true_or, or_true, not_true_eq_false, not_false_eq_true, nc0, nc1, nc2, nc3, nc4, nc5, nc6, nc7, nc8, nc9, nc10, nc11, nc12, nc13, nc14, nc15, nc16, nc17, nc18, nc19, nc20, nc21, nc22, nc23, nc35, nc47, nc59, nc60, nc61, nc73, nc74, nc214, nc215, nc1115, nc2230, nc3345, if_true, if_false, Int.reduceToNat, hm.k, hm.r1, hm.r2, hm.r3, hm.r4, hm.r15, hm.r16, hm.r19, hm.r23, hm.r24, hm.r25, hm.r26, hm.r29, hm.r30, hm.r31, hm.r33, hm.r34, hm.r35, hm.k73, hm.k74, hm.k75, hm.k76, hm.k77, hm.k78, hm.k79, hm.k80, hm.k81, hm.k82, hm.k83, hm.k84, hm.k85, hm.k86, hm.k87, hm.k88, hm.k89, hm.n73, hm.n74, hm.n75, hm.n76, hm.n77, hm.n78, hm.n79, hm.n80, hm.n81, hm.n82, hm.n83, hm.n84, hm.n85, hm.n86, hm.n87, hm.n88, hm.n89, ms.2]
    refine e1.trans ?_
    rw [Mod_laysLeast_200, show x + -1 = x - 1 by omega]
    exact e2
theorem m_laysLeast {d a : Nat} {h : Hp} {S nb : Int → Int} (ha : a = 82 ∨ a = 83) (n64 : N64 nb) (gd : Gd S) {mo sq : Int} (hmo : -1 ≤ mo ∧ mo ≤ 100000000) (hsq : sq = 0 ∨ sq = 1) (p : PT h S nb) : ∃ h', cal (d+4) m_Mod_laysLeast [.inr (.inr (72)), .inr (.inr (a)), .inl (mo), .inl (sq)] (h) = some (.inl 0, h') ∧ (∀ g s, -1 ≤ g → g < S 1 → -1 ≤ s → s < S 2 → (g = -1 ↔ s = -1) → lsV h' a S mo sq g s) ∧ Fr (fun b _ => b = a) h h' := by
  have ga := gd.a
  have ms := p.1.1
  have hm := ms.1
  obtain ⟨h', e, k, f⟩ := m_lL_5 (d := d) ha n64 gd hmo hsq (S 1 - 1) (by omega) (by omega) h p (fun g s z1 z2 _ _ _ => by omega)
  refine ⟨h', ?_, k, f⟩
  show EX (d+3) m_Mod_laysLeast 0 [(0, .inr (.inr (72))), (1, .inr (.inr (a))), (2, .inl (mo)), (3, .inl (sq))] [] (h) = _
  simp (disch := omega) only [Mod_laysLeast_0, wr_id, ix_id, okx, if_pos, if_neg, Int.toNat_of_nonneg, bak_v, bak_n, wr_b01, wr_bt, b01_or, b01_0, b01_1, lc_lt0, lc_gt0, lc_eq0, wl_wr, wr_wr, wl_id, true_and, and_true, true_or, or_true, not_true_eq_false, not_false_eq_true, nc0, nc1, nc2, nc3, nc4, nc5, nc6, nc7, nc8, nc9, nc10, nc11, nc12, nc13, nc14, nc15, nc16, nc17, nc18, nc19, nc20, nc21, nc22, nc23, nc35, nc47, nc59, nc60, nc61, nc73, nc74, nc214, nc215, nc1115, nc2230, nc3345, if_true, if_false, Int.reduceToNat, hm.k, hm.r1, hm.r2, hm.r3, hm.r4, hm.r15, hm.r16, hm.r19, hm.r23, hm.r24, hm.r25, hm.r26, hm.r29, hm.r30, hm.r31, hm.r33, hm.r34, hm.r35, hm.k73, hm.k74, hm.k75, hm.k76, hm.k77, hm.k78, hm.k79, hm.k80, hm.k81, hm.k82, hm.k83, hm.k84, hm.k85, hm.k86, hm.k87, hm.k88, hm.k89, hm.n73, hm.n74, hm.n75, hm.n76, hm.n77, hm.n78, hm.n79, hm.n80, hm.n81, hm.n82, hm.n83, hm.n84, hm.n85, hm.n86, hm.n87, hm.n88, hm.n89, ms.2]
  exact e
/-- the greatest sag of the evenest; the sum of its squares -/
def eMo (S : Int → Int) : Int := Lv S (-1) 0 (fullN S) (-1) (-1)
def eSq (S : Int → Int) : Int := Lv S (eMo S) 1 (fullN S) (-1) (-1)
/-- what laysEvenest leaves -/
def EvT (h : Hp) (S nb : Int → Int) : Prop := PT h S nb ∧ hI h 72 27 = fullN S ∧ hI h 72 28 = eMo S ∧ (∀ g s, -1 ≤ g → g < S 1 → -1 ≤ s → s < S 2 → (g = -1 ↔ s = -1) → lsV h 83 S (eMo S) 1 g s)
theorem eMo_rng {S : Int → Int} (gd : Gd S) : -1 ≤ eMo S ∧ eMo S ≤ 17280000 := by
  have fs := fullN_spec S
  exact Lv_rng gd (-1) 0 (by omega) (by omega) (by omega) (by omega)
theorem eSq_rng {S : Int → Int} (gd : Gd S) : -1 ≤ eSq S ∧ eSq S ≤ 17280000 := by
  have fs := fullN_spec S
  exact Lv_rng gd (eMo S) 1 (by omega) (by omega) (by omega) (by omega)
theorem W6.f2 {h h' : Hp} {S nb : Int → Int} {oh or t : Int} (w : W6 h S nb oh or t) (k : Nat) (v : Int) (hk : k = 27 ∨ k = 28) (e : h' = pI h 72 k v) : W6 h' S nb oh or t := by
  subst e
  refine ⟨w.1.o (by omega), w.2.1, ?_, ?_, ?_⟩
  · rw [hI_pI, if_neg (by omega)]; exact w.2.2.1
  · rw [hI_pI, if_neg (by omega)]; exact w.2.2.2.1
  · rw [hI_pI, if_neg (by omega)]; exact w.2.2.2.2
theorem PT.f2 {h : Hp} {S nb : Int → Int} (p : PT h S nb) (k : Nat) (v : Int) (hk : k = 27 ∨ k = 28) : PT (pI h 72 k v) S nb := ⟨p.1.f2 k v hk rfl, p.2⟩
/-- what evenest writes -/
def pEv (a k : Nat) : Prop := (a = 72 ∧ ¬ k = 5 ∧ ¬ k = 13 ∧ ¬ k = 14) ∨ a = 79 ∨ a = 80 ∨ a = 82 ∨ a = 83
theorem pEv.wq {a k : Nat} (h : pEv a k) : wQ a k := by unfold pEv at h; unfold wQ; omega
theorem m_laysEvenest {d : Nat} {h : Hp} {S nb : Int → Int} (ms : MS h S) (hnb : ∀ k : Nat, hL h 89 k = nb k) (n64 : N64 nb) (gd : Gd S) : ∃ h', cal (d+6) m_Mod_laysEvenest [.inr (.inr (72))] (h) = some (.inl 0, h') ∧ EvT h' S nb ∧ Fr pEv h h' := by
  have ga := gd.a
  have gb := gd.b
  have fs := fullN_spec S
  have mr := eMo_rng gd
  obtain ⟨h1, e1, w1, tb1, f1⟩ := m_fullOf (d := d) ms hnb n64 gd
  have p2 : PT (pI h1 72 27 (fullN S)) S nb := PT.f2 ⟨w1, tb1⟩ 27 _ (Or.inl rfl)
  have f2 : Fr pEv h1 (pI h1 72 27 (fullN S)) := Fr.pI Fr.rf (by unfold pEv; omega)
  obtain ⟨h3, e3, l3, f3⟩ := m_laysLeast (d := d + 1) (a := 82) (Or.inl rfl) n64 gd (mo := -1) (sq := 0) (by omega) (Or.inl rfl) p2
  have p3 := p2.fr f3 (fun b k q => by omega)
  have f4 : Fr pEv h3 (pI h3 72 28 (eMo S)) := Fr.pI Fr.rf (by unfold pEv; omega)
  have p4 : PT (pI h3 72 28 (eMo S)) S nb := p3.f2 28 _ (Or.inr rfl)
  obtain ⟨h5, e5, l5, f5⟩ := m_laysLeast (d := d + 1) (a := 83) (Or.inr rfl) n64 gd (mo := eMo S) (sq := 1) (by omega) (Or.inr rfl) p4
  have p5 := p4.fr f5 (fun b k q => by omega)
  have e27 : hI h3 72 27 = fullN S := by rw [f3.I (by omega), hI_pI, if_pos ⟨rfl, rfl⟩]
  have eg := l3 (-1) (-1) (by omega) (by omega) (by omega) (by omega) (by omega) (fullN S) fs.1 fs.2.1
  refine ⟨h5, ?_, ⟨p5, by rw [f5.I (by omega), hI_pI, if_neg (by omega)]; exact e27, by rw [f5.I (by omega), hI_pI, if_pos ⟨rfl, rfl⟩], l5⟩, (f1.mo (fun b k q => by unfold pWy at q; unfold pEv; omega)).tr (f2.tr ((f3.mo (fun b k q => by unfold pEv; omega)).tr (f4.tr (f5.mo (fun b k q => by unfold pEv; omega)))))⟩
  show EX (d+5) m_Mod_laysEvenest 0 [(0, .inr (.inr (72)))] [] (h) = _
  have hk := ms.1.k
  have hm1 := w1.1.1
  have hm2 := p2.1.1.1
  have hm3 := p3.1.1.1
  have hm4 := p4.1.1.1
  have e28 : hI (pI h3 72 28 (eMo S)) 72 28 = eMo S := by rw [hI_pI, if_pos ⟨rfl, rfl⟩]
  have eg' : hI h3 82 (169 * (-1 + 1) + 13 * (-1 + 1) + fullN S).toNat = eMo S := eg
  simp (disch := omega) only [Mod_laysEvenest_0, Mod_laysEvenest_5, wr_id, ix_id, okx, if_pos, if_neg, Int.toNat_of_nonneg, bak_v, bak_n, wr_b01, wr_bt, b01_or, b01_0, b01_1, lc_lt0, lc_gt0, lc_eq0, wl_wr, wr_wr, wl_id, true_and, and_true, true_or, or_true, not_true_eq_false, not_false_eq_true, nc0, nc1, nc2, nc3, nc4, nc5, nc6, nc7, nc8, nc9, nc10, nc11, nc12, nc13, nc14, nc15, nc16, nc17, nc18, nc19, nc20, nc21, nc22, nc23, nc35, nc47, nc59, nc60, nc61, nc73, nc74, nc214, nc215, nc1115, nc2230, nc3345, if_true, if_false, Int.reduceToNat, hk, e1, hm1.k]
  rw [Mod_laysEvenest_8]
  simp (disch := omega) only [wr_id, ix_id, okx, if_pos, if_neg, Int.toNat_of_nonneg, bak_v, bak_n, wr_b01, wr_bt, b01_or, b01_0, b01_1, lc_lt0, lc_gt0, lc_eq0, wl_wr, wr_wr, wl_id, true_and, and_true, true_or, or_true, not_true_eq_false, not_false_eq_true, nc0, nc1, nc2, nc3, nc4, nc5, nc6, nc7, nc8, nc9, nc10, nc11, nc12, nc13, nc14, nc15, nc16, nc17, nc18, nc19, nc20, nc21, nc22, nc23, nc35, nc47, nc59, nc60, nc61, nc73, nc74, nc214, nc215, nc1115, nc2230, nc3345, if_true, if_false, Int.reduceToNat, hm2.k, hm2.r25, e3]
  rw [Mod_laysEvenest_18]
  simp (disch := omega) only [wr_id, ix_id, okx, if_pos, if_neg, Int.toNat_of_nonneg, bak_v, bak_n, wr_b01, wr_bt, b01_or, b01_0, b01_1, lc_lt0, lc_gt0, lc_eq0, wl_wr, wr_wr, wl_id, true_and, and_true, true_or, or_true, not_true_eq_false, not_false_eq_true, nc0, nc1, nc2, nc3, nc4, nc5, nc6, nc7, nc8, nc9, nc10, nc11, nc12, nc13, nc14, nc15, nc16, nc17, nc18, nc19, nc20, nc21, nc22, nc23, nc35, nc47, nc59, nc60, nc61, nc73, nc74, nc214, nc215, nc1115, nc2230, nc3345, if_true, if_false, Int.reduceToNat, hm3.k, hm3.r25, e27, m_spot]
  rw [Mod_laysEvenest_32]
  simp (disch := omega) only [wr_id, ix_id, okx, if_pos, if_neg, Int.toNat_of_nonneg, bak_v, bak_n, wr_b01, wr_bt, b01_or, b01_0, b01_1, lc_lt0, lc_gt0, lc_eq0, wl_wr, wr_wr, wl_id, true_and, and_true, true_or, or_true, not_true_eq_false, not_false_eq_true, nc0, nc1, nc2, nc3, nc4, nc5, nc6, nc7, nc8, nc9, nc10, nc11, nc12, nc13, nc14, nc15, nc16, nc17, nc18, nc19, nc20, nc21, nc22, nc23, nc35, nc47, nc59, nc60, nc61, nc73, nc74, nc214, nc215, nc1115, nc2230, nc3345, if_true, if_false, Int.reduceToNat, hm3.k, hm3.k82, hm3.n82, eg']
  rw [Mod_laysEvenest_36]
  simp (disch := omega) only [Mod_laysEvenest_49, wr_id, ix_id, okx, if_pos, if_neg, Int.toNat_of_nonneg, bak_v, bak_n, wr_b01, wr_bt, b01_or, b01_0, b01_1, lc_lt0, lc_gt0, lc_eq0, wl_wr, wr_wr, wl_id, true_and, and_true, true_or, or_true, not_true_eq_false, not_false_eq_true, nc0, nc1, nc2, nc3, nc4, nc5, nc6, nc7, nc8, nc9, nc10, nc11, nc12, nc13, nc14, nc15, nc16, nc17, nc18, nc19, nc20, nc21, nc22, nc23, nc35, nc47, nc59, nc60, nc61, nc73, nc74, nc214, nc215, nc1115, nc2230, nc3345, if_true, if_false, Int.reduceToNat, hm4.k, hm4.r26, e28, e5]
