/-! the class reads a law: atoms, units, the whole -/
theorem c_atom {d w : Nat} {T : Int → Int} {n dp : Int} {F : Int → RL} (hd : 0 ≤ dp ∧ dp ≤ 6) (hF : dp < 6 → cPt (d + 4) w T n 3 (dp + 1) F) (hok : ∀ a, a ≤ n → okL n a (F a)) {a : Int} {h : Hp} {l : List Int} (m : CP h w T n a l) (s1 : l.length ≤ a) : ∃ h', cal (d+5) m_Law_readAtom [.inr (.inr (11)), .inr (.inr (9)), .inl (dp)] (h) = some (.inl 0, h') ∧ crL h' w T n l (atP T n F dp a) ∧ Fr pLw h h' := by
  have hc := m.1.1
  have rg := m.rng
  have kd := tkK_ok T n a
  obtain ⟨k3, kr⟩ := m.k
  have nr := nx_rng (T := T) (n := n) (a := a) (by omega)
  have k40 := kc_iff (c := 40) kd (b := 30) (by unfold kdO; omega) rfl
  have k2 := kc_iff (c := 2) kd (b := 21) (by unfold kdO; omega) rfl
  unfold atP
  by_cases c21 : tkK T n a = 21
  · rw [if_pos c21]
    have la : a < n := tkK_22 (T := T) (by omega)
    have k4 := m.2.1.2.2.2 c21
    have tn := tkN_rng (T := T) rg.2.1
    obtain ⟨h1, e1, m1, f1⟩ := c_emit (d := d + 3) (c := tkN T n a) m (by omega) (v := 1000 + tkN T n a) (by unfold ccd; rw [if_pos (by omega)])
    have hc1 := m1.1.1
    obtain ⟨h2, e2, m2, f2⟩ := c_stepP (d := d + 1) m1
    refine ⟨h2, ?_, m2, f1.tr (f2.mo (fun a k z => z.lw))⟩
    show EX (d+4) m_Law_readAtom 0 [(0, .inr (.inr (11))), (1, .inr (.inr (9))), (2, .inl (dp))] [] (h) = _
    rw [c21, show kc 21 = 2 from rfl] at k3
    simp (disch := omega) only [Law_readAtom_0, Law_readAtom_53, Law_readAtom_61, Law_readAtom_73, Law_readAtom_77, Law_readAtom_109, wr_id, ix_id, okx, if_pos, if_neg, Int.toNat_of_nonneg, bak_v, bak_n, wr_b01, wr_bt, b01_or, b01_0, b01_1, lc_lt0, lc_gt0, lc_eq0, wl_wr, wr_wr, wl_id, true_and, and_true, true_or, or_true, not_true_eq_false, not_false_eq_true, nc0, nc1, nc2, nc3, nc4, nc5, nc6, nc7, nc8, nc9, nc10, nc11, nc12, nc13, nc14, nc15, nc16, nc17, nc18, nc19, nc20, nc21, nc22, nc23, nc35, nc47, nc59, nc60, nc61, nc73, nc74, nc214, nc215, nc1115, nc2230, nc3345, if_true, if_false, Int.reduceToNat, hc.k9, hc.k11, hc1.k9, k3, k4, e1, e2]
  rw [if_neg c21]
  have n2 : ¬ kc (tkK T n a) = 2 := fun z => c21 (k2.mp z)
  have nm : ∀ c, (tkK T n a = 2 ∧ c = 1000) ∨ (tkK T n a = 4 ∧ c = 1001) ∨ ((14 ≤ tkK T n a ∧ tkK T n a ≤ 17) ∧ c = 1002 + tkK T n a - 14) → ∃ h', cal (d+5) m_Law_readAtom [.inr (.inr (11)), .inr (.inr (9)), .inl (dp)] (h) = some (.inl 0, h') ∧ CP h' w T n (nx T n a) (l ++ [c]) ∧ Fr pLw h h' := fun c hcs => by
    have la : a < n := tkK_22 (T := T) (by omega)
    have vs : kc (tkK T n a) = ccd c ∧ (kc (tkK T n a) = 130 ∨ kc (tkK T n a) = 131 ∨ (142 ≤ kc (tkK T n a) ∧ kc (tkK T n a) ≤ 145)) := by
      rcases hcs with ⟨z, e⟩ | ⟨z, e⟩ | ⟨z, e⟩
      · rw [z, e]; exact ⟨rfl, Or.inl rfl⟩
      · rw [z, e]; exact ⟨rfl, Or.inr (Or.inl rfl)⟩
      · have : tkK T n a = 14 ∨ tkK T n a = 15 ∨ tkK T n a = 16 ∨ tkK T n a = 17 := by omega
        rw [e]
        rcases this with y | y | y | y <;> rw [y] <;> exact ⟨rfl, Or.inr (Or.inr (by decide))⟩
    obtain ⟨h1, e1, m1, f1⟩ := c_emit (d := d + 3) (c := c) m (by omega) vs.1
    have hc1 := m1.1.1
    obtain ⟨h2, e2, m2, f2⟩ := c_stepP (d := d + 1) m1
    refine ⟨h2, ?_, m2, f1.tr (f2.mo (fun a k z => z.lw))⟩
    have en : cal (d+4) m_Law_isName [.inl (kc (tkK T n a))] (h) = some (.inl 1, h) := by
      show EX (d+3) m_Law_isName 0 [(0, .inl (kc (tkK T n a)))] [] (h) = _
      rcases vs.2 with y | y | y
      · simp (disch := omega) only [Law_isName_0, Law_isName_28, Law_isName_33, wr_id, ix_id, okx, if_pos, if_neg, Int.toNat_of_nonneg, bak_v, bak_n, wr_b01, wr_bt, b01_or, b01_0, b01_1, lc_lt0, lc_gt0, lc_eq0, wl_wr, wr_wr, wl_id, true_and, and_true, true_or, or_true, not_true_eq_false, not_false_eq_true, nc0, nc1, nc2, nc3, nc4, nc5, nc6, nc7, nc8, nc9, nc10, nc11, nc12, nc13, nc14, nc15, nc16, nc17, nc18, nc19, nc20, nc21, nc22, nc23, nc35, nc47, nc59, nc60, nc61, nc73, nc74, nc214, nc215, nc1115, nc2230, nc3345, if_true, if_false, Int.reduceToNat, y]
      · simp (disch := omega) only [Law_isName_0, Law_isName_7, Law_isName_28, Law_isName_33, wr_id, ix_id, okx, if_pos, if_neg, Int.toNat_of_nonneg, bak_v, bak_n, wr_b01, wr_bt, b01_or, b01_0, b01_1, lc_lt0, lc_gt0, lc_eq0, wl_wr, wr_wr, wl_id, true_and, and_true, true_or, or_true, not_true_eq_false, not_false_eq_true, nc0, nc1, nc2, nc3, nc4, nc5, nc6, nc7, nc8, nc9, nc10, nc11, nc12, nc13, nc14, nc15, nc16, nc17, nc18, nc19, nc20, nc21, nc22, nc23, nc35, nc47, nc59, nc60, nc61, nc73, nc74, nc214, nc215, nc1115, nc2230, nc3345, if_true, if_false, Int.reduceToNat, y]
      · simp (disch := omega) only [Law_isName_0, Law_isName_7, Law_isName_14, Law_isName_21, Law_isName_28, Law_isName_33, wr_id, ix_id, okx, if_pos, if_neg, Int.toNat_of_nonneg, bak_v, bak_n, wr_b01, wr_bt, b01_or, b01_0, b01_1, lc_lt0, lc_gt0, lc_eq0, wl_wr, wr_wr, wl_id, true_and, and_true, true_or, or_true, not_true_eq_false, not_false_eq_true, nc0, nc1, nc2, nc3, nc4, nc5, nc6, nc7, nc8, nc9, nc10, nc11, nc12, nc13, nc14, nc15, nc16, nc17, nc18, nc19, nc20, nc21, nc22, nc23, nc35, nc47, nc59, nc60, nc61, nc73, nc74, nc214, nc215, nc1115, nc2230, nc3345, if_true, if_false, Int.reduceToNat]
    show EX (d+4) m_Law_readAtom 0 [(0, .inr (.inr (11))), (1, .inr (.inr (9))), (2, .inl (dp))] [] (h) = _
    simp (disch := omega) only [Law_readAtom_0, Law_readAtom_53, Law_readAtom_80, Law_readAtom_87, Law_readAtom_90, Law_readAtom_98, Law_readAtom_102, Law_readAtom_109, wr_id, ix_id, okx, if_pos, if_neg, Int.toNat_of_nonneg, bak_v, bak_n, wr_b01, wr_bt, b01_or, b01_0, b01_1, lc_lt0, lc_gt0, lc_eq0, wl_wr, wr_wr, wl_id, true_and, and_true, true_or, or_true, not_true_eq_false, not_false_eq_true, nc0, nc1, nc2, nc3, nc4, nc5, nc6, nc7, nc8, nc9, nc10, nc11, nc12, nc13, nc14, nc15, nc16, nc17, nc18, nc19, nc20, nc21, nc22, nc23, nc35, nc47, nc59, nc60, nc61, nc73, nc74, nc214, nc215, nc1115, nc2230, nc3345, if_true, if_false, Int.reduceToNat, hc.k9, hc.k11, hc1.k9, k3, en, e1, e2]
  by_cases c2 : tkK T n a = 2
  · rw [if_pos c2]
    obtain ⟨h', e, m', f⟩ := nm 1000 (Or.inl ⟨c2, rfl⟩)
    exact ⟨h', e, m', f⟩
  rw [if_neg c2]
  by_cases c4 : tkK T n a = 4
  · rw [if_pos c4]
    obtain ⟨h', e, m', f⟩ := nm 1001 (Or.inr (Or.inl ⟨c4, rfl⟩))
    exact ⟨h', e, m', f⟩
  rw [if_neg c4]
  by_cases c14 : 14 ≤ tkK T n a ∧ tkK T n a ≤ 17
  · rw [if_pos c14]
    obtain ⟨h', e, m', f⟩ := nm _ (Or.inr (Or.inr ⟨c14, rfl⟩))
    exact ⟨h', e, m', f⟩
  rw [if_neg c14]
  by_cases c30 : tkK T n a = 30
  · rw [if_pos c30]
    obtain ⟨h1, e1, r1, f1⟩ := c_mayEnter (d := d + 2) m (by omega) hd
    have kk := k40.mpr c30
    by_cases c6 : dp = 6
    · rw [if_pos c6] at e1 r1 ⊢
      refine ⟨h1, ?_, r1, f1⟩
      show EX (d+4) m_Law_readAtom 0 [(0, .inr (.inr (11))), (1, .inr (.inr (9))), (2, .inl (dp))] [] (h) = _
      simp (disch := omega) only [Law_readAtom_0, Law_readAtom_9, Law_readAtom_14, Law_readAtom_109, wr_id, ix_id, okx, if_pos, if_neg, Int.toNat_of_nonneg, bak_v, bak_n, wr_b01, wr_bt, b01_or, b01_0, b01_1, lc_lt0, lc_gt0, lc_eq0, wl_wr, wr_wr, wl_id, true_and, and_true, true_or, or_true, not_true_eq_false, not_false_eq_true, nc0, nc1, nc2, nc3, nc4, nc5, nc6, nc7, nc8, nc9, nc10, nc11, nc12, nc13, nc14, nc15, nc16, nc17, nc18, nc19, nc20, nc21, nc22, nc23, nc35, nc47, nc59, nc60, nc61, nc73, nc74, nc214, nc215, nc1115, nc2230, nc3345, if_true, if_false, Int.reduceToNat, hc.k9, hc.k11, k3, e1]
    · rw [if_neg c6] at e1 r1 ⊢
      subst r1
      have la : a < n := tkK_22 (T := T) (by omega)
      have := nr.2.2 la
      obtain ⟨h2, e2, m2, f2⟩ := c_stepP (d := d + 1) m
      have hc2 := m2.1.1
      obtain ⟨h3, e3, r3, f3⟩ := hF (by omega) (nx T n a) h2 l m2 (by omega)
      have g2 := f2.mo (fun a k z => pCk.lw (a := a) (k := k) z)
      have hc3 := hc2.fr f3
      have st : cal (d+5) m_Law_readAtom [.inr (.inr (11)), .inr (.inr (9)), .inl (dp)] (h1) = EX (d+4) m_Law_readAtom 30 [(1, .inr (.inr (9)))] [] (h3) := by
        show EX (d+4) m_Law_readAtom 0 [(0, .inr (.inr (11))), (1, .inr (.inr (9))), (2, .inl (dp))] [] (h1) = _
        simp (disch := omega) only [Law_readAtom_0, Law_readAtom_9, Law_readAtom_14, Law_readAtom_17, Law_readAtom_21, wr_id, ix_id, okx, if_pos, if_neg, Int.toNat_of_nonneg, bak_v, bak_n, wr_b01, wr_bt, b01_or, b01_0, b01_1, lc_lt0, lc_gt0, lc_eq0, wl_wr, wr_wr, wl_id, true_and, and_true, true_or, or_true, not_true_eq_false, not_false_eq_true, nc0, nc1, nc2, nc3, nc4, nc5, nc6, nc7, nc8, nc9, nc10, nc11, nc12, nc13, nc14, nc15, nc16, nc17, nc18, nc19, nc20, nc21, nc22, nc23, nc35, nc47, nc59, nc60, nc61, nc73, nc74, nc214, nc215, nc1115, nc2230, nc3345, if_true, if_false, Int.reduceToNat, hc.k9, hc.k11, hc2.k9, hc2.k11, k3, e1, e2, e3]
      cases hq : F (nx T n a) with
      | inl e =>
        rw [hq] at r3
        have r3' : CF h3 w T n e := r3
        by_cases q : wr (hI h3 9 3) = 41
        · obtain ⟨h4, e4, m4, f4⟩ := c_stepF (d := d + 1) r3'
          refine ⟨h4, ?_, m4, (g2.tr f3).tr (f4.mo (fun a k z => z.lw))⟩
          refine st.trans ?_
          rw [Law_readAtom_30, if_pos hc3.k9, if_pos q]
          simp (disch := omega) only [Law_readAtom_39, Law_readAtom_43, Law_readAtom_109, wr_id, ix_id, okx, if_pos, if_neg, Int.toNat_of_nonneg, bak_v, bak_n, wr_b01, wr_bt, b01_or, b01_0, b01_1, lc_lt0, lc_gt0, lc_eq0, wl_wr, wr_wr, wl_id, true_and, and_true, true_or, or_true, not_true_eq_false, not_false_eq_true, nc0, nc1, nc2, nc3, nc4, nc5, nc6, nc7, nc8, nc9, nc10, nc11, nc12, nc13, nc14, nc15, nc16, nc17, nc18, nc19, nc20, nc21, nc22, nc23, nc35, nc47, nc59, nc60, nc61, nc73, nc74, nc214, nc215, nc1115, nc2230, nc3345, if_true, if_false, Int.reduceToNat, hc3.k9, e4]
        · have e4 := c_refuseF (d := d + 2) r3'
          refine ⟨h3, ?_, r3', g2.tr f3⟩
          refine st.trans ?_
          rw [Law_readAtom_30, if_pos hc3.k9, if_neg q]
          simp (disch := omega) only [Law_readAtom_46, Law_readAtom_50, Law_readAtom_109, wr_id, ix_id, okx, if_pos, if_neg, Int.toNat_of_nonneg, bak_v, bak_n, wr_b01, wr_bt, b01_or, b01_0, b01_1, lc_lt0, lc_gt0, lc_eq0, wl_wr, wr_wr, wl_id, true_and, and_true, true_or, or_true, not_true_eq_false, not_false_eq_true, nc0, nc1, nc2, nc3, nc4, nc5, nc6, nc7, nc8, nc9, nc10, nc11, nc12, nc13, nc14, nc15, nc16, nc17, nc18, nc19, nc20, nc21, nc22, nc23, nc35, nc47, nc59, nc60, nc61, nc73, nc74, nc214, nc215, nc1115, nc2230, nc3345, if_true, if_false, Int.reduceToNat, hc3.k9, e4]
      | inr q =>
        rw [hq] at r3
        have r3' : CP h3 w T n q.1 (l ++ q.2) := r3
        have ok := hok (nx T n a) nr.2.1 q hq
        dsimp only
        by_cases c31 : tkK T n q.1 = 31
        · rw [if_pos c31]
          obtain ⟨h4, e4, m4, f4⟩ := c_stepP (d := d + 1) r3'
          refine ⟨h4, ?_, m4, (g2.tr f3).tr (f4.mo (fun a k z => z.lw))⟩
          refine st.trans ?_
          have y3 := r3'.k.1
          rw [c31, show kc 31 = 41 from rfl] at y3
          simp (disch := omega) only [Law_readAtom_30, Law_readAtom_39, Law_readAtom_43, Law_readAtom_109, wr_id, ix_id, okx, if_pos, if_neg, Int.toNat_of_nonneg, bak_v, bak_n, wr_b01, wr_bt, b01_or, b01_0, b01_1, lc_lt0, lc_gt0, lc_eq0, wl_wr, wr_wr, wl_id, true_and, and_true, true_or, or_true, not_true_eq_false, not_false_eq_true, nc0, nc1, nc2, nc3, nc4, nc5, nc6, nc7, nc8, nc9, nc10, nc11, nc12, nc13, nc14, nc15, nc16, nc17, nc18, nc19, nc20, nc21, nc22, nc23, nc35, nc47, nc59, nc60, nc61, nc73, nc74, nc214, nc215, nc1115, nc2230, nc3345, if_true, if_false, Int.reduceToNat, hc3.k9, y3, e4]
        · rw [if_neg c31]
          obtain ⟨h4, e4, m4, f4⟩ := c_refuse (d := d + 2) r3' (by simp only [List.length_append]; omega)
          refine ⟨h4, ?_, m4, (g2.tr f3).tr f4⟩
          refine st.trans ?_
          obtain ⟨y3, y3r⟩ := r3'.k
          have y3n : ¬ kc (tkK T n q.1) = 41 := fun z => c31 ((kc_iff (tkK_ok T n q.1) (b := 31) (by unfold kdO; omega) rfl).mp z)
          simp (disch := omega) only [Law_readAtom_30, Law_readAtom_46, Law_readAtom_50, Law_readAtom_109, wr_id, ix_id, okx, if_pos, if_neg, Int.toNat_of_nonneg, bak_v, bak_n, wr_b01, wr_bt, b01_or, b01_0, b01_1, lc_lt0, lc_gt0, lc_eq0, wl_wr, wr_wr, wl_id, true_and, and_true, true_or, or_true, not_true_eq_false, not_false_eq_true, nc0, nc1, nc2, nc3, nc4, nc5, nc6, nc7, nc8, nc9, nc10, nc11, nc12, nc13, nc14, nc15, nc16, nc17, nc18, nc19, nc20, nc21, nc22, nc23, nc35, nc47, nc59, nc60, nc61, nc73, nc74, nc214, nc215, nc1115, nc2230, nc3345, if_true, if_false, Int.reduceToNat, hc3.k9, y3, e4]
  · rw [if_neg c30]
    have n40 : ¬ kc (tkK T n a) = 40 := fun z => c30 (k40.mp z)
    have q130 : ¬ kc (tkK T n a) = 130 := fun z => c2 ((kc_iff (c := 130) kd (b := 2) (by unfold kdO; omega) rfl).mp z)
    have q131 : ¬ kc (tkK T n a) = 131 := fun z => c4 ((kc_iff (c := 131) kd (b := 4) (by unfold kdO; omega) rfl).mp z)
    have q142 : ¬ kc (tkK T n a) = 142 := fun z => c14 (by have := (kc_iff (c := 142) kd (b := 14) (by unfold kdO; omega) rfl).mp z; omega)
    have q143 : ¬ kc (tkK T n a) = 143 := fun z => c14 (by have := (kc_iff (c := 143) kd (b := 15) (by unfold kdO; omega) rfl).mp z; omega)
    have q144 : ¬ kc (tkK T n a) = 144 := fun z => c14 (by have := (kc_iff (c := 144) kd (b := 16) (by unfold kdO; omega) rfl).mp z; omega)
    have q145 : ¬ kc (tkK T n a) = 145 := fun z => c14 (by have := (kc_iff (c := 145) kd (b := 17) (by unfold kdO; omega) rfl).mp z; omega)
    have en : cal (d+4) m_Law_isName [.inl (kc (tkK T n a))] (h) = some (.inl 0, h) := by
      show EX (d+3) m_Law_isName 0 [(0, .inl (kc (tkK T n a)))] [] (h) = _
      simp (disch := omega) only [Law_isName_0, Law_isName_7, Law_isName_14, Law_isName_32, Law_isName_33, wr_id, ix_id, okx, if_pos, if_neg, Int.toNat_of_nonneg, bak_v, bak_n, wr_b01, wr_bt, b01_or, b01_0, b01_1, lc_lt0, lc_gt0, lc_eq0, wl_wr, wr_wr, wl_id, true_and, and_true, true_or, or_true, not_true_eq_false, not_false_eq_true, nc0, nc1, nc2, nc3, nc4, nc5, nc6, nc7, nc8, nc9, nc10, nc11, nc12, nc13, nc14, nc15, nc16, nc17, nc18, nc19, nc20, nc21, nc22, nc23, nc35, nc47, nc59, nc60, nc61, nc73, nc74, nc214, nc215, nc1115, nc2230, nc3345, if_true, if_false, Int.reduceToNat]
    obtain ⟨h4, e4, m4, f4⟩ := c_refuse (d := d + 2) m (by omega)
    refine ⟨h4, ?_, m4, f4⟩
    show EX (d+4) m_Law_readAtom 0 [(0, .inr (.inr (11))), (1, .inr (.inr (9))), (2, .inl (dp))] [] (h) = _
    simp (disch := omega) only [Law_readAtom_0, Law_readAtom_53, Law_readAtom_80, Law_readAtom_87, Law_readAtom_105, Law_readAtom_109, wr_id, ix_id, okx, if_pos, if_neg, Int.toNat_of_nonneg, bak_v, bak_n, wr_b01, wr_bt, b01_or, b01_0, b01_1, lc_lt0, lc_gt0, lc_eq0, wl_wr, wr_wr, wl_id, true_and, and_true, true_or, or_true, not_true_eq_false, not_false_eq_true, nc0, nc1, nc2, nc3, nc4, nc5, nc6, nc7, nc8, nc9, nc10, nc11, nc12, nc13, nc14, nc15, nc16, nc17, nc18, nc19, nc20, nc21, nc22, nc23, nc35, nc47, nc59, nc60, nc61, nc73, nc74, nc214, nc215, nc1115, nc2230, nc3345, if_true, if_false, Int.reduceToNat, hc.k9, hc.k11, k3, en, e4]
theorem c_cmp {d w : Nat} {T : Int → Int} {n dp : Int} {F : Int → RL} (hd : 0 ≤ dp ∧ dp ≤ 6) (hF : cPt (d + 4) w T n 3 dp F) (hok : ∀ a, a ≤ n → okL n a (F a)) {a : Int} {h : Hp} {l : List Int} (m : CP h w T n a l) (s1 : l.length ≤ a) : ∃ h', EX (d+4) m_Law_readUnit 90 [(0, .inr (.inr (11))), (1, .inr (.inr (9))), (2, .inl (dp))] [] (h) = some (.inl 0, h') ∧ crL h' w T n l (cmP T n F a) ∧ Fr pLw h h' := by
  have hc := m.1.1
  have rg := m.rng
  obtain ⟨h1, e1, r1, f1⟩ := hF a h l m s1
  have hc1 := hc.fr f1
  have st : EX (d+4) m_Law_readUnit 90 [(0, .inr (.inr (11))), (1, .inr (.inr (9))), (2, .inl (dp))] [] (h) = EX (d+4) m_Law_readUnit 97 [(0, .inr (.inr (11))), (1, .inr (.inr (9))), (2, .inl (dp))] [] (h1) := by
    simp (disch := omega) only [Law_readUnit_90, wr_id, ix_id, okx, if_pos, if_neg, Int.toNat_of_nonneg, bak_v, bak_n, wr_b01, wr_bt, b01_or, b01_0, b01_1, lc_lt0, lc_gt0, lc_eq0, wl_wr, wr_wr, wl_id, true_and, and_true, true_or, or_true, not_true_eq_false, not_false_eq_true, nc0, nc1, nc2, nc3, nc4, nc5, nc6, nc7, nc8, nc9, nc10, nc11, nc12, nc13, nc14, nc15, nc16, nc17, nc18, nc19, nc20, nc21, nc22, nc23, nc35, nc47, nc59, nc60, nc61, nc73, nc74, nc214, nc215, nc1115, nc2230, nc3345, if_true, if_false, Int.reduceToNat, hc.k11, e1]
  unfold cmP
  cases hq : F a with
  | inl e =>
    rw [hq] at r1
    have r1' : CF h1 w T n e := r1
    obtain ⟨-, -, ⟨b, ⟨-, -, k3, -⟩, -⟩, -⟩ := id r1'
    have kr := kc_rng (tkK_ok T n b)
    by_cases cc : kc (tkK T n b) = 61 ∨ kc (tkK T n b) = 60 ∨ kc (tkK T n b) = 62
    · obtain ⟨h2, e2, m2, f2⟩ := c_stepF (d := d + 1) r1'
      have hc2 := m2.1.1
      have e3 := c_partF (d := d + 2) m2 (lv := 3) (dp := dp) (by omega)
      obtain ⟨h4, e4, m4, f4⟩ := c_emitF (d := d + 3) m2 (kc (tkK T n b))
      refine ⟨h4, ?_, m4, (f1.tr (f2.mo (fun a k z => z.lw))).tr f4⟩
      refine st.trans ?_
      have s2 : EX (d+4) m_Law_readUnit 97 [(0, .inr (.inr (11))), (1, .inr (.inr (9))), (2, .inl (dp))] [] (h1) = EX (d+4) m_Law_readUnit 120 [(0, .inr (.inr (11))), (1, .inr (.inr (9))), (2, .inl (dp)), (3, .inl (kc (tkK T n b)))] [] (h1) := by
        rcases cc with y | y | y
        · simp (disch := omega) only [Law_readUnit_97, wr_id, ix_id, okx, if_pos, if_neg, Int.toNat_of_nonneg, bak_v, bak_n, wr_b01, wr_bt, b01_or, b01_0, b01_1, lc_lt0, lc_gt0, lc_eq0, wl_wr, wr_wr, wl_id, true_and, and_true, true_or, or_true, not_true_eq_false, not_false_eq_true, nc0, nc1, nc2, nc3, nc4, nc5, nc6, nc7, nc8, nc9, nc10, nc11, nc12, nc13, nc14, nc15, nc16, nc17, nc18, nc19, nc20, nc21, nc22, nc23, nc35, nc47, nc59, nc60, nc61, nc73, nc74, nc214, nc215, nc1115, nc2230, nc3345, if_true, if_false, Int.reduceToNat, hc1.k9, k3]
        · simp (disch := omega) only [Law_readUnit_97, Law_readUnit_108, wr_id, ix_id, okx, if_pos, if_neg, Int.toNat_of_nonneg, bak_v, bak_n, wr_b01, wr_bt, b01_or, b01_0, b01_1, lc_lt0, lc_gt0, lc_eq0, wl_wr, wr_wr, wl_id, true_and, and_true, true_or, or_true, not_true_eq_false, not_false_eq_true, nc0, nc1, nc2, nc3, nc4, nc5, nc6, nc7, nc8, nc9, nc10, nc11, nc12, nc13, nc14, nc15, nc16, nc17, nc18, nc19, nc20, nc21, nc22, nc23, nc35, nc47, nc59, nc60, nc61, nc73, nc74, nc214, nc215, nc1115, nc2230, nc3345, if_true, if_false, Int.reduceToNat, hc1.k9, k3]
        · simp (disch := omega) only [Law_readUnit_97, Law_readUnit_108, Law_readUnit_114, wr_id, ix_id, okx, if_pos, if_neg, Int.toNat_of_nonneg, bak_v, bak_n, wr_b01, wr_bt, b01_or, b01_0, b01_1, lc_lt0, lc_gt0, lc_eq0, wl_wr, wr_wr, wl_id, true_and, and_true, true_or, or_true, not_true_eq_false, not_false_eq_true, nc0, nc1, nc2, nc3, nc4, nc5, nc6, nc7, nc8, nc9, nc10, nc11, nc12, nc13, nc14, nc15, nc16, nc17, nc18, nc19, nc20, nc21, nc22, nc23, nc35, nc47, nc59, nc60, nc61, nc73, nc74, nc214, nc215, nc1115, nc2230, nc3345, if_true, if_false, Int.reduceToNat, hc1.k9, k3]
      refine s2.trans ?_
      simp (disch := omega) only [Law_readUnit_120, Law_readUnit_124, Law_readUnit_131, Law_readUnit_136, Law_readUnit_143, wr_id, ix_id, okx, if_pos, if_neg, Int.toNat_of_nonneg, bak_v, bak_n, wr_b01, wr_bt, b01_or, b01_0, b01_1, lc_lt0, lc_gt0, lc_eq0, wl_wr, wr_wr, wl_id, true_and, and_true, true_or, or_true, not_true_eq_false, not_false_eq_true, nc0, nc1, nc2, nc3, nc4, nc5, nc6, nc7, nc8, nc9, nc10, nc11, nc12, nc13, nc14, nc15, nc16, nc17, nc18, nc19, nc20, nc21, nc22, nc23, nc35, nc47, nc59, nc60, nc61, nc73, nc74, nc214, nc215, nc1115, nc2230, nc3345, if_true, if_false, Int.reduceToNat, hc1.k9, hc2.k11, e2, e3, e4]
    · have e2 := c_refuseF (d := d + 2) r1'
      refine ⟨h1, ?_, r1', f1⟩
      refine st.trans ?_
      simp (disch := omega) only [Law_readUnit_97, Law_readUnit_108, Law_readUnit_114, Law_readUnit_139, Law_readUnit_143, wr_id, ix_id, okx, if_pos, if_neg, Int.toNat_of_nonneg, bak_v, bak_n, wr_b01, wr_bt, b01_or, b01_0, b01_1, lc_lt0, lc_gt0, lc_eq0, wl_wr, wr_wr, wl_id, true_and, and_true, true_or, or_true, not_true_eq_false, not_false_eq_true, nc0, nc1, nc2, nc3, nc4, nc5, nc6, nc7, nc8, nc9, nc10, nc11, nc12, nc13, nc14, nc15, nc16, nc17, nc18, nc19, nc20, nc21, nc22, nc23, nc35, nc47, nc59, nc60, nc61, nc73, nc74, nc214, nc215, nc1115, nc2230, nc3345, if_true, if_false, Int.reduceToNat, hc1.k9, k3, e2]
  | inr q =>
    rw [hq] at r1
    have r1' : CP h1 w T n q.1 (l ++ q.2) := r1
    have ok := hok a rg.2.1 q hq
    have nr := nx_rng (T := T) (n := n) (a := q.1) ok.2
    have kd := tkK_ok T n q.1
    obtain ⟨k3, kr⟩ := r1'.k
    have k61 := kc_iff (c := 61) kd (b := 34) (by unfold kdO; omega) rfl
    have k60 := kc_iff (c := 60) kd (b := 35) (by unfold kdO; omega) rfl
    have k62 := kc_iff (c := 62) kd (b := 36) (by unfold kdO; omega) rfl
    dsimp only
    by_cases c : 34 ≤ tkK T n q.1 ∧ tkK T n q.1 ≤ 36
    · rw [if_pos c]
      have la : q.1 < n := tkK_22 (T := T) (by omega)
      have := nr.2.2 la
      have vs : kc (tkK T n q.1) = ccd (cmC (tkK T n q.1)) := by
        have : tkK T n q.1 = 34 ∨ tkK T n q.1 = 35 ∨ tkK T n q.1 = 36 := by omega
        rcases this with y | y | y <;> rw [y] <;> rfl
      obtain ⟨h2, e2, m2, f2⟩ := c_stepP (d := d + 1) r1'
      have g2 := f2.mo (fun a k z => pCk.lw (a := a) (k := k) z)
      have hc2 := m2.1.1
      obtain ⟨h3, e3, r3, f3⟩ := hF (nx T n q.1) h2 (l ++ q.2) m2 (by simp only [List.length_append]; omega)
      have hc3 := hc2.fr f3
      have s2 : EX (d+4) m_Law_readUnit 97 [(0, .inr (.inr (11))), (1, .inr (.inr (9))), (2, .inl (dp))] [] (h1) = EX (d+4) m_Law_readUnit 120 [(0, .inr (.inr (11))), (1, .inr (.inr (9))), (2, .inl (dp)), (3, .inl (kc (tkK T n q.1)))] [] (h1) := by
        by_cases y : tkK T n q.1 = 34
        · have := k61.mpr y
          simp (disch := omega) only [Law_readUnit_97, wr_id, ix_id, okx, if_pos, if_neg, Int.toNat_of_nonneg, bak_v, bak_n, wr_b01, wr_bt, b01_or, b01_0, b01_1, lc_lt0, lc_gt0, lc_eq0, wl_wr, wr_wr, wl_id, true_and, and_true, true_or, or_true, not_true_eq_false, not_false_eq_true, nc0, nc1, nc2, nc3, nc4, nc5, nc6, nc7, nc8, nc9, nc10, nc11, nc12, nc13, nc14, nc15, nc16, nc17, nc18, nc19, nc20, nc21, nc22, nc23, nc35, nc47, nc59, nc60, nc61, nc73, nc74, nc214, nc215, nc1115, nc2230, nc3345, if_true, if_false, Int.reduceToNat, hc1.k9, k3]
        · have n1 : ¬ kc (tkK T n q.1) = 61 := fun z => y (k61.mp z)
          by_cases y2 : tkK T n q.1 = 35
          · have := k60.mpr y2
            simp (disch := omega) only [Law_readUnit_97, Law_readUnit_108, wr_id, ix_id, okx, if_pos, if_neg, Int.toNat_of_nonneg, bak_v, bak_n, wr_b01, wr_bt, b01_or, b01_0, b01_1, lc_lt0, lc_gt0, lc_eq0, wl_wr, wr_wr, wl_id, true_and, and_true, true_or, or_true, not_true_eq_false, not_false_eq_true, nc0, nc1, nc2, nc3, nc4, nc5, nc6, nc7, nc8, nc9, nc10, nc11, nc12, nc13, nc14, nc15, nc16, nc17, nc18, nc19, nc20, nc21, nc22, nc23, nc35, nc47, nc59, nc60, nc61, nc73, nc74, nc214, nc215, nc1115, nc2230, nc3345, if_true, if_false, Int.reduceToNat, hc1.k9, k3]
          · have n2 : ¬ kc (tkK T n q.1) = 60 := fun z => y2 (k60.mp z)
            have := k62.mpr (by omega)
            simp (disch := omega) only [Law_readUnit_97, Law_readUnit_108, Law_readUnit_114, wr_id, ix_id, okx, if_pos, if_neg, Int.toNat_of_nonneg, bak_v, bak_n, wr_b01, wr_bt, b01_or, b01_0, b01_1, lc_lt0, lc_gt0, lc_eq0, wl_wr, wr_wr, wl_id, true_and, and_true, true_or, or_true, not_true_eq_false, not_false_eq_true, nc0, nc1, nc2, nc3, nc4, nc5, nc6, nc7, nc8, nc9, nc10, nc11, nc12, nc13, nc14, nc15, nc16, nc17, nc18, nc19, nc20, nc21, nc22, nc23, nc35, nc47, nc59, nc60, nc61, nc73, nc74, nc214, nc215, nc1115, nc2230, nc3345, if_true, if_false, Int.reduceToNat, hc1.k9, k3]
      have st2 : ∀ h4, cal (d + 4) m_Law_emit [.inr (.inr 11), .inl (kc (tkK T n q.1))] h3 = some (.inl 0, h4) → EX (d+4) m_Law_readUnit 97 [(0, .inr (.inr (11))), (1, .inr (.inr (9))), (2, .inl (dp))] [] (h1) = some (.inl 0, h4) := fun h4 e4 => by
        refine s2.trans ?_
        simp (disch := omega) only [Law_readUnit_120, Law_readUnit_124, Law_readUnit_131, Law_readUnit_136, Law_readUnit_143, wr_id, ix_id, okx, if_pos, if_neg, Int.toNat_of_nonneg, bak_v, bak_n, wr_b01, wr_bt, b01_or, b01_0, b01_1, lc_lt0, lc_gt0, lc_eq0, wl_wr, wr_wr, wl_id, true_and, and_true, true_or, or_true, not_true_eq_false, not_false_eq_true, nc0, nc1, nc2, nc3, nc4, nc5, nc6, nc7, nc8, nc9, nc10, nc11, nc12, nc13, nc14, nc15, nc16, nc17, nc18, nc19, nc20, nc21, nc22, nc23, nc35, nc47, nc59, nc60, nc61, nc73, nc74, nc214, nc215, nc1115, nc2230, nc3345, if_true, if_false, Int.reduceToNat, hc1.k9, hc2.k11, hc3.k11, e2, e3, e4]
      cases hp : F (nx T n q.1) with
      | inl e =>
        rw [hp] at r3
        have r3' : CF h3 w T n e := r3
        obtain ⟨h4, e4, m4, f4⟩ := c_emitF (d := d + 3) r3' (kc (tkK T n q.1))
        exact ⟨h4, st.trans (st2 h4 e4), m4, ((f1.tr g2).tr f3).tr f4⟩
      | inr p =>
        rw [hp] at r3
        have r3' : CP h3 w T n p.1 ((l ++ q.2) ++ p.2) := r3
        have ok2 := hok (nx T n q.1) nr.2.1 p hp
        obtain ⟨h4, e4, m4, f4⟩ := c_emit (d := d + 3) (c := cmC (tkK T n q.1)) r3' (by simp only [List.length_append]; omega) vs
        have ea : (l ++ q.2) ++ p.2 ++ [cmC (tkK T n q.1)] = l ++ (q.2 ++ (p.2 ++ [cmC (tkK T n q.1)])) := by simp only [List.append_assoc]
        rw [ea] at m4
        exact ⟨h4, st.trans (st2 h4 e4), m4, ((f1.tr g2).tr f3).tr f4⟩
    · rw [if_neg c]
      have n1 : ¬ kc (tkK T n q.1) = 61 := fun z => c (by have := k61.mp z; omega)
      have n2 : ¬ kc (tkK T n q.1) = 60 := fun z => c (by have := k60.mp z; omega)
      have n3 : ¬ kc (tkK T n q.1) = 62 := fun z => c (by have := k62.mp z; omega)
      obtain ⟨h3, e4, m3, f3⟩ := c_refuse (d := d + 2) r1' (by simp only [List.length_append]; omega)
      refine ⟨h3, ?_, m3, f1.tr f3⟩
      refine st.trans ?_
      simp (disch := omega) only [Law_readUnit_97, Law_readUnit_108, Law_readUnit_114, Law_readUnit_139, Law_readUnit_143, wr_id, ix_id, okx, if_pos, if_neg, Int.toNat_of_nonneg, bak_v, bak_n, wr_b01, wr_bt, b01_or, b01_0, b01_1, lc_lt0, lc_gt0, lc_eq0, wl_wr, wr_wr, wl_id, true_and, and_true, true_or, or_true, not_true_eq_false, not_false_eq_true, nc0, nc1, nc2, nc3, nc4, nc5, nc6, nc7, nc8, nc9, nc10, nc11, nc12, nc13, nc14, nc15, nc16, nc17, nc18, nc19, nc20, nc21, nc22, nc23, nc35, nc47, nc59, nc60, nc61, nc73, nc74, nc214, nc215, nc1115, nc2230, nc3345, if_true, if_false, Int.reduceToNat, hc1.k9, k3, e4]
theorem c_unit {d w : Nat} {T : Int → Int} {n dp : Int} {FN FT FS : Int → RL} (hd : 0 ≤ dp ∧ dp ≤ 6) (hN : dp < 6 → cPt (d + 4) w T n 2 (dp + 1) FN) (hT : dp < 6 → cPt (d + 4) w T n 0 (dp + 1) FT) (hS : cPt (d + 4) w T n 3 dp FS) (hokN : ∀ a, a ≤ n → okL n a (FN a)) (hokT : ∀ a, a ≤ n → okL n a (FT a)) (hokS : ∀ a, a ≤ n → okL n a (FS a)) {a : Int} {h : Hp} {l : List Int} (m : CP h w T n a l) (s1 : l.length ≤ a) : ∃ h', cal (d+5) m_Law_readUnit [.inr (.inr (11)), .inr (.inr (9)), .inl (dp)] (h) = some (.inl 0, h') ∧ crL h' w T n l (unP T n FN FT FS dp a) ∧ Fr pLw h h' := by
  have hc := m.1.1
  have rg := m.rng
  have kd := tkK_ok T n a
  obtain ⟨k3, kr⟩ := m.k
  have nr := nx_rng (T := T) (n := n) (a := a) (by omega)
  have k141 := kc_iff (c := 141) kd (b := 13) (by unfold kdO; omega) rfl
  have k91 := kc_iff (c := 91) kd (b := 32) (by unfold kdO; omega) rfl
  unfold unP
  by_cases c13 : tkK T n a = 13
  · rw [if_pos c13]
    have kk := k141.mpr c13
    obtain ⟨h1, e1, r1, f1⟩ := c_mayEnter (d := d + 2) m (by omega) hd
    by_cases c6 : dp = 6
    · rw [if_pos c6] at e1 r1 ⊢
      refine ⟨h1, ?_, r1, f1⟩
      show EX (d+4) m_Law_readUnit 0 [(0, .inr (.inr (11))), (1, .inr (.inr (9))), (2, .inl (dp))] [] (h) = _
      simp (disch := omega) only [Law_readUnit_0, Law_readUnit_10, Law_readUnit_15, Law_readUnit_38, wr_id, ix_id, okx, if_pos, if_neg, Int.toNat_of_nonneg, bak_v, bak_n, wr_b01, wr_bt, b01_or, b01_0, b01_1, lc_lt0, lc_gt0, lc_eq0, wl_wr, wr_wr, wl_id, true_and, and_true, true_or, or_true, not_true_eq_false, not_false_eq_true, nc0, nc1, nc2, nc3, nc4, nc5, nc6, nc7, nc8, nc9, nc10, nc11, nc12, nc13, nc14, nc15, nc16, nc17, nc18, nc19, nc20, nc21, nc22, nc23, nc35, nc47, nc59, nc60, nc61, nc73, nc74, nc214, nc215, nc1115, nc2230, nc3345, if_true, if_false, Int.reduceToNat, hc.k9, hc.k11, k3, e1]
    · rw [if_neg c6] at e1 r1 ⊢
      subst r1
      have la : a < n := tkK_22 (T := T) (by omega)
      have := nr.2.2 la
      obtain ⟨h2, e2, m2, f2⟩ := c_stepP (d := d + 1) m
      have g2 := f2.mo (fun a k z => pCk.lw (a := a) (k := k) z)
      have hc2 := m2.1.1
      obtain ⟨h3, e3, r3, f3⟩ := hN (by omega) (nx T n a) h2 l m2 (by omega)
      have hc3 := hc2.fr f3
      have st : ∀ h4, cal (d + 4) m_Law_emit [.inr (.inr 11), .inl 141] h3 = some (.inl 0, h4) → cal (d+5) m_Law_readUnit [.inr (.inr (11)), .inr (.inr (9)), .inl (dp)] (h1) = some (.inl 0, h4) := fun h4 e4 => by
        show EX (d+4) m_Law_readUnit 0 [(0, .inr (.inr (11))), (1, .inr (.inr (9))), (2, .inl (dp))] [] (h1) = _
        simp (disch := omega) only [Law_readUnit_0, Law_readUnit_10, Law_readUnit_15, Law_readUnit_18, Law_readUnit_22, Law_readUnit_31, Law_readUnit_38, wr_id, ix_id, okx, if_pos, if_neg, Int.toNat_of_nonneg, bak_v, bak_n, wr_b01, wr_bt, b01_or, b01_0, b01_1, lc_lt0, lc_gt0, lc_eq0, wl_wr, wr_wr, wl_id, true_and, and_true, true_or, or_true, not_true_eq_false, not_false_eq_true, nc0, nc1, nc2, nc3, nc4, nc5, nc6, nc7, nc8, nc9, nc10, nc11, nc12, nc13, nc14, nc15, nc16, nc17, nc18, nc19, nc20, nc21, nc22, nc23, nc35, nc47, nc59, nc60, nc61, nc73, nc74, nc214, nc215, nc1115, nc2230, nc3345, if_true, if_false, Int.reduceToNat, hc.k9, hc.k11, hc2.k11, hc3.k11, k3, e1, e2, e3, e4]
      cases hq : FN (nx T n a) with
      | inl e =>
        rw [hq] at r3
        have r3' : CF h3 w T n e := r3
        obtain ⟨h4, e4, m4, f4⟩ := c_emitF (d := d + 3) r3' 141
        exact ⟨h4, st h4 e4, m4, (g2.tr f3).tr f4⟩
      | inr q =>
        rw [hq] at r3
        have r3' : CP h3 w T n q.1 (l ++ q.2) := r3
        have ok := hokN (nx T n a) nr.2.1 q hq
        obtain ⟨h4, e4, m4, f4⟩ := c_emit (d := d + 3) (c := 3008) r3' (by simp only [List.length_append]; omega) (v := 141) rfl
        rw [List.append_assoc] at m4
        exact ⟨h4, st h4 e4, m4, (g2.tr f3).tr f4⟩
  rw [if_neg c13]
  have n141 : ¬ kc (tkK T n a) = 141 := fun z => c13 (k141.mp z)
  by_cases c32 : tkK T n a = 32
  · rw [if_pos c32]
    have kk := k91.mpr c32
    obtain ⟨h1, e1, r1, f1⟩ := c_mayEnter (d := d + 2) m (by omega) hd
    by_cases c6 : dp = 6
    · rw [if_pos c6] at e1 r1 ⊢
      refine ⟨h1, ?_, r1, f1⟩
      show EX (d+4) m_Law_readUnit 0 [(0, .inr (.inr (11))), (1, .inr (.inr (9))), (2, .inl (dp))] [] (h) = _
      simp (disch := omega) only [Law_readUnit_0, Law_readUnit_39, Law_readUnit_48, Law_readUnit_53, Law_readUnit_89, wr_id, ix_id, okx, if_pos, if_neg, Int.toNat_of_nonneg, bak_v, bak_n, wr_b01, wr_bt, b01_or, b01_0, b01_1, lc_lt0, lc_gt0, lc_eq0, wl_wr, wr_wr, wl_id, true_and, and_true, true_or, or_true, not_true_eq_false, not_false_eq_true, nc0, nc1, nc2, nc3, nc4, nc5, nc6, nc7, nc8, nc9, nc10, nc11, nc12, nc13, nc14, nc15, nc16, nc17, nc18, nc19, nc20, nc21, nc22, nc23, nc35, nc47, nc59, nc60, nc61, nc73, nc74, nc214, nc215, nc1115, nc2230, nc3345, if_true, if_false, Int.reduceToNat, hc.k9, hc.k11, k3, e1]
    · rw [if_neg c6] at e1 r1 ⊢
      subst r1
      have la : a < n := tkK_22 (T := T) (by omega)
      have := nr.2.2 la
      obtain ⟨h2, e2, m2, f2⟩ := c_stepP (d := d + 1) m
      have g2 := f2.mo (fun a k z => pCk.lw (a := a) (k := k) z)
      have hc2 := m2.1.1
      obtain ⟨h3, e3, r3, f3⟩ := hT (by omega) (nx T n a) h2 l m2 (by omega)
      have hc3 := hc2.fr f3
      have st : cal (d+5) m_Law_readUnit [.inr (.inr (11)), .inr (.inr (9)), .inl (dp)] (h1) = EX (d+4) m_Law_readUnit 69 [(1, .inr (.inr (9)))] [] (h3) := by
        show EX (d+4) m_Law_readUnit 0 [(0, .inr (.inr (11))), (1, .inr (.inr (9))), (2, .inl (dp))] [] (h1) = _
        simp (disch := omega) only [Law_readUnit_0, Law_readUnit_39, Law_readUnit_48, Law_readUnit_53, Law_readUnit_56, Law_readUnit_60, wr_id, ix_id, okx, if_pos, if_neg, Int.toNat_of_nonneg, bak_v, bak_n, wr_b01, wr_bt, b01_or, b01_0, b01_1, lc_lt0, lc_gt0, lc_eq0, wl_wr, wr_wr, wl_id, true_and, and_true, true_or, or_true, not_true_eq_false, not_false_eq_true, nc0, nc1, nc2, nc3, nc4, nc5, nc6, nc7, nc8, nc9, nc10, nc11, nc12, nc13, nc14, nc15, nc16, nc17, nc18, nc19, nc20, nc21, nc22, nc23, nc35, nc47, nc59, nc60, nc61, nc73, nc74, nc214, nc215, nc1115, nc2230, nc3345, if_true, if_false, Int.reduceToNat, hc.k9, hc.k11, hc2.k11, k3, e1, e2, e3]
      cases hq : FT (nx T n a) with
      | inl e =>
        rw [hq] at r3
        have r3' : CF h3 w T n e := r3
        by_cases q : wr (hI h3 9 3) = 93
        · obtain ⟨h4, e4, m4, f4⟩ := c_stepF (d := d + 1) r3'
          refine ⟨h4, ?_, m4, (g2.tr f3).tr (f4.mo (fun a k z => z.lw))⟩
          refine st.trans ?_
          rw [Law_readUnit_69, if_pos hc3.k9, if_pos q]
          simp (disch := omega) only [Law_readUnit_78, Law_readUnit_82, Law_readUnit_89, wr_id, ix_id, okx, if_pos, if_neg, Int.toNat_of_nonneg, bak_v, bak_n, wr_b01, wr_bt, b01_or, b01_0, b01_1, lc_lt0, lc_gt0, lc_eq0, wl_wr, wr_wr, wl_id, true_and, and_true, true_or, or_true, not_true_eq_false, not_false_eq_true, nc0, nc1, nc2, nc3, nc4, nc5, nc6, nc7, nc8, nc9, nc10, nc11, nc12, nc13, nc14, nc15, nc16, nc17, nc18, nc19, nc20, nc21, nc22, nc23, nc35, nc47, nc59, nc60, nc61, nc73, nc74, nc214, nc215, nc1115, nc2230, nc3345, if_true, if_false, Int.reduceToNat, hc3.k9, e4]
        · have e4 := c_refuseF (d := d + 2) r3'
          refine ⟨h3, ?_, r3', g2.tr f3⟩
          refine st.trans ?_
          rw [Law_readUnit_69, if_pos hc3.k9, if_neg q]
          simp (disch := omega) only [Law_readUnit_85, Law_readUnit_89, wr_id, ix_id, okx, if_pos, if_neg, Int.toNat_of_nonneg, bak_v, bak_n, wr_b01, wr_bt, b01_or, b01_0, b01_1, lc_lt0, lc_gt0, lc_eq0, wl_wr, wr_wr, wl_id, true_and, and_true, true_or, or_true, not_true_eq_false, not_false_eq_true, nc0, nc1, nc2, nc3, nc4, nc5, nc6, nc7, nc8, nc9, nc10, nc11, nc12, nc13, nc14, nc15, nc16, nc17, nc18, nc19, nc20, nc21, nc22, nc23, nc35, nc47, nc59, nc60, nc61, nc73, nc74, nc214, nc215, nc1115, nc2230, nc3345, if_true, if_false, Int.reduceToNat, hc3.k9, e4]
      | inr q =>
        rw [hq] at r3
        have r3' : CP h3 w T n q.1 (l ++ q.2) := r3
        have ok := hokT (nx T n a) nr.2.1 q hq
        dsimp only
        by_cases c33 : tkK T n q.1 = 33
        · rw [if_pos c33]
          obtain ⟨h4, e4, m4, f4⟩ := c_stepP (d := d + 1) r3'
          refine ⟨h4, ?_, m4, (g2.tr f3).tr (f4.mo (fun a k z => z.lw))⟩
          refine st.trans ?_
          have y3 := r3'.k.1
          rw [c33, show kc 33 = 93 from rfl] at y3
          simp (disch := omega) only [Law_readUnit_69, Law_readUnit_78, Law_readUnit_82, Law_readUnit_89, wr_id, ix_id, okx, if_pos, if_neg, Int.toNat_of_nonneg, bak_v, bak_n, wr_b01, wr_bt, b01_or, b01_0, b01_1, lc_lt0, lc_gt0, lc_eq0, wl_wr, wr_wr, wl_id, true_and, and_true, true_or, or_true, not_true_eq_false, not_false_eq_true, nc0, nc1, nc2, nc3, nc4, nc5, nc6, nc7, nc8, nc9, nc10, nc11, nc12, nc13, nc14, nc15, nc16, nc17, nc18, nc19, nc20, nc21, nc22, nc23, nc35, nc47, nc59, nc60, nc61, nc73, nc74, nc214, nc215, nc1115, nc2230, nc3345, if_true, if_false, Int.reduceToNat, hc3.k9, y3, e4]
        · rw [if_neg c33]
          obtain ⟨h4, e4, m4, f4⟩ := c_refuse (d := d + 2) r3' (by simp only [List.length_append]; omega)
          refine ⟨h4, ?_, m4, (g2.tr f3).tr f4⟩
          refine st.trans ?_
          obtain ⟨y3, y3r⟩ := r3'.k
          have y3n : ¬ kc (tkK T n q.1) = 93 := fun z => c33 ((kc_iff (tkK_ok T n q.1) (b := 33) (by unfold kdO; omega) rfl).mp z)
          simp (disch := omega) only [Law_readUnit_69, Law_readUnit_85, Law_readUnit_89, wr_id, ix_id, okx, if_pos, if_neg, Int.toNat_of_nonneg, bak_v, bak_n, wr_b01, wr_bt, b01_or, b01_0, b01_1, lc_lt0, lc_gt0, lc_eq0, wl_wr, wr_wr, wl_id, true_and, and_true, true_or, or_true, not_true_eq_false, not_false_eq_true, nc0, nc1, nc2, nc3, nc4, nc5, nc6, nc7, nc8, nc9, nc10, nc11, nc12, nc13, nc14, nc15, nc16, nc17, nc18, nc19, nc20, nc21, nc22, nc23, nc35, nc47, nc59, nc60, nc61, nc73, nc74, nc214, nc215, nc1115, nc2230, nc3345, if_true, if_false, Int.reduceToNat, hc3.k9, y3, e4]
  rw [if_neg c32]
  have n91 : ¬ kc (tkK T n a) = 91 := fun z => c32 (k91.mp z)
  obtain ⟨h1, e1, r1, f1⟩ := c_cmp (d := d) hd hS hokS m s1
  refine ⟨h1, ?_, r1, f1⟩
  show EX (d+4) m_Law_readUnit 0 [(0, .inr (.inr (11))), (1, .inr (.inr (9))), (2, .inl (dp))] [] (h) = _
  simp (disch := omega) only [Law_readUnit_0, Law_readUnit_39, wr_id, ix_id, okx, if_pos, if_neg, Int.toNat_of_nonneg, bak_v, bak_n, wr_b01, wr_bt, b01_or, b01_0, b01_1, lc_lt0, lc_gt0, lc_eq0, wl_wr, wr_wr, wl_id, true_and, and_true, true_or, or_true, not_true_eq_false, not_false_eq_true, nc0, nc1, nc2, nc3, nc4, nc5, nc6, nc7, nc8, nc9, nc10, nc11, nc12, nc13, nc14, nc15, nc16, nc17, nc18, nc19, nc20, nc21, nc22, nc23, nc35, nc47, nc59, nc60, nc61, nc73, nc74, nc214, nc215, nc1115, nc2230, nc3345, if_true, if_false, Int.reduceToNat, hc.k9, k3]
  exact e1
theorem c_law {w : Nat} {T : Int → Int} {n : Int} : ∀ (f d : Nat) (lv dp : Int), 0 ≤ lv → lv ≤ 5 → 0 ≤ dp → dp ≤ 6 → (6 - dp) * 6 + (6 - lv) ≤ f → cPt (d + 2 * f + 6) w T n lv dp (prt T n f lv dp) := by
  intro f
  induction f with
  | zero => intro d lv dp l0 l1 d0 d1 hb; omega
  | succ f ih =>
    intro d lv dp l0 l1 d0 d1 hb
    have hok : ∀ lv dp a, a ≤ n → okL n a (prt T n f lv dp a) := fun lv dp a ha => prt_ok f lv dp a ha
    rw [show d + 2 * (f + 1) + 6 = d + 2 * f + 8 by omega]
    intro a h l m s1
    have hc := m.1.1
    have es := c_sound (d := d + 2 * f + 6) m
    by_cases e2 : lv = 2
    · subst e2
      have ep : prt T n (f + 1) 2 dp = unP T n (prt T n f 2 (dp + 1)) (prt T n f 0 (dp + 1)) (prt T n f 3 dp) dp := by
        funext a
        simp only [prt, if_true]
      rw [ep]
      obtain ⟨h1, e1, r1, f1⟩ := c_unit (d := d + 2 * f + 2) ⟨d0, d1⟩ (fun c => ih d 2 (dp + 1) (by omega) (by omega) (by omega) (by omega) (by omega)) (fun c => ih d 0 (dp + 1) (by omega) (by omega) (by omega) (by omega) (by omega)) (ih d 3 dp (by omega) (by omega) d0 d1 (by omega)) (hok _ _) (hok _ _) (hok _ _) m s1
      refine ⟨h1, ?_, r1, f1⟩
      show EX (d+2*f+7) m_Law_readPart 0 [(0, .inr (.inr (11))), (1, .inr (.inr (9))), (2, .inl (2)), (3, .inl (dp))] [] (h) = _
      simp (disch := omega) only [Law_readPart_0, Law_readPart_6, Law_readPart_10, Law_readPart_14, Law_readPart_19, Law_readPart_25, wr_id, ix_id, okx, if_pos, if_neg, Int.toNat_of_nonneg, bak_v, bak_n, wr_b01, wr_bt, b01_or, b01_0, b01_1, lc_lt0, lc_gt0, lc_eq0, wl_wr, wr_wr, wl_id, true_and, and_true, true_or, or_true, not_true_eq_false, not_false_eq_true, nc0, nc1, nc2, nc3, nc4, nc5, nc6, nc7, nc8, nc9, nc10, nc11, nc12, nc13, nc14, nc15, nc16, nc17, nc18, nc19, nc20, nc21, nc22, nc23, nc35, nc47, nc59, nc60, nc61, nc73, nc74, nc214, nc215, nc1115, nc2230, nc3345, if_true, if_false, Int.reduceToNat, hc.k9, hc.k11, es, e1]
    · by_cases e5 : lv = 5
      · subst e5
        have ep : prt T n (f + 1) 5 dp = atP T n (prt T n f 3 (dp + 1)) dp := by
          funext a
          simp only [prt, if_true]
          rw [if_neg (show ¬ (5 : Int) = 2 by omega)]
        rw [ep]
        obtain ⟨h1, e1, r1, f1⟩ := c_atom (d := d + 2 * f + 2) ⟨d0, d1⟩ (fun c => ih d 3 (dp + 1) (by omega) (by omega) (by omega) (by omega) (by omega)) (hok _ _) m s1
        refine ⟨h1, ?_, r1, f1⟩
        show EX (d+2*f+7) m_Law_readPart 0 [(0, .inr (.inr (11))), (1, .inr (.inr (9))), (2, .inl (5)), (3, .inl (dp))] [] (h) = _
        simp (disch := omega) only [Law_readPart_0, Law_readPart_6, Law_readPart_10, Law_readPart_14, Law_readPart_26, Law_readPart_31, Law_readPart_37, wr_id, ix_id, okx, if_pos, if_neg, Int.toNat_of_nonneg, bak_v, bak_n, wr_b01, wr_bt, b01_or, b01_0, b01_1, lc_lt0, lc_gt0, lc_eq0, wl_wr, wr_wr, wl_id, true_and, and_true, true_or, or_true, not_true_eq_false, not_false_eq_true, nc0, nc1, nc2, nc3, nc4, nc5, nc6, nc7, nc8, nc9, nc10, nc11, nc12, nc13, nc14, nc15, nc16, nc17, nc18, nc19, nc20, nc21, nc22, nc23, nc35, nc47, nc59, nc60, nc61, nc73, nc74, nc214, nc215, nc1115, nc2230, nc3345, if_true, if_false, Int.reduceToNat, hc.k9, hc.k11, es, e1]
      · have cs : lv = 0 ∨ lv = 1 ∨ lv = 3 ∨ lv = 4 := by omega
        have i1 := ih (d + 1) (lv + 1) dp (by omega) (by omega) d0 d1 (by omega)
        rw [show d + 1 + 2 * f + 6 = d + 2 * f + 7 by omega] at i1
        obtain ⟨h1, e1, r1, f1⟩ := i1 a h l m s1
        have ep : prt T n (f + 1) lv dp a = (match prt T n f (lv + 1) dp a with | .inl e => .inl e | .inr q => prL T n (prt T n f (lv + 1) dp) lv 901 q.1 q.2) := by
          simp only [prt]
          rw [if_neg e2, if_neg e5]; rfl
        have st : cal (d+2*f+8) m_Law_readPart [.inr (.inr (11)), .inr (.inr (9)), .inl (lv), .inl (dp)] (h) = EX (d+2*f+7) m_Law_readPart 50 [(0, .inr (.inr (11))), (1, .inr (.inr (9))), (2, .inl (lv)), (3, .inl (dp)), (4, .inl (0))] [] (h1) := by
          show EX (d+2*f+7) m_Law_readPart 0 [(0, .inr (.inr (11))), (1, .inr (.inr (9))), (2, .inl (lv)), (3, .inl (dp))] [] (h) = _
          simp (disch := omega) only [Law_readPart_0, Law_readPart_6, Law_readPart_10, Law_readPart_14, Law_readPart_26, Law_readPart_38, Law_readPart_47, wr_id, ix_id, okx, if_pos, if_neg, Int.toNat_of_nonneg, bak_v, bak_n, wr_b01, wr_bt, b01_or, b01_0, b01_1, lc_lt0, lc_gt0, lc_eq0, wl_wr, wr_wr, wl_id, true_and, and_true, true_or, or_true, not_true_eq_false, not_false_eq_true, nc0, nc1, nc2, nc3, nc4, nc5, nc6, nc7, nc8, nc9, nc10, nc11, nc12, nc13, nc14, nc15, nc16, nc17, nc18, nc19, nc20, nc21, nc22, nc23, nc35, nc47, nc59, nc60, nc61, nc73, nc74, nc214, nc215, nc1115, nc2230, nc3345, if_true, if_false, Int.reduceToNat, hc.k9, hc.k11, es, e1]
        rw [ep]
        have rg := m.rng
        cases hq : prt T n f (lv + 1) dp a with
        | inl e =>
          rw [hq] at r1
          have r1' : CF h1 w T n e := r1
          have hc1 := r1'.1.1
          have e4 := c_soundF (d := d + 2 * f + 6) r1'
          refine ⟨h1, st.trans ?_, r1', f1⟩
          rw [Law_readPart_50]
          simp (disch := omega) only [Law_readPart_58, Law_readPart_62, Law_readPart_107, wr_id, ix_id, okx, if_pos, if_neg, Int.toNat_of_nonneg, bak_v, bak_n, wr_b01, wr_bt, b01_or, b01_0, b01_1, lc_lt0, lc_gt0, lc_eq0, wl_wr, wr_wr, wl_id, true_and, and_true, true_or, or_true, not_true_eq_false, not_false_eq_true, nc0, nc1, nc2, nc3, nc4, nc5, nc6, nc7, nc8, nc9, nc10, nc11, nc12, nc13, nc14, nc15, nc16, nc17, nc18, nc19, nc20, nc21, nc22, nc23, nc35, nc47, nc59, nc60, nc61, nc73, nc74, nc214, nc215, nc1115, nc2230, nc3345, if_true, if_false, Int.reduceToNat, hc1.k9, e4]
        | inr q =>
          rw [hq] at r1
          have r1' : CP h1 w T n q.1 (l ++ q.2) := r1
          have ok := hok (lv + 1) dp a rg.2.1 q hq
          obtain ⟨h2, e3, r2, f2⟩ := c_lp (d := d + 2 * f + 3) cs ⟨d0, d1⟩ i1 (hok _ _) 901 q.1 0 l q.2 h1 (by omega) r1' (by omega) (by omega) (by omega)
          exact ⟨h2, st.trans e3, r2, f1.tr f2⟩
