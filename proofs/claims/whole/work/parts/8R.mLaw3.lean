/-! the model reads a law: atoms, units, the whole -/
theorem m_atom {d : Nat} {T : Int → Int} {n dp : Int} {F : Int → RL} (hd : 0 ≤ dp ∧ dp ≤ 6) (hF : dp < 6 → mCt (d + 4) m_Mod_readSum T n (dp + 1) F) (hok : ∀ a, a ≤ n → okL n a (F a)) : mCt (d + 5) m_Mod_readAtom T n dp (atP T n F dp) := by
  intro a h S m s0 s1
  have hm := m.1.1
  have rg := m.rng
  have nr := nx_rng (T := T) (n := n) (a := a) (by omega)
  have kr := tkK_ok T n a
  unfold kdO at kr
  have k9 := m.2.1.2.2.1
  have h11 := m.2.2.1
  have i21 := m_is (d := d + 3) m (k := 21) (by omega)
  unfold atP
  by_cases c1 : tkK T n a = 21
  · rw [if_pos c1]
    have la : a < n := tkK_22 (T := T) (by omega)
    have b1 : b01 (tkK T n a = 21) = 1 := by unfold b01; rw [if_pos c1]
    rw [b1] at i21
    have k10 := m.2.1.2.2.2 c1
    obtain ⟨h1, e1, m1, f1⟩ := m_codes (d := d + 3) m (by omega) (tkN T n a)
    have hm1 := m1.1.1
    obtain ⟨h2, e2, m2, f2⟩ := m_nextP (d := d + 2) m1
    refine ⟨h2, ?_, m2, f1.tr f2⟩
    show EX (d+4) m_Mod_readAtom 0 [(0, .inr (.inr (72))), (1, .inl (dp))] [] (h) = _
    simp (disch := omega) only [Mod_readAtom_0, Mod_readAtom_6, Mod_readAtom_9, Mod_readAtom_17, Mod_readAtom_21, Mod_readAtom_153, wr_id, ix_id, okx, if_pos, if_neg, Int.toNat_of_nonneg, bak_v, bak_n, wr_b01, wr_bt, b01_or, b01_0, b01_1, lc_lt0, lc_gt0, lc_eq0, wl_wr, wr_wr, wl_id, true_and, and_true, true_or, or_true, not_true_eq_false, not_false_eq_true, nc0, nc1, nc2, nc3, nc4, nc5, nc6, nc7, nc8, nc9, nc10, nc11, nc12, nc13, nc14, nc15, nc16, nc17, nc18, nc19, nc20, nc21, nc22, nc23, nc35, nc47, nc59, nc60, nc61, nc73, nc74, nc214, nc215, nc1115, nc2230, nc3345, if_true, if_false, Int.reduceToNat, hm.k, hm1.k, i21, k10, e1, e2]
  rw [if_neg c1]
  have b1 : b01 (tkK T n a = 21) = 0 := by unfold b01; rw [if_neg c1]
  rw [b1] at i21
  by_cases c2 : tkK T n a = 2
  · rw [if_pos c2]
    have la : a < n := tkK_22 (T := T) (by omega)
    obtain ⟨h1, e1, m1, f1⟩ := m_eats (d := d + 1) m (k := 2) (by omega) c2
    have hm1 := m1.1.1
    obtain ⟨h2, e2, m2, f2⟩ := m_codes (d := d + 3) m1 (by omega) 1000
    refine ⟨h2, ?_, m2, f1.tr f2⟩
    show EX (d+4) m_Mod_readAtom 0 [(0, .inr (.inr (72))), (1, .inl (dp))] [] (h) = _
    simp (disch := omega) only [Mod_readAtom_0, Mod_readAtom_6, Mod_readAtom_24, Mod_readAtom_29, Mod_readAtom_32, Mod_readAtom_39, Mod_readAtom_153, wr_id, ix_id, okx, if_pos, if_neg, Int.toNat_of_nonneg, bak_v, bak_n, wr_b01, wr_bt, b01_or, b01_0, b01_1, lc_lt0, lc_gt0, lc_eq0, wl_wr, wr_wr, wl_id, true_and, and_true, true_or, or_true, not_true_eq_false, not_false_eq_true, nc0, nc1, nc2, nc3, nc4, nc5, nc6, nc7, nc8, nc9, nc10, nc11, nc12, nc13, nc14, nc15, nc16, nc17, nc18, nc19, nc20, nc21, nc22, nc23, nc35, nc47, nc59, nc60, nc61, nc73, nc74, nc214, nc215, nc1115, nc2230, nc3345, if_true, if_false, Int.reduceToNat, hm.k, hm1.k, i21, e1, e2]
  rw [if_neg c2]
  have n2 := m_eatsN (d := d + 1) m (k := 2) (by omega) c2
  by_cases c4 : tkK T n a = 4
  · rw [if_pos c4]
    have la : a < n := tkK_22 (T := T) (by omega)
    obtain ⟨h1, e1, m1, f1⟩ := m_eats (d := d + 1) m (k := 4) (by omega) c4
    have hm1 := m1.1.1
    obtain ⟨h2, e2, m2, f2⟩ := m_codes (d := d + 3) m1 (by omega) 1001
    refine ⟨h2, ?_, m2, f1.tr f2⟩
    show EX (d+4) m_Mod_readAtom 0 [(0, .inr (.inr (72))), (1, .inl (dp))] [] (h) = _
    simp (disch := omega) only [Mod_readAtom_0, Mod_readAtom_6, Mod_readAtom_24, Mod_readAtom_29, Mod_readAtom_42, Mod_readAtom_47, Mod_readAtom_50, Mod_readAtom_57, Mod_readAtom_153, wr_id, ix_id, okx, if_pos, if_neg, Int.toNat_of_nonneg, bak_v, bak_n, wr_b01, wr_bt, b01_or, b01_0, b01_1, lc_lt0, lc_gt0, lc_eq0, wl_wr, wr_wr, wl_id, true_and, and_true, true_or, or_true, not_true_eq_false, not_false_eq_true, nc0, nc1, nc2, nc3, nc4, nc5, nc6, nc7, nc8, nc9, nc10, nc11, nc12, nc13, nc14, nc15, nc16, nc17, nc18, nc19, nc20, nc21, nc22, nc23, nc35, nc47, nc59, nc60, nc61, nc73, nc74, nc214, nc215, nc1115, nc2230, nc3345, if_true, if_false, Int.reduceToNat, hm.k, hm1.k, i21, n2, e1, e2]
  rw [if_neg c4]
  have n4 := m_eatsN (d := d + 1) m (k := 4) (by omega) c4
  by_cases c14 : 14 ≤ tkK T n a ∧ tkK T n a ≤ 17
  · rw [if_pos c14]
    have la : a < n := tkK_22 (T := T) (by omega)
    have b2 : b01 (14 ≤ tkK T n a ∧ tkK T n a ≤ 17) = 1 := by unfold b01; rw [if_pos c14]
    obtain ⟨h1, e1, m1, f1⟩ := m_codes (d := d + 3) m (by omega) (1002 + tkK T n a - 14)
    have hm1 := m1.1.1
    obtain ⟨h2, e2, m2, f2⟩ := m_nextP (d := d + 2) m1
    refine ⟨h2, ?_, m2, f1.tr f2⟩
    show EX (d+4) m_Mod_readAtom 0 [(0, .inr (.inr (72))), (1, .inl (dp))] [] (h) = _
    simp (disch := omega) only [Mod_readAtom_0, Mod_readAtom_6, Mod_readAtom_24, Mod_readAtom_29, Mod_readAtom_42, Mod_readAtom_47, Mod_readAtom_60, Mod_readAtom_67, Mod_readAtom_81, Mod_readAtom_84, Mod_readAtom_99, Mod_readAtom_103, Mod_readAtom_153, wr_id, ix_id, okx, if_pos, if_neg, Int.toNat_of_nonneg, bak_v, bak_n, wr_b01, wr_bt, b01_or, b01_0, b01_1, lc_lt0, lc_gt0, lc_eq0, wl_wr, wr_wr, wl_id, true_and, and_true, true_or, or_true, not_true_eq_false, not_false_eq_true, nc0, nc1, nc2, nc3, nc4, nc5, nc6, nc7, nc8, nc9, nc10, nc11, nc12, nc13, nc14, nc15, nc16, nc17, nc18, nc19, nc20, nc21, nc22, nc23, nc35, nc47, nc59, nc60, nc61, nc73, nc74, nc214, nc215, nc1115, nc2230, nc3345, if_true, if_false, Int.reduceToNat, hm.k, hm1.k, i21, n2, n4, h11, k9, m_within, b2, e1, e2]
  rw [if_neg c14]
  have b2 : b01 (14 ≤ tkK T n a ∧ tkK T n a ≤ 17) = 0 := by unfold b01; rw [if_neg c14]
  have i30 := m_is (d := d + 3) m (k := 30) (by omega)
  have st : cal (d+5) m_Mod_readAtom [.inr (.inr (72)), .inl (dp)] (h) = EX (d+4) m_Mod_readAtom 112 [(0, .inr (.inr (72))), (1, .inl (dp))] [.inl (b01 (tkK T n a = 30))] (h) := by
    show EX (d+4) m_Mod_readAtom 0 [(0, .inr (.inr (72))), (1, .inl (dp))] [] (h) = _
    simp (disch := omega) only [Mod_readAtom_0, Mod_readAtom_6, Mod_readAtom_24, Mod_readAtom_29, Mod_readAtom_42, Mod_readAtom_47, Mod_readAtom_60, Mod_readAtom_67, Mod_readAtom_81, Mod_readAtom_106, wr_id, ix_id, okx, if_pos, if_neg, Int.toNat_of_nonneg, bak_v, bak_n, wr_b01, wr_bt, b01_or, b01_0, b01_1, lc_lt0, lc_gt0, lc_eq0, wl_wr, wr_wr, wl_id, true_and, and_true, true_or, or_true, not_true_eq_false, not_false_eq_true, nc0, nc1, nc2, nc3, nc4, nc5, nc6, nc7, nc8, nc9, nc10, nc11, nc12, nc13, nc14, nc15, nc16, nc17, nc18, nc19, nc20, nc21, nc22, nc23, nc35, nc47, nc59, nc60, nc61, nc73, nc74, nc214, nc215, nc1115, nc2230, nc3345, if_true, if_false, Int.reduceToNat, hm.k, i21, n2, n4, h11, k9, m_within, b2, i30]
  by_cases c30 : tkK T n a = 30
  · rw [if_pos c30]
    have b3 : b01 (tkK T n a = 30) = 1 := by unfold b01; rw [if_pos c30]
    rw [b3] at st
    by_cases c6 : dp = 6
    · rw [if_pos c6]
      subst c6
      obtain ⟨h1, e1, m1, f1⟩ := m_goesInN (d := d + 1) m (by omega)
      refine ⟨h1, ?_, m1, f1⟩
      refine st.trans ?_
      simp (disch := omega) only [Mod_readAtom_112, Mod_readAtom_115, Mod_readAtom_120, Mod_readAtom_123, wr_id, ix_id, okx, if_pos, if_neg, Int.toNat_of_nonneg, bak_v, bak_n, wr_b01, wr_bt, b01_or, b01_0, b01_1, lc_lt0, lc_gt0, lc_eq0, wl_wr, wr_wr, wl_id, true_and, and_true, true_or, or_true, not_true_eq_false, not_false_eq_true, nc0, nc1, nc2, nc3, nc4, nc5, nc6, nc7, nc8, nc9, nc10, nc11, nc12, nc13, nc14, nc15, nc16, nc17, nc18, nc19, nc20, nc21, nc22, nc23, nc35, nc47, nc59, nc60, nc61, nc73, nc74, nc214, nc215, nc1115, nc2230, nc3345, if_true, if_false, Int.reduceToNat, hm.k, e1]
    · rw [if_neg c6]
      have la : a < n := tkK_22 (T := T) (by omega)
      have := nr.2.2 la
      obtain ⟨h1, e1, m1, f1⟩ := m_goesIn (d := d + 1) m (dp := dp) (by omega)
      have hm1 := m1.1.1
      obtain ⟨h2, e2, r2, f2⟩ := hF (by omega) (nx T n a) h1 S m1 s0 (by omega)
      have hm2 := (m1.1.ps f2).1
      have st2 : cal (d+5) m_Mod_readAtom [.inr (.inr (72)), .inl (dp)] (h) = EX (d+4) m_Mod_readAtom 131 [(0, .inr (.inr (72)))] [] (h2) := by
        refine st.trans ?_
        simp (disch := omega) only [Mod_readAtom_112, Mod_readAtom_115, Mod_readAtom_120, Mod_readAtom_124, wr_id, ix_id, okx, if_pos, if_neg, Int.toNat_of_nonneg, bak_v, bak_n, wr_b01, wr_bt, b01_or, b01_0, b01_1, lc_lt0, lc_gt0, lc_eq0, wl_wr, wr_wr, wl_id, true_and, and_true, true_or, or_true, not_true_eq_false, not_false_eq_true, nc0, nc1, nc2, nc3, nc4, nc5, nc6, nc7, nc8, nc9, nc10, nc11, nc12, nc13, nc14, nc15, nc16, nc17, nc18, nc19, nc20, nc21, nc22, nc23, nc35, nc47, nc59, nc60, nc61, nc73, nc74, nc214, nc215, nc1115, nc2230, nc3345, if_true, if_false, Int.reduceToNat, hm.k, hm1.k, e1, e2]
      cases hq : F (nx T n a) with
      | inl e =>
        rw [hq] at r2
        have r2' : MF h2 e := r2
        have e3 := m_eatsF (d := d + 1) hm2 r2' 31
        have e4 := m_failsF (d := d + 3) hm2 r2' 2
        refine ⟨h2, ?_, r2', f1.tr f2⟩
        refine st2.trans ?_
        simp (disch := omega) only [Mod_readAtom_131, Mod_readAtom_137, Mod_readAtom_140, Mod_readAtom_145, Mod_readAtom_153, wr_id, ix_id, okx, if_pos, if_neg, Int.toNat_of_nonneg, bak_v, bak_n, wr_b01, wr_bt, b01_or, b01_0, b01_1, lc_lt0, lc_gt0, lc_eq0, wl_wr, wr_wr, wl_id, true_and, and_true, true_or, or_true, not_true_eq_false, not_false_eq_true, nc0, nc1, nc2, nc3, nc4, nc5, nc6, nc7, nc8, nc9, nc10, nc11, nc12, nc13, nc14, nc15, nc16, nc17, nc18, nc19, nc20, nc21, nc22, nc23, nc35, nc47, nc59, nc60, nc61, nc73, nc74, nc214, nc215, nc1115, nc2230, nc3345, if_true, if_false, Int.reduceToNat, hm2.k, e3, e4]
      | inr q =>
        rw [hq] at r2
        have r2' : MP h2 T n q.1 (appC S q.2) := r2
        dsimp only
        by_cases c31 : tkK T n q.1 = 31
        · rw [if_pos c31]
          obtain ⟨h3, e3, m3, f3⟩ := m_eats (d := d + 1) r2' (k := 31) (by omega) c31
          refine ⟨h3, ?_, m3, (f1.tr f2).tr f3⟩
          refine st2.trans ?_
          simp (disch := omega) only [Mod_readAtom_131, Mod_readAtom_137, Mod_readAtom_153, wr_id, ix_id, okx, if_pos, if_neg, Int.toNat_of_nonneg, bak_v, bak_n, wr_b01, wr_bt, b01_or, b01_0, b01_1, lc_lt0, lc_gt0, lc_eq0, wl_wr, wr_wr, wl_id, true_and, and_true, true_or, or_true, not_true_eq_false, not_false_eq_true, nc0, nc1, nc2, nc3, nc4, nc5, nc6, nc7, nc8, nc9, nc10, nc11, nc12, nc13, nc14, nc15, nc16, nc17, nc18, nc19, nc20, nc21, nc22, nc23, nc35, nc47, nc59, nc60, nc61, nc73, nc74, nc214, nc215, nc1115, nc2230, nc3345, if_true, if_false, Int.reduceToNat, hm2.k, e3]
        · rw [if_neg c31]
          have e3 := m_eatsN (d := d + 1) r2' (k := 31) (by omega) c31
          obtain ⟨h3, e4, m3, f3⟩ := m_fails (d := d + 3) r2' (f := 2) (by omega)
          refine ⟨h3, ?_, m3, (f1.tr f2).tr f3⟩
          refine st2.trans ?_
          simp (disch := omega) only [Mod_readAtom_131, Mod_readAtom_137, Mod_readAtom_140, Mod_readAtom_145, Mod_readAtom_153, wr_id, ix_id, okx, if_pos, if_neg, Int.toNat_of_nonneg, bak_v, bak_n, wr_b01, wr_bt, b01_or, b01_0, b01_1, lc_lt0, lc_gt0, lc_eq0, wl_wr, wr_wr, wl_id, true_and, and_true, true_or, or_true, not_true_eq_false, not_false_eq_true, nc0, nc1, nc2, nc3, nc4, nc5, nc6, nc7, nc8, nc9, nc10, nc11, nc12, nc13, nc14, nc15, nc16, nc17, nc18, nc19, nc20, nc21, nc22, nc23, nc35, nc47, nc59, nc60, nc61, nc73, nc74, nc214, nc215, nc1115, nc2230, nc3345, if_true, if_false, Int.reduceToNat, hm2.k, e3, e4]
  · rw [if_neg c30]
    have b3 : b01 (tkK T n a = 30) = 0 := by unfold b01; rw [if_neg c30]
    rw [b3] at st
    obtain ⟨h3, e4, m3, f3⟩ := m_fails (d := d + 3) m (f := 2) (by omega)
    refine ⟨h3, ?_, m3, f3⟩
    refine st.trans ?_
    simp (disch := omega) only [Mod_readAtom_112, Mod_readAtom_148, Mod_readAtom_153, wr_id, ix_id, okx, if_pos, if_neg, Int.toNat_of_nonneg, bak_v, bak_n, wr_b01, wr_bt, b01_or, b01_0, b01_1, lc_lt0, lc_gt0, lc_eq0, wl_wr, wr_wr, wl_id, true_and, and_true, true_or, or_true, not_true_eq_false, not_false_eq_true, nc0, nc1, nc2, nc3, nc4, nc5, nc6, nc7, nc8, nc9, nc10, nc11, nc12, nc13, nc14, nc15, nc16, nc17, nc18, nc19, nc20, nc21, nc22, nc23, nc35, nc47, nc59, nc60, nc61, nc73, nc74, nc214, nc215, nc1115, nc2230, nc3345, if_true, if_false, Int.reduceToNat, hm.k, e4]
theorem m_cmp {d : Nat} {T : Int → Int} {n dp : Int} {F : Int → RL} (hF : mCt (d + 4) m_Mod_readSum T n dp F) (hok : ∀ a, a ≤ n → okL n a (F a)) (hfr : ∀ (h : Hp) (e : Int × Int), MR h → MF h e → cal (d+4) m_Mod_readSum [.inr (.inr (72)), .inl (dp)] (h) = some (.inl 0, h)) {a : Int} {h : Hp} {S : Int → Int} (m : MP h T n a S) (s0 : 0 ≤ S 214) (s1 : S 214 ≤ a) : ∃ h', EX (d+4) m_Mod_readUnit 73 [(0, .inr (.inr (72))), (1, .inl (dp))] [] (h) = some (.inl 0, h') ∧ mrL h' T n S (cmP T n F a) ∧ Fr pPs h h' := by
  have hm := m.1.1
  have rg := m.rng
  obtain ⟨h1, e1, r1, f1⟩ := hF a h S m s0 s1
  have hm1 := (m.1.ps f1).1
  have st : EX (d+4) m_Mod_readUnit 73 [(0, .inr (.inr (72))), (1, .inl (dp))] [] (h) = EX (d+4) m_Mod_readUnit 78 [(0, .inr (.inr (72))), (1, .inl (dp))] [] (h1) := by
    simp (disch := omega) only [Mod_readUnit_73, wr_id, ix_id, okx, if_pos, if_neg, Int.toNat_of_nonneg, bak_v, bak_n, wr_b01, wr_bt, b01_or, b01_0, b01_1, lc_lt0, lc_gt0, lc_eq0, wl_wr, wr_wr, wl_id, true_and, and_true, true_or, or_true, not_true_eq_false, not_false_eq_true, nc0, nc1, nc2, nc3, nc4, nc5, nc6, nc7, nc8, nc9, nc10, nc11, nc12, nc13, nc14, nc15, nc16, nc17, nc18, nc19, nc20, nc21, nc22, nc23, nc35, nc47, nc59, nc60, nc61, nc73, nc74, nc214, nc215, nc1115, nc2230, nc3345, if_true, if_false, Int.reduceToNat, hm.k, e1]
  unfold cmP
  cases hq : F a with
  | inl e =>
    rw [hq] at r1
    have r1' : MF h1 e := r1
    have i34 := m_isF (d := d + 3) hm1 r1' 34
    have i35 := m_isF (d := d + 3) hm1 r1' 35
    have i36 := m_isF (d := d + 3) hm1 r1' 36
    have e5 := m_failsF (d := d + 3) hm1 r1' 2
    have e6 := m_codesF (d := d + 3) hm1 r1' 3005
    have e7 := hfr h1 e hm1 r1'
    refine ⟨h1, ?_, r1', f1⟩
    refine st.trans ?_
    simp (disch := omega) only [Mod_readUnit_78, Mod_readUnit_84, Mod_readUnit_93, Mod_readUnit_99, Mod_readUnit_108, Mod_readUnit_111, Mod_readUnit_118, Mod_readUnit_121, Mod_readUnit_127, Mod_readUnit_130, Mod_readUnit_136, Mod_readUnit_146, Mod_readUnit_151, Mod_readUnit_156, Mod_readUnit_161, wr_id, ix_id, okx, if_pos, if_neg, Int.toNat_of_nonneg, bak_v, bak_n, wr_b01, wr_bt, b01_or, b01_0, b01_1, lc_lt0, lc_gt0, lc_eq0, wl_wr, wr_wr, wl_id, true_and, and_true, true_or, or_true, not_true_eq_false, not_false_eq_true, nc0, nc1, nc2, nc3, nc4, nc5, nc6, nc7, nc8, nc9, nc10, nc11, nc12, nc13, nc14, nc15, nc16, nc17, nc18, nc19, nc20, nc21, nc22, nc23, nc35, nc47, nc59, nc60, nc61, nc73, nc74, nc214, nc215, nc1115, nc2230, nc3345, if_true, if_false, Int.reduceToNat, hm1.k, i34, i35, i36, e5, e6, e7]
  | inr q =>
    rw [hq] at r1
    have r1' : MP h1 T n q.1 (appC S q.2) := r1
    have ok := hok a rg.2.1 q hq
    have nr := nx_rng (T := T) (n := n) (a := q.1) ok.2
    have i34 := m_is (d := d + 3) r1' (k := 34) (by omega)
    have i35 := m_is (d := d + 3) r1' (k := 35) (by omega)
    have i36 := m_is (d := d + 3) r1' (k := 36) (by omega)
    dsimp only
    by_cases c : 34 ≤ tkK T n q.1 ∧ tkK T n q.1 ≤ 36
    · rw [if_pos c]
      have la : q.1 < n := tkK_22 (T := T) (by omega)
      have := nr.2.2 la
      obtain ⟨h2, e2, m2, f2⟩ := m_nextP (d := d + 2) r1'
      have hm2 := m2.1.1
      obtain ⟨h3, e3, r3, f3⟩ := hF (nx T n q.1) h2 (appC S q.2) m2 (by rw [appC_214]; omega) (by rw [appC_214]; omega)
      have hm3 := (m2.1.ps f3).1
      have st2 : ∀ h4, cal (d + 4) m_Mod_codes [.inr (.inr 72), .inl (cmC (tkK T n q.1))] h3 = some (.inl 0, h4) → EX (d+4) m_Mod_readUnit 78 [(0, .inr (.inr (72))), (1, .inl (dp))] [] (h1) = some (.inl 0, h4) := fun h4 e4 => by
        unfold cmC at e4
        by_cases c34 : tkK T n q.1 = 34
        · rw [if_pos c34] at e4
          have b1 : b01 (tkK T n q.1 = 34) = 1 := by unfold b01; rw [if_pos c34]
          rw [b1] at i34
          simp (disch := omega) only [Mod_readUnit_78, Mod_readUnit_84, Mod_readUnit_87, Mod_readUnit_111, Mod_readUnit_118, Mod_readUnit_139, Mod_readUnit_143, Mod_readUnit_151, Mod_readUnit_156, Mod_readUnit_161, wr_id, ix_id, okx, if_pos, if_neg, Int.toNat_of_nonneg, bak_v, bak_n, wr_b01, wr_bt, b01_or, b01_0, b01_1, lc_lt0, lc_gt0, lc_eq0, wl_wr, wr_wr, wl_id, true_and, and_true, true_or, or_true, not_true_eq_false, not_false_eq_true, nc0, nc1, nc2, nc3, nc4, nc5, nc6, nc7, nc8, nc9, nc10, nc11, nc12, nc13, nc14, nc15, nc16, nc17, nc18, nc19, nc20, nc21, nc22, nc23, nc35, nc47, nc59, nc60, nc61, nc73, nc74, nc214, nc215, nc1115, nc2230, nc3345, if_true, if_false, Int.reduceToNat, hm1.k, hm2.k, hm3.k, i34, e2, e3, e4]
        · rw [if_neg c34] at e4
          have b1 : b01 (tkK T n q.1 = 34) = 0 := by unfold b01; rw [if_neg c34]
          rw [b1] at i34
          by_cases c35 : tkK T n q.1 = 35
          · rw [if_pos c35] at e4
            have b2 : b01 (tkK T n q.1 = 35) = 1 := by unfold b01; rw [if_pos c35]
            rw [b2] at i35
            simp (disch := omega) only [Mod_readUnit_78, Mod_readUnit_84, Mod_readUnit_93, Mod_readUnit_99, Mod_readUnit_102, Mod_readUnit_111, Mod_readUnit_118, Mod_readUnit_121, Mod_readUnit_127, Mod_readUnit_139, Mod_readUnit_143, Mod_readUnit_151, Mod_readUnit_156, Mod_readUnit_161, wr_id, ix_id, okx, if_pos, if_neg, Int.toNat_of_nonneg, bak_v, bak_n, wr_b01, wr_bt, b01_or, b01_0, b01_1, lc_lt0, lc_gt0, lc_eq0, wl_wr, wr_wr, wl_id, true_and, and_true, true_or, or_true, not_true_eq_false, not_false_eq_true, nc0, nc1, nc2, nc3, nc4, nc5, nc6, nc7, nc8, nc9, nc10, nc11, nc12, nc13, nc14, nc15, nc16, nc17, nc18, nc19, nc20, nc21, nc22, nc23, nc35, nc47, nc59, nc60, nc61, nc73, nc74, nc214, nc215, nc1115, nc2230, nc3345, if_true, if_false, Int.reduceToNat, hm1.k, hm2.k, hm3.k, i34, i35, e2, e3, e4]
          · rw [if_neg c35] at e4
            have b2 : b01 (tkK T n q.1 = 35) = 0 := by unfold b01; rw [if_neg c35]
            have b3 : b01 (tkK T n q.1 = 36) = 1 := by unfold b01; rw [if_pos (by omega)]
            rw [b2] at i35
            rw [b3] at i36
            simp (disch := omega) only [Mod_readUnit_78, Mod_readUnit_84, Mod_readUnit_93, Mod_readUnit_99, Mod_readUnit_108, Mod_readUnit_111, Mod_readUnit_118, Mod_readUnit_121, Mod_readUnit_127, Mod_readUnit_130, Mod_readUnit_136, Mod_readUnit_139, Mod_readUnit_143, Mod_readUnit_151, Mod_readUnit_156, Mod_readUnit_161, wr_id, ix_id, okx, if_pos, if_neg, Int.toNat_of_nonneg, bak_v, bak_n, wr_b01, wr_bt, b01_or, b01_0, b01_1, lc_lt0, lc_gt0, lc_eq0, wl_wr, wr_wr, wl_id, true_and, and_true, true_or, or_true, not_true_eq_false, not_false_eq_true, nc0, nc1, nc2, nc3, nc4, nc5, nc6, nc7, nc8, nc9, nc10, nc11, nc12, nc13, nc14, nc15, nc16, nc17, nc18, nc19, nc20, nc21, nc22, nc23, nc35, nc47, nc59, nc60, nc61, nc73, nc74, nc214, nc215, nc1115, nc2230, nc3345, if_true, if_false, Int.reduceToNat, hm1.k, hm2.k, hm3.k, i34, i35, i36, e2, e3, e4]
      cases hp : F (nx T n q.1) with
      | inl e =>
        rw [hp] at r3
        have r3' : MF h3 e := r3
        exact ⟨h3, st.trans (st2 h3 (m_codesF (d := d + 3) hm3 r3' _)), r3', (f1.tr f2).tr f3⟩
      | inr p =>
        rw [hp] at r3
        have r3' : MP h3 T n p.1 (appC (appC S q.2) p.2) := r3
        have ok2 := hok (nx T n q.1) nr.2.1 p hp
        have c214 : appC (appC S q.2) p.2 214 = S 214 + q.2.length + p.2.length := by rw [appC_214, appC_214]
        obtain ⟨h4, e4, m4, f4⟩ := m_codes (d := d + 3) r3' (by rw [c214]; omega) (cmC (tkK T n q.1))
        have ea : emC (appC (appC S q.2) p.2) (cmC (tkK T n q.1)) = appC S (q.2 ++ (p.2 ++ [cmC (tkK T n q.1)])) := by rw [appC_app, appC_app]; rfl
        rw [ea] at m4
        exact ⟨h4, st.trans (st2 h4 e4), m4, ((f1.tr f2).tr f3).tr f4⟩
    · rw [if_neg c]
      have b1 : b01 (tkK T n q.1 = 34) = 0 := by unfold b01; rw [if_neg (by omega)]
      have b2 : b01 (tkK T n q.1 = 35) = 0 := by unfold b01; rw [if_neg (by omega)]
      have b3 : b01 (tkK T n q.1 = 36) = 0 := by unfold b01; rw [if_neg (by omega)]
      rw [b1] at i34
      rw [b2] at i35
      rw [b3] at i36
      obtain ⟨h3, e4, m3, f3⟩ := m_fails (d := d + 3) r1' (f := 2) (by omega)
      have hm3 := (r1'.1.ps f3).1
      have e6 := m_codesF (d := d + 3) hm3 m3 3005
      have e7 := hfr h3 _ hm3 m3
      refine ⟨h3, ?_, m3, f1.tr f3⟩
      refine st.trans ?_
      simp (disch := omega) only [Mod_readUnit_78, Mod_readUnit_84, Mod_readUnit_93, Mod_readUnit_99, Mod_readUnit_108, Mod_readUnit_111, Mod_readUnit_118, Mod_readUnit_121, Mod_readUnit_127, Mod_readUnit_130, Mod_readUnit_136, Mod_readUnit_146, Mod_readUnit_151, Mod_readUnit_156, Mod_readUnit_161, wr_id, ix_id, okx, if_pos, if_neg, Int.toNat_of_nonneg, bak_v, bak_n, wr_b01, wr_bt, b01_or, b01_0, b01_1, lc_lt0, lc_gt0, lc_eq0, wl_wr, wr_wr, wl_id, true_and, and_true, true_or, or_true, not_true_eq_false, not_false_eq_true, nc0, nc1, nc2, nc3, nc4, nc5, nc6, nc7, nc8, nc9, nc10, nc11, nc12, nc13, nc14, nc15, nc16, nc17, nc18, nc19, nc20, nc21, nc22, nc23, nc35, nc47, nc59, nc60, nc61, nc73, nc74, nc214, nc215, nc1115, nc2230, nc3345, if_true, if_false, Int.reduceToNat, hm1.k, hm3.k, i34, i35, i36, e4, e6, e7]
theorem m_unit {d : Nat} {T : Int → Int} {n dp : Int} {FN FT FS : Int → RL} (hd : 0 ≤ dp ∧ dp ≤ 6) (hN : dp < 6 → mCt (d + 4) m_Mod_readUnit T n (dp + 1) FN) (hT : dp < 6 → mCt (d + 4) m_Mod_readTruth T n (dp + 1) FT) (hS : mCt (d + 4) m_Mod_readSum T n dp FS) (hokN : ∀ a, a ≤ n → okL n a (FN a)) (hokT : ∀ a, a ≤ n → okL n a (FT a)) (hokS : ∀ a, a ≤ n → okL n a (FS a)) (hfr : ∀ (h : Hp) (e : Int × Int), MR h → MF h e → cal (d+4) m_Mod_readSum [.inr (.inr (72)), .inl (dp)] (h) = some (.inl 0, h)) : mCt (d + 5) m_Mod_readUnit T n dp (unP T n FN FT FS dp) := by
  intro a h S m s0 s1
  have hm := m.1.1
  have rg := m.rng
  have nr := nx_rng (T := T) (n := n) (a := a) (by omega)
  have i13 := m_is (d := d + 3) m (k := 13) (by omega)
  have i32 := m_is (d := d + 3) m (k := 32) (by omega)
  unfold unP
  by_cases c13 : tkK T n a = 13
  · rw [if_pos c13]
    have b1 : b01 (tkK T n a = 13) = 1 := by unfold b01; rw [if_pos c13]
    rw [b1] at i13
    by_cases c6 : dp = 6
    · rw [if_pos c6]
      subst c6
      obtain ⟨h1, e1, m1, f1⟩ := m_goesInN (d := d + 1) m (by omega)
      refine ⟨h1, ?_, m1, f1⟩
      show EX (d+4) m_Mod_readUnit 0 [(0, .inr (.inr (72))), (1, .inl (6))] [] (h) = _
      simp (disch := omega) only [Mod_readUnit_0, Mod_readUnit_6, Mod_readUnit_9, Mod_readUnit_14, Mod_readUnit_17, wr_id, ix_id, okx, if_pos, if_neg, Int.toNat_of_nonneg, bak_v, bak_n, wr_b01, wr_bt, b01_or, b01_0, b01_1, lc_lt0, lc_gt0, lc_eq0, wl_wr, wr_wr, wl_id, true_and, and_true, true_or, or_true, not_true_eq_false, not_false_eq_true, nc0, nc1, nc2, nc3, nc4, nc5, nc6, nc7, nc8, nc9, nc10, nc11, nc12, nc13, nc14, nc15, nc16, nc17, nc18, nc19, nc20, nc21, nc22, nc23, nc35, nc47, nc59, nc60, nc61, nc73, nc74, nc214, nc215, nc1115, nc2230, nc3345, if_true, if_false, Int.reduceToNat, hm.k, i13, e1]
    · rw [if_neg c6]
      have la : a < n := tkK_22 (T := T) (by omega)
      have := nr.2.2 la
      obtain ⟨h1, e1, m1, f1⟩ := m_goesIn (d := d + 1) m (dp := dp) (by omega)
      have hm1 := m1.1.1
      obtain ⟨h2, e2, r2, f2⟩ := hN (by omega) (nx T n a) h1 S m1 s0 (by omega)
      have hm2 := (m1.1.ps f2).1
      have st2 : ∀ h4, cal (d + 4) m_Mod_codes [.inr (.inr 72), .inl 3008] h2 = some (.inl 0, h4) → cal (d+5) m_Mod_readUnit [.inr (.inr (72)), .inl (dp)] (h) = some (.inl 0, h4) := fun h4 e4 => by
        show EX (d+4) m_Mod_readUnit 0 [(0, .inr (.inr (72))), (1, .inl (dp))] [] (h) = _
        simp (disch := omega) only [Mod_readUnit_0, Mod_readUnit_6, Mod_readUnit_9, Mod_readUnit_14, Mod_readUnit_18, Mod_readUnit_25, Mod_readUnit_32, wr_id, ix_id, okx, if_pos, if_neg, Int.toNat_of_nonneg, bak_v, bak_n, wr_b01, wr_bt, b01_or, b01_0, b01_1, lc_lt0, lc_gt0, lc_eq0, wl_wr, wr_wr, wl_id, true_and, and_true, true_or, or_true, not_true_eq_false, not_false_eq_true, nc0, nc1, nc2, nc3, nc4, nc5, nc6, nc7, nc8, nc9, nc10, nc11, nc12, nc13, nc14, nc15, nc16, nc17, nc18, nc19, nc20, nc21, nc22, nc23, nc35, nc47, nc59, nc60, nc61, nc73, nc74, nc214, nc215, nc1115, nc2230, nc3345, if_true, if_false, Int.reduceToNat, hm.k, hm1.k, hm2.k, i13, e1, e2, e4]
      cases hq : FN (nx T n a) with
      | inl e =>
        rw [hq] at r2
        have r2' : MF h2 e := r2
        exact ⟨h2, st2 h2 (m_codesF (d := d + 3) hm2 r2' _), r2', f1.tr f2⟩
      | inr q =>
        rw [hq] at r2
        have r2' : MP h2 T n q.1 (appC S q.2) := r2
        have ok2 := hokN (nx T n a) nr.2.1 q hq
        obtain ⟨h4, e4, m4, f4⟩ := m_codes (d := d + 3) r2' (by rw [appC_214]; omega) 3008
        have ea : emC (appC S q.2) 3008 = appC S (q.2 ++ [3008]) := by rw [appC_app]; rfl
        rw [ea] at m4
        exact ⟨h4, st2 h4 e4, m4, (f1.tr f2).tr f4⟩
  rw [if_neg c13]
  have b1 : b01 (tkK T n a = 13) = 0 := by unfold b01; rw [if_neg c13]
  rw [b1] at i13
  by_cases c32 : tkK T n a = 32
  · rw [if_pos c32]
    have b2 : b01 (tkK T n a = 32) = 1 := by unfold b01; rw [if_pos c32]
    rw [b2] at i32
    by_cases c6 : dp = 6
    · rw [if_pos c6]
      subst c6
      obtain ⟨h1, e1, m1, f1⟩ := m_goesInN (d := d + 1) m (by omega)
      refine ⟨h1, ?_, m1, f1⟩
      show EX (d+4) m_Mod_readUnit 0 [(0, .inr (.inr (72))), (1, .inl (6))] [] (h) = _
      simp (disch := omega) only [Mod_readUnit_0, Mod_readUnit_6, Mod_readUnit_33, Mod_readUnit_39, Mod_readUnit_42, Mod_readUnit_47, Mod_readUnit_50, wr_id, ix_id, okx, if_pos, if_neg, Int.toNat_of_nonneg, bak_v, bak_n, wr_b01, wr_bt, b01_or, b01_0, b01_1, lc_lt0, lc_gt0, lc_eq0, wl_wr, wr_wr, wl_id, true_and, and_true, true_or, or_true, not_true_eq_false, not_false_eq_true, nc0, nc1, nc2, nc3, nc4, nc5, nc6, nc7, nc8, nc9, nc10, nc11, nc12, nc13, nc14, nc15, nc16, nc17, nc18, nc19, nc20, nc21, nc22, nc23, nc35, nc47, nc59, nc60, nc61, nc73, nc74, nc214, nc215, nc1115, nc2230, nc3345, if_true, if_false, Int.reduceToNat, hm.k, i13, i32, e1]
    · rw [if_neg c6]
      have la : a < n := tkK_22 (T := T) (by omega)
      have := nr.2.2 la
      obtain ⟨h1, e1, m1, f1⟩ := m_goesIn (d := d + 1) m (dp := dp) (by omega)
      have hm1 := m1.1.1
      obtain ⟨h2, e2, r2, f2⟩ := hT (by omega) (nx T n a) h1 S m1 s0 (by omega)
      have hm2 := (m1.1.ps f2).1
      have st2 : cal (d+5) m_Mod_readUnit [.inr (.inr (72)), .inl (dp)] (h) = EX (d+4) m_Mod_readUnit 58 [(0, .inr (.inr (72)))] [] (h2) := by
        show EX (d+4) m_Mod_readUnit 0 [(0, .inr (.inr (72))), (1, .inl (dp))] [] (h) = _
        simp (disch := omega) only [Mod_readUnit_0, Mod_readUnit_6, Mod_readUnit_33, Mod_readUnit_39, Mod_readUnit_42, Mod_readUnit_47, Mod_readUnit_51, wr_id, ix_id, okx, if_pos, if_neg, Int.toNat_of_nonneg, bak_v, bak_n, wr_b01, wr_bt, b01_or, b01_0, b01_1, lc_lt0, lc_gt0, lc_eq0, wl_wr, wr_wr, wl_id, true_and, and_true, true_or, or_true, not_true_eq_false, not_false_eq_true, nc0, nc1, nc2, nc3, nc4, nc5, nc6, nc7, nc8, nc9, nc10, nc11, nc12, nc13, nc14, nc15, nc16, nc17, nc18, nc19, nc20, nc21, nc22, nc23, nc35, nc47, nc59, nc60, nc61, nc73, nc74, nc214, nc215, nc1115, nc2230, nc3345, if_true, if_false, Int.reduceToNat, hm.k, hm1.k, i13, i32, e1, e2]
      cases hq : FT (nx T n a) with
      | inl e =>
        rw [hq] at r2
        have r2' : MF h2 e := r2
        have e3 := m_eatsF (d := d + 1) hm2 r2' 33
        have e4 := m_failsF (d := d + 3) hm2 r2' 2
        refine ⟨h2, ?_, r2', f1.tr f2⟩
        refine st2.trans ?_
        simp (disch := omega) only [Mod_readUnit_58, Mod_readUnit_64, Mod_readUnit_67, Mod_readUnit_72, wr_id, ix_id, okx, if_pos, if_neg, Int.toNat_of_nonneg, bak_v, bak_n, wr_b01, wr_bt, b01_or, b01_0, b01_1, lc_lt0, lc_gt0, lc_eq0, wl_wr, wr_wr, wl_id, true_and, and_true, true_or, or_true, not_true_eq_false, not_false_eq_true, nc0, nc1, nc2, nc3, nc4, nc5, nc6, nc7, nc8, nc9, nc10, nc11, nc12, nc13, nc14, nc15, nc16, nc17, nc18, nc19, nc20, nc21, nc22, nc23, nc35, nc47, nc59, nc60, nc61, nc73, nc74, nc214, nc215, nc1115, nc2230, nc3345, if_true, if_false, Int.reduceToNat, hm2.k, e3, e4]
      | inr q =>
        rw [hq] at r2
        have r2' : MP h2 T n q.1 (appC S q.2) := r2
        dsimp only
        by_cases c33 : tkK T n q.1 = 33
        · rw [if_pos c33]
          obtain ⟨h3, e3, m3, f3⟩ := m_eats (d := d + 1) r2' (k := 33) (by omega) c33
          refine ⟨h3, ?_, m3, (f1.tr f2).tr f3⟩
          refine st2.trans ?_
          simp (disch := omega) only [Mod_readUnit_58, Mod_readUnit_64, Mod_readUnit_72, wr_id, ix_id, okx, if_pos, if_neg, Int.toNat_of_nonneg, bak_v, bak_n, wr_b01, wr_bt, b01_or, b01_0, b01_1, lc_lt0, lc_gt0, lc_eq0, wl_wr, wr_wr, wl_id, true_and, and_true, true_or, or_true, not_true_eq_false, not_false_eq_true, nc0, nc1, nc2, nc3, nc4, nc5, nc6, nc7, nc8, nc9, nc10, nc11, nc12, nc13, nc14, nc15, nc16, nc17, nc18, nc19, nc20, nc21, nc22, nc23, nc35, nc47, nc59, nc60, nc61, nc73, nc74, nc214, nc215, nc1115, nc2230, nc3345, if_true, if_false, Int.reduceToNat, hm2.k, e3]
        · rw [if_neg c33]
          have e3 := m_eatsN (d := d + 1) r2' (k := 33) (by omega) c33
          obtain ⟨h3, e4, m3, f3⟩ := m_fails (d := d + 3) r2' (f := 2) (by omega)
          refine ⟨h3, ?_, m3, (f1.tr f2).tr f3⟩
          refine st2.trans ?_
          simp (disch := omega) only [Mod_readUnit_58, Mod_readUnit_64, Mod_readUnit_67, Mod_readUnit_72, wr_id, ix_id, okx, if_pos, if_neg, Int.toNat_of_nonneg, bak_v, bak_n, wr_b01, wr_bt, b01_or, b01_0, b01_1, lc_lt0, lc_gt0, lc_eq0, wl_wr, wr_wr, wl_id, true_and, and_true, true_or, or_true, not_true_eq_false, not_false_eq_true, nc0, nc1, nc2, nc3, nc4, nc5, nc6, nc7, nc8, nc9, nc10, nc11, nc12, nc13, nc14, nc15, nc16, nc17, nc18, nc19, nc20, nc21, nc22, nc23, nc35, nc47, nc59, nc60, nc61, nc73, nc74, nc214, nc215, nc1115, nc2230, nc3345, if_true, if_false, Int.reduceToNat, hm2.k, e3, e4]
  rw [if_neg c32]
  have b2 : b01 (tkK T n a = 32) = 0 := by unfold b01; rw [if_neg c32]
  rw [b2] at i32
  obtain ⟨h1, e1, r1, f1⟩ := m_cmp (d := d) hS hokS hfr m s0 s1
  refine ⟨h1, ?_, r1, f1⟩
  show EX (d+4) m_Mod_readUnit 0 [(0, .inr (.inr (72))), (1, .inl (dp))] [] (h) = _
  simp (disch := omega) only [Mod_readUnit_0, Mod_readUnit_6, Mod_readUnit_33, Mod_readUnit_39, wr_id, ix_id, okx, if_pos, if_neg, Int.toNat_of_nonneg, bak_v, bak_n, wr_b01, wr_bt, b01_or, b01_0, b01_1, lc_lt0, lc_gt0, lc_eq0, wl_wr, wr_wr, wl_id, true_and, and_true, true_or, or_true, not_true_eq_false, not_false_eq_true, nc0, nc1, nc2, nc3, nc4, nc5, nc6, nc7, nc8, nc9, nc10, nc11, nc12, nc13, nc14, nc15, nc16, nc17, nc18, nc19, nc20, nc21, nc22, nc23, nc35, nc47, nc59, nc60, nc61, nc73, nc74, nc214, nc215, nc1115, nc2230, nc3345, if_true, if_false, Int.reduceToNat, hm.k, i13, i32]
  exact e1
def mth (lv : Int) : Nat := if lv = 0 then m_Mod_readTruth else if lv = 1 then m_Mod_readBoth else if lv = 2 then m_Mod_readUnit else if lv = 3 then m_Mod_readSum else if lv = 4 then m_Mod_readTerm else m_Mod_readAtom
theorem m_law {d : Nat} {T : Int → Int} {n : Int} : ∀ (f : Nat) (lv dp : Int), 0 ≤ lv → lv ≤ 5 → 0 ≤ dp → dp ≤ 6 → (6 - dp) * 6 + (6 - lv) ≤ f → mCt (d + f + 4) (mth lv) T n dp (prt T n f lv dp) := by
  intro f
  induction f with
  | zero => intro lv dp l0 l1 d0 d1 hb; omega
  | succ f ih =>
    intro lv dp l0 l1 d0 d1 hb
    have hok : ∀ lv dp a, a ≤ n → okL n a (prt T n f lv dp a) := fun lv dp a ha => prt_ok f lv dp a ha
    rw [show d + (f + 1) + 4 = d + f + 5 by omega]
    have cs : lv = 0 ∨ lv = 1 ∨ lv = 2 ∨ lv = 3 ∨ lv = 4 ∨ lv = 5 := by omega
    rcases cs with e | e | e | e | e | e <;> subst e
    · have i1 := ih 1 dp (by omega) (by omega) d0 d1 (by omega)
      rw [show mth 0 = m_Mod_readTruth from rfl]
      have ep : prt T n (f + 1) 0 dp = (fun a => match prt T n f 1 dp a with | .inl e => .inl e | .inr q => prL T n (prt T n f 1 dp) 0 901 q.1 q.2) := by
        funext a
        simp only [prt]
        rw [if_neg (by omega), if_neg (by omega)]
        rfl
      rw [ep]
      refine m_part (ms := m_Mod_readBoth) i1 (hok 1 dp) (fun h h1 hk e1 => ?_) (m_lp_0 i1 (hok 1 dp)) (fun h e hm m => ?_)
      · show EX (d+f+4) m_Mod_readTruth 0 [(0, .inr (.inr (72))), (1, .inl (dp))] [] (h) = _
        simp (disch := omega) only [Mod_readTruth_0, wr_id, ix_id, okx, if_pos, if_neg, Int.toNat_of_nonneg, bak_v, bak_n, wr_b01, wr_bt, b01_or, b01_0, b01_1, lc_lt0, lc_gt0, lc_eq0, wl_wr, wr_wr, wl_id, true_and, and_true, true_or, or_true, not_true_eq_false, not_false_eq_true, nc0, nc1, nc2, nc3, nc4, nc5, nc6, nc7, nc8, nc9, nc10, nc11, nc12, nc13, nc14, nc15, nc16, nc17, nc18, nc19, nc20, nc21, nc22, nc23, nc35, nc47, nc59, nc60, nc61, nc73, nc74, nc214, nc215, nc1115, nc2230, nc3345, if_true, if_false, Int.reduceToNat, hk, e1]
      · have e2 := m_eatsF (d := d + f + 1) hm m 11
        rw [Mod_readTruth_5]
        simp (disch := omega) only [Mod_readTruth_11, Mod_readTruth_29, wr_id, ix_id, okx, if_pos, if_neg, Int.toNat_of_nonneg, bak_v, bak_n, wr_b01, wr_bt, b01_or, b01_0, b01_1, lc_lt0, lc_gt0, lc_eq0, wl_wr, wr_wr, wl_id, true_and, and_true, true_or, or_true, not_true_eq_false, not_false_eq_true, nc0, nc1, nc2, nc3, nc4, nc5, nc6, nc7, nc8, nc9, nc10, nc11, nc12, nc13, nc14, nc15, nc16, nc17, nc18, nc19, nc20, nc21, nc22, nc23, nc35, nc47, nc59, nc60, nc61, nc73, nc74, nc214, nc215, nc1115, nc2230, nc3345, if_true, if_false, Int.reduceToNat, hm.k, e2]
    · have i1 := ih 2 dp (by omega) (by omega) d0 d1 (by omega)
      rw [show mth 1 = m_Mod_readBoth from rfl]
      have ep : prt T n (f + 1) 1 dp = (fun a => match prt T n f 2 dp a with | .inl e => .inl e | .inr q => prL T n (prt T n f 2 dp) 1 901 q.1 q.2) := by
        funext a
        simp only [prt]
        rw [if_neg (by omega), if_neg (by omega)]
        rfl
      rw [ep]
      refine m_part (ms := m_Mod_readUnit) i1 (hok 2 dp) (fun h h1 hk e1 => ?_) (m_lp_1 i1 (hok 2 dp)) (fun h e hm m => ?_)
      · show EX (d+f+4) m_Mod_readBoth 0 [(0, .inr (.inr (72))), (1, .inl (dp))] [] (h) = _
        simp (disch := omega) only [Mod_readBoth_0, wr_id, ix_id, okx, if_pos, if_neg, Int.toNat_of_nonneg, bak_v, bak_n, wr_b01, wr_bt, b01_or, b01_0, b01_1, lc_lt0, lc_gt0, lc_eq0, wl_wr, wr_wr, wl_id, true_and, and_true, true_or, or_true, not_true_eq_false, not_false_eq_true, nc0, nc1, nc2, nc3, nc4, nc5, nc6, nc7, nc8, nc9, nc10, nc11, nc12, nc13, nc14, nc15, nc16, nc17, nc18, nc19, nc20, nc21, nc22, nc23, nc35, nc47, nc59, nc60, nc61, nc73, nc74, nc214, nc215, nc1115, nc2230, nc3345, if_true, if_false, Int.reduceToNat, hk, e1]
      · have e2 := m_eatsF (d := d + f + 1) hm m 12
        rw [Mod_readBoth_5]
        simp (disch := omega) only [Mod_readBoth_11, Mod_readBoth_29, wr_id, ix_id, okx, if_pos, if_neg, Int.toNat_of_nonneg, bak_v, bak_n, wr_b01, wr_bt, b01_or, b01_0, b01_1, lc_lt0, lc_gt0, lc_eq0, wl_wr, wr_wr, wl_id, true_and, and_true, true_or, or_true, not_true_eq_false, not_false_eq_true, nc0, nc1, nc2, nc3, nc4, nc5, nc6, nc7, nc8, nc9, nc10, nc11, nc12, nc13, nc14, nc15, nc16, nc17, nc18, nc19, nc20, nc21, nc22, nc23, nc35, nc47, nc59, nc60, nc61, nc73, nc74, nc214, nc215, nc1115, nc2230, nc3345, if_true, if_false, Int.reduceToNat, hm.k, e2]
    · have ep : prt T n (f + 1) 2 dp = unP T n (prt T n f 2 (dp + 1)) (prt T n f 0 (dp + 1)) (prt T n f 3 dp) dp := by
        funext a
        simp only [prt, if_true]
      rw [ep]
      exact m_unit ⟨d0, d1⟩ (fun c => ih 2 (dp + 1) (by omega) (by omega) (by omega) (by omega) (by omega)) (fun c => ih 0 (dp + 1) (by omega) (by omega) (by omega) (by omega) (by omega)) (ih 3 dp (by omega) (by omega) d0 d1 (by omega)) (hok _ _) (hok _ _) (hok _ _) (fun h e hm m => by
        have := m_sumF (d := d + f - 2) hm m dp
        rw [show d + f - 2 + 6 = d + f + 4 by omega] at this
        exact this)
    · have i1 := ih 4 dp (by omega) (by omega) d0 d1 (by omega)
      rw [show mth 3 = m_Mod_readSum from rfl]
      have ep : prt T n (f + 1) 3 dp = (fun a => match prt T n f 4 dp a with | .inl e => .inl e | .inr q => prL T n (prt T n f 4 dp) 3 901 q.1 q.2) := by
        funext a
        simp only [prt]
        rw [if_neg (by omega), if_neg (by omega)]
        rfl
      rw [ep]
      refine m_part (ms := m_Mod_readTerm) i1 (hok 4 dp) (fun h h1 hk e1 => ?_) (m_lp_3 i1 (hok 4 dp)) (fun h e hm m => ?_)
      · show EX (d+f+4) m_Mod_readSum 0 [(0, .inr (.inr (72))), (1, .inl (dp))] [] (h) = _
        simp (disch := omega) only [Mod_readSum_0, wr_id, ix_id, okx, if_pos, if_neg, Int.toNat_of_nonneg, bak_v, bak_n, wr_b01, wr_bt, b01_or, b01_0, b01_1, lc_lt0, lc_gt0, lc_eq0, wl_wr, wr_wr, wl_id, true_and, and_true, true_or, or_true, not_true_eq_false, not_false_eq_true, nc0, nc1, nc2, nc3, nc4, nc5, nc6, nc7, nc8, nc9, nc10, nc11, nc12, nc13, nc14, nc15, nc16, nc17, nc18, nc19, nc20, nc21, nc22, nc23, nc35, nc47, nc59, nc60, nc61, nc73, nc74, nc214, nc215, nc1115, nc2230, nc3345, if_true, if_false, Int.reduceToNat, hk, e1]
      · have e2 := m_isF (d := d + f + 3) hm m 27
        have e3 := m_isF (d := d + f + 3) hm m 28
        rw [Mod_readSum_5]
        simp (disch := omega) only [Mod_readSum_11, Mod_readSum_14, Mod_readSum_20, Mod_readSum_59, wr_id, ix_id, okx, if_pos, if_neg, Int.toNat_of_nonneg, bak_v, bak_n, wr_b01, wr_bt, b01_or, b01_0, b01_1, lc_lt0, lc_gt0, lc_eq0, wl_wr, wr_wr, wl_id, true_and, and_true, true_or, or_true, not_true_eq_false, not_false_eq_true, nc0, nc1, nc2, nc3, nc4, nc5, nc6, nc7, nc8, nc9, nc10, nc11, nc12, nc13, nc14, nc15, nc16, nc17, nc18, nc19, nc20, nc21, nc22, nc23, nc35, nc47, nc59, nc60, nc61, nc73, nc74, nc214, nc215, nc1115, nc2230, nc3345, if_true, if_false, Int.reduceToNat, hm.k, e2, e3]
    · have i1 := ih 5 dp (by omega) (by omega) d0 d1 (by omega)
      rw [show mth 4 = m_Mod_readTerm from rfl]
      have ep : prt T n (f + 1) 4 dp = (fun a => match prt T n f 5 dp a with | .inl e => .inl e | .inr q => prL T n (prt T n f 5 dp) 4 901 q.1 q.2) := by
        funext a
        simp only [prt]
        rw [if_neg (by omega), if_neg (by omega)]
        rfl
      rw [ep]
      refine m_part (ms := m_Mod_readAtom) i1 (hok 5 dp) (fun h h1 hk e1 => ?_) (m_lp_4 i1 (hok 5 dp)) (fun h e hm m => ?_)
      · show EX (d+f+4) m_Mod_readTerm 0 [(0, .inr (.inr (72))), (1, .inl (dp))] [] (h) = _
        simp (disch := omega) only [Mod_readTerm_0, wr_id, ix_id, okx, if_pos, if_neg, Int.toNat_of_nonneg, bak_v, bak_n, wr_b01, wr_bt, b01_or, b01_0, b01_1, lc_lt0, lc_gt0, lc_eq0, wl_wr, wr_wr, wl_id, true_and, and_true, true_or, or_true, not_true_eq_false, not_false_eq_true, nc0, nc1, nc2, nc3, nc4, nc5, nc6, nc7, nc8, nc9, nc10, nc11, nc12, nc13, nc14, nc15, nc16, nc17, nc18, nc19, nc20, nc21, nc22, nc23, nc35, nc47, nc59, nc60, nc61, nc73, nc74, nc214, nc215, nc1115, nc2230, nc3345, if_true, if_false, Int.reduceToNat, hk, e1]
      · have e2 := m_eatsF (d := d + f + 1) hm m 29
        rw [Mod_readTerm_5]
        simp (disch := omega) only [Mod_readTerm_11, Mod_readTerm_29, wr_id, ix_id, okx, if_pos, if_neg, Int.toNat_of_nonneg, bak_v, bak_n, wr_b01, wr_bt, b01_or, b01_0, b01_1, lc_lt0, lc_gt0, lc_eq0, wl_wr, wr_wr, wl_id, true_and, and_true, true_or, or_true, not_true_eq_false, not_false_eq_true, nc0, nc1, nc2, nc3, nc4, nc5, nc6, nc7, nc8, nc9, nc10, nc11, nc12, nc13, nc14, nc15, nc16, nc17, nc18, nc19, nc20, nc21, nc22, nc23, nc35, nc47, nc59, nc60, nc61, nc73, nc74, nc214, nc215, nc1115, nc2230, nc3345, if_true, if_false, Int.reduceToNat, hm.k, e2]
    · have ep : prt T n (f + 1) 5 dp = atP T n (prt T n f 3 (dp + 1)) dp := by
        funext a
        simp only [prt, if_true]
        rw [if_neg (show ¬ (5 : Int) = 2 by omega)]
      rw [ep]
      exact m_atom ⟨d0, d1⟩ (fun c => ih 3 (dp + 1) (by omega) (by omega) (by omega) (by omega) (by omega)) (hok _ _)
