/-! the model reads a law -/
def mrL (h' : Hp) (T : Int → Int) (n : Int) (S : Int → Int) (r : RL) : Prop := match r with
  | .inl e => MF h' e
  | .inr q => MP h' T n q.1 (appC S q.2)
/-- how a part is read: in words of the parse F -/
def mCt (D m : Nat) (T : Int → Int) (n dp : Int) (F : Int → RL) : Prop := ∀ (a : Int) (h : Hp) (S : Int → Int), MP h T n a S → 0 ≤ S 214 → S 214 ≤ a → ∃ h', cal D m [.inr (.inr 72), .inl dp] h = some (.inl 0, h') ∧ mrL h' T n S (F a) ∧ Fr pPs h h'
theorem m_atomF {d : Nat} {h : Hp} {e : Int × Int} (hm : MR h) (m : MF h e) (dp : Int) : cal (d+4) m_Mod_readAtom [.inr (.inr (72)), .inl (dp)] (h) = some (.inl 0, h) := by
  have e1 := m_isF (d := d + 2) hm m 21
  have e2 := m_eatsF (d := d) hm m 2
  have e3 := m_eatsF (d := d) hm m 4
  have e4 := m_isF (d := d + 2) hm m 30
  have e5 := m_failsF (d := d + 2) hm m 2
  obtain ⟨m1, m2, m3⟩ := m
  show EX (d+3) m_Mod_readAtom 0 [(0, .inr (.inr (72))), (1, .inl (dp))] [] (h) = _
  simp (disch := omega) only [Mod_readAtom_0, Mod_readAtom_6, Mod_readAtom_24, Mod_readAtom_29, Mod_readAtom_42, Mod_readAtom_47, Mod_readAtom_60, Mod_readAtom_106, Mod_readAtom_112, Mod_readAtom_148, Mod_readAtom_153, wr_id, ix_id, okx, if_pos, if_neg, Int.toNat_of_nonneg, bak_v, bak_n, wr_b01, wr_bt, b01_or, b01_0, b01_1, lc_lt0, lc_gt0, lc_eq0, wl_wr, wr_wr, wl_id, true_and, and_true, true_or, or_true, not_true_eq_false, not_false_eq_true, nc0, nc1, nc2, nc3, nc4, nc5, nc6, nc7, nc8, nc9, nc10, nc11, nc12, nc13, nc14, nc15, nc16, nc17, nc18, nc19, nc20, nc21, nc22, nc23, nc35, nc47, nc59, nc60, nc61, nc73, nc74, nc214, nc215, nc1115, nc2230, nc3345, if_true, if_false, Int.reduceToNat, hm.k, m1, e1, e2, e3, e4, e5]
theorem m_termF {d : Nat} {h : Hp} {e : Int × Int} (hm : MR h) (m : MF h e) (dp : Int) : cal (d+5) m_Mod_readTerm [.inr (.inr (72)), .inl (dp)] (h) = some (.inl 0, h) := by
  have e1 := m_atomF (d := d) hm m dp
  have e2 := m_eatsF (d := d + 1) hm m 29
  show EX (d+4) m_Mod_readTerm 0 [(0, .inr (.inr (72))), (1, .inl (dp))] [] (h) = _
  simp (disch := omega) only [Mod_readTerm_0, Mod_readTerm_5, Mod_readTerm_11, Mod_readTerm_29, wr_id, ix_id, okx, if_pos, if_neg, Int.toNat_of_nonneg, bak_v, bak_n, wr_b01, wr_bt, b01_or, b01_0, b01_1, lc_lt0, lc_gt0, lc_eq0, wl_wr, wr_wr, wl_id, true_and, and_true, true_or, or_true, not_true_eq_false, not_false_eq_true, nc0, nc1, nc2, nc3, nc4, nc5, nc6, nc7, nc8, nc9, nc10, nc11, nc12, nc13, nc14, nc15, nc16, nc17, nc18, nc19, nc20, nc21, nc22, nc23, nc35, nc47, nc59, nc60, nc61, nc73, nc74, nc214, nc215, nc1115, nc2230, nc3345, if_true, if_false, Int.reduceToNat, hm.k, e1, e2]
theorem m_sumF {d : Nat} {h : Hp} {e : Int × Int} (hm : MR h) (m : MF h e) (dp : Int) : cal (d+6) m_Mod_readSum [.inr (.inr (72)), .inl (dp)] (h) = some (.inl 0, h) := by
  have e1 := m_termF (d := d) hm m dp
  have e2 := m_isF (d := d + 4) hm m 27
  have e3 := m_isF (d := d + 4) hm m 28
  show EX (d+5) m_Mod_readSum 0 [(0, .inr (.inr (72))), (1, .inl (dp))] [] (h) = _
  simp (disch := omega) only [Mod_readSum_0, Mod_readSum_5, Mod_readSum_11, Mod_readSum_14, Mod_readSum_20, Mod_readSum_59, wr_id, ix_id, okx, if_pos, if_neg, Int.toNat_of_nonneg, bak_v, bak_n, wr_b01, wr_bt, b01_or, b01_0, b01_1, lc_lt0, lc_gt0, lc_eq0, wl_wr, wr_wr, wl_id, true_and, and_true, true_or, or_true, not_true_eq_false, not_false_eq_true, nc0, nc1, nc2, nc3, nc4, nc5, nc6, nc7, nc8, nc9, nc10, nc11, nc12, nc13, nc14, nc15, nc16, nc17, nc18, nc19, nc20, nc21, nc22, nc23, nc35, nc47, nc59, nc60, nc61, nc73, nc74, nc214, nc215, nc1115, nc2230, nc3345, if_true, if_false, Int.reduceToNat, hm.k, e1, e2, e3]
theorem m_unitF {d : Nat} {h : Hp} {e : Int × Int} (hm : MR h) (m : MF h e) (dp : Int) : cal (d+7) m_Mod_readUnit [.inr (.inr (72)), .inl (dp)] (h) = some (.inl 0, h) := by
  have e1 := m_sumF (d := d) hm m dp
  have i13 := m_isF (d := d + 5) hm m 13
  have i32 := m_isF (d := d + 5) hm m 32
  have i34 := m_isF (d := d + 5) hm m 34
  have i35 := m_isF (d := d + 5) hm m 35
  have i36 := m_isF (d := d + 5) hm m 36
  have e5 := m_failsF (d := d + 5) hm m 2
  have e6 := m_codesF (d := d + 5) hm m 3005
  show EX (d+6) m_Mod_readUnit 0 [(0, .inr (.inr (72))), (1, .inl (dp))] [] (h) = _
  simp (disch := omega) only [Mod_readUnit_0, Mod_readUnit_6, Mod_readUnit_33, Mod_readUnit_39, Mod_readUnit_73, Mod_readUnit_78, Mod_readUnit_84, Mod_readUnit_93, Mod_readUnit_99, Mod_readUnit_108, Mod_readUnit_111, Mod_readUnit_118, Mod_readUnit_121, Mod_readUnit_127, Mod_readUnit_130, Mod_readUnit_136, Mod_readUnit_146, Mod_readUnit_151, Mod_readUnit_156, Mod_readUnit_161, wr_id, ix_id, okx, if_pos, if_neg, Int.toNat_of_nonneg, bak_v, bak_n, wr_b01, wr_bt, b01_or, b01_0, b01_1, lc_lt0, lc_gt0, lc_eq0, wl_wr, wr_wr, wl_id, true_and, and_true, true_or, or_true, not_true_eq_false, not_false_eq_true, nc0, nc1, nc2, nc3, nc4, nc5, nc6, nc7, nc8, nc9, nc10, nc11, nc12, nc13, nc14, nc15, nc16, nc17, nc18, nc19, nc20, nc21, nc22, nc23, nc35, nc47, nc59, nc60, nc61, nc73, nc74, nc214, nc215, nc1115, nc2230, nc3345, if_true, if_false, Int.reduceToNat, hm.k, e1, i13, i32, i34, i35, i36, e5, e6]
theorem m_bothF {d : Nat} {h : Hp} {e : Int × Int} (hm : MR h) (m : MF h e) (dp : Int) : cal (d+8) m_Mod_readBoth [.inr (.inr (72)), .inl (dp)] (h) = some (.inl 0, h) := by
  have e1 := m_unitF (d := d) hm m dp
  have e2 := m_eatsF (d := d + 4) hm m 12
  show EX (d+7) m_Mod_readBoth 0 [(0, .inr (.inr (72))), (1, .inl (dp))] [] (h) = _
  simp (disch := omega) only [Mod_readBoth_0, Mod_readBoth_5, Mod_readBoth_11, Mod_readBoth_29, wr_id, ix_id, okx, if_pos, if_neg, Int.toNat_of_nonneg, bak_v, bak_n, wr_b01, wr_bt, b01_or, b01_0, b01_1, lc_lt0, lc_gt0, lc_eq0, wl_wr, wr_wr, wl_id, true_and, and_true, true_or, or_true, not_true_eq_false, not_false_eq_true, nc0, nc1, nc2, nc3, nc4, nc5, nc6, nc7, nc8, nc9, nc10, nc11, nc12, nc13, nc14, nc15, nc16, nc17, nc18, nc19, nc20, nc21, nc22, nc23, nc35, nc47, nc59, nc60, nc61, nc73, nc74, nc214, nc215, nc1115, nc2230, nc3345, if_true, if_false, Int.reduceToNat, hm.k, e1, e2]
theorem m_truthF {d : Nat} {h : Hp} {e : Int × Int} (hm : MR h) (m : MF h e) (dp : Int) : cal (d+9) m_Mod_readTruth [.inr (.inr (72)), .inl (dp)] (h) = some (.inl 0, h) := by
  have e1 := m_bothF (d := d) hm m dp
  have e2 := m_eatsF (d := d + 5) hm m 11
  show EX (d+8) m_Mod_readTruth 0 [(0, .inr (.inr (72))), (1, .inl (dp))] [] (h) = _
  simp (disch := omega) only [Mod_readTruth_0, Mod_readTruth_5, Mod_readTruth_11, Mod_readTruth_29, wr_id, ix_id, okx, if_pos, if_neg, Int.toNat_of_nonneg, bak_v, bak_n, wr_b01, wr_bt, b01_or, b01_0, b01_1, lc_lt0, lc_gt0, lc_eq0, wl_wr, wr_wr, wl_id, true_and, and_true, true_or, or_true, not_true_eq_false, not_false_eq_true, nc0, nc1, nc2, nc3, nc4, nc5, nc6, nc7, nc8, nc9, nc10, nc11, nc12, nc13, nc14, nc15, nc16, nc17, nc18, nc19, nc20, nc21, nc22, nc23, nc35, nc47, nc59, nc60, nc61, nc73, nc74, nc214, nc215, nc1115, nc2230, nc3345, if_true, if_false, Int.reduceToNat, hm.k, e1, e2]
theorem m_lp_0 {d : Nat} {T : Int → Int} {n dp : Int} {F : Int → RL} (hF : mCt (d + 4) m_Mod_readBoth T n dp F) (hok : ∀ a, a ≤ n → okL n a (F a)) : ∀ (c : Nat) (a : Int) (l : List Int) (S : Int → Int) (h : Hp), n - a < c → MP h T n a (appC S l) → 0 ≤ S 214 → S 214 + l.length ≤ a → ∃ h', EX (d+4) m_Mod_readTruth 5 [(0, .inr (.inr (72))), (1, .inl (dp))] [] (h) = some (.inl 0, h') ∧ mrL h' T n S (prL T n F 0 c a l) ∧ Fr pPs h h' := by
  intro c
  induction c with
  | zero => intro a l S h hc m; have := m.rng; omega
  | succ c ih =>
    intro a l S h hc m s0 s1
    have hm := m.1.1
    have rg := m.rng
    have nr := nx_rng (T := T) (n := n) (a := a) (by omega)
    simp only [prL]
    by_cases ck : tkK T n a = 11
    · have eo : opL 0 (tkK T n a) = 3007 := by rw [ck]; rfl
      rw [eo, if_neg (by omega)]
      have la : a < n := tkK_22 (T := T) (by omega)
      have := nr.2.2 la
      obtain ⟨h1, e1, m1, f1⟩ := m_eats (d := d + 1) m (k := 11) (by omega) ck
      have hm1 := m1.1.1
      obtain ⟨h2, e2, r2, f2⟩ := hF (nx T n a) h1 (appC S l) m1 (by rw [appC_214]; omega) (by rw [appC_214]; omega)
      have hm2 := (m1.1.ps f2).1
      have st : ∀ h3, cal (d + 4) m_Mod_codes [.inr (.inr 72), .inl 3007] h2 = some (.inl 0, h3) → EX (d+4) m_Mod_readTruth 5 [(0, .inr (.inr (72))), (1, .inl (dp))] [] (h) = EX (d+4) m_Mod_readTruth 5 [(0, .inr (.inr (72))), (1, .inl (dp))] [] (h3) := fun h3 e3 => by
        rw [Mod_readTruth_5]
        simp (disch := omega) only [Mod_readTruth_11, Mod_readTruth_14, Mod_readTruth_19, Mod_readTruth_26, wr_id, ix_id, okx, if_pos, if_neg, Int.toNat_of_nonneg, bak_v, bak_n, wr_b01, wr_bt, b01_or, b01_0, b01_1, lc_lt0, lc_gt0, lc_eq0, wl_wr, wr_wr, wl_id, true_and, and_true, true_or, or_true, not_true_eq_false, not_false_eq_true, nc0, nc1, nc2, nc3, nc4, nc5, nc6, nc7, nc8, nc9, nc10, nc11, nc12, nc13, nc14, nc15, nc16, nc17, nc18, nc19, nc20, nc21, nc22, nc23, nc35, nc47, nc59, nc60, nc61, nc73, nc74, nc214, nc215, nc1115, nc2230, nc3345, if_true, if_false, Int.reduceToNat, hm.k, hm1.k, hm2.k, e1, e2, e3]
      cases hq : F (nx T n a) with
      | inl e =>
        rw [hq] at r2
        have r2' : MF h2 e := r2
        refine ⟨h2, ?_, r2', f1.tr f2⟩
        rw [st h2 (m_codesF (d := d + 3) hm2 r2' 3007), Mod_readTruth_5]
        have e4 := m_eatsF (d := d + 1) hm2 r2' 11
        simp (disch := omega) only [Mod_readTruth_11, Mod_readTruth_29, wr_id, ix_id, okx, if_pos, if_neg, Int.toNat_of_nonneg, bak_v, bak_n, wr_b01, wr_bt, b01_or, b01_0, b01_1, lc_lt0, lc_gt0, lc_eq0, wl_wr, wr_wr, wl_id, true_and, and_true, true_or, or_true, not_true_eq_false, not_false_eq_true, nc0, nc1, nc2, nc3, nc4, nc5, nc6, nc7, nc8, nc9, nc10, nc11, nc12, nc13, nc14, nc15, nc16, nc17, nc18, nc19, nc20, nc21, nc22, nc23, nc35, nc47, nc59, nc60, nc61, nc73, nc74, nc214, nc215, nc1115, nc2230, nc3345, if_true, if_false, Int.reduceToNat, hm2.k, e4]
      | inr q =>
        rw [hq] at r2
        have r2' : MP h2 T n q.1 (appC (appC S l) q.2) := r2
        have ok := hok (nx T n a) nr.2.1 q hq
        have c214 : appC (appC S l) q.2 214 = S 214 + l.length + q.2.length := by rw [appC_214, appC_214]
        obtain ⟨h3, e3, m3, f3⟩ := m_codes (d := d + 3) r2' (by rw [c214]; omega) 3007
        have ea : emC (appC (appC S l) q.2) 3007 = appC S (l ++ (q.2 ++ [3007])) := by rw [appC_app, appC_app]; rfl
        rw [ea] at m3
        obtain ⟨h4, e4, m4, f4⟩ := ih q.1 (l ++ (q.2 ++ [3007])) S h3 (by omega) m3 s0 (by simp only [List.length_append, List.length_cons, List.length_nil]; omega)
        refine ⟨h4, ?_, m4, ((f1.tr f2).tr f3).tr f4⟩
        rw [st h3 e3]
        exact e4
    · have eo : opL 0 (tkK T n a) = -1 := by unfold opL; simp [ck]
      rw [eo, if_pos rfl]
      refine ⟨h, ?_, m, Fr.rf⟩
      have e1 := m_eatsN (d := d + 1) m (k := 11) (by omega) ck
      rw [Mod_readTruth_5]
      simp (disch := omega) only [Mod_readTruth_11, Mod_readTruth_29, wr_id, ix_id, okx, if_pos, if_neg, Int.toNat_of_nonneg, bak_v, bak_n, wr_b01, wr_bt, b01_or, b01_0, b01_1, lc_lt0, lc_gt0, lc_eq0, wl_wr, wr_wr, wl_id, true_and, and_true, true_or, or_true, not_true_eq_false, not_false_eq_true, nc0, nc1, nc2, nc3, nc4, nc5, nc6, nc7, nc8, nc9, nc10, nc11, nc12, nc13, nc14, nc15, nc16, nc17, nc18, nc19, nc20, nc21, nc22, nc23, nc35, nc47, nc59, nc60, nc61, nc73, nc74, nc214, nc215, nc1115, nc2230, nc3345, if_true, if_false, Int.reduceToNat, hm.k, e1]
theorem m_lp_1 {d : Nat} {T : Int → Int} {n dp : Int} {F : Int → RL} (hF : mCt (d + 4) m_Mod_readUnit T n dp F) (hok : ∀ a, a ≤ n → okL n a (F a)) : ∀ (c : Nat) (a : Int) (l : List Int) (S : Int → Int) (h : Hp), n - a < c → MP h T n a (appC S l) → 0 ≤ S 214 → S 214 + l.length ≤ a → ∃ h', EX (d+4) m_Mod_readBoth 5 [(0, .inr (.inr (72))), (1, .inl (dp))] [] (h) = some (.inl 0, h') ∧ mrL h' T n S (prL T n F 1 c a l) ∧ Fr pPs h h' := by
  intro c
  induction c with
  | zero => intro a l S h hc m; have := m.rng; omega
  | succ c ih =>
    intro a l S h hc m s0 s1
    have hm := m.1.1
    have rg := m.rng
    have nr := nx_rng (T := T) (n := n) (a := a) (by omega)
    simp only [prL]
    by_cases ck : tkK T n a = 12
    · have eo : opL 1 (tkK T n a) = 3006 := by rw [ck]; rfl
      rw [eo, if_neg (by omega)]
      have la : a < n := tkK_22 (T := T) (by omega)
      have := nr.2.2 la
      obtain ⟨h1, e1, m1, f1⟩ := m_eats (d := d + 1) m (k := 12) (by omega) ck
      have hm1 := m1.1.1
      obtain ⟨h2, e2, r2, f2⟩ := hF (nx T n a) h1 (appC S l) m1 (by rw [appC_214]; omega) (by rw [appC_214]; omega)
      have hm2 := (m1.1.ps f2).1
      have st : ∀ h3, cal (d + 4) m_Mod_codes [.inr (.inr 72), .inl 3006] h2 = some (.inl 0, h3) → EX (d+4) m_Mod_readBoth 5 [(0, .inr (.inr (72))), (1, .inl (dp))] [] (h) = EX (d+4) m_Mod_readBoth 5 [(0, .inr (.inr (72))), (1, .inl (dp))] [] (h3) := fun h3 e3 => by
        rw [Mod_readBoth_5]
        simp (disch := omega) only [Mod_readBoth_11, Mod_readBoth_14, Mod_readBoth_19, Mod_readBoth_26, wr_id, ix_id, okx, if_pos, if_neg, Int.toNat_of_nonneg, bak_v, bak_n, wr_b01, wr_bt, b01_or, b01_0, b01_1, lc_lt0, lc_gt0, lc_eq0, wl_wr, wr_wr, wl_id, true_and, and_true, true_or, or_true, not_true_eq_false, not_false_eq_true, nc0, nc1, nc2, nc3, nc4, nc5, nc6, nc7, nc8, nc9, nc10, nc11, nc12, nc13, nc14, nc15, nc16, nc17, nc18, nc19, nc20, nc21, nc22, nc23, nc35, nc47, nc59, nc60, nc61, nc73, nc74, nc214, nc215, nc1115, nc2230, nc3345, if_true, if_false, Int.reduceToNat, hm.k, hm1.k, hm2.k, e1, e2, e3]
      cases hq : F (nx T n a) with
      | inl e =>
        rw [hq] at r2
        have r2' : MF h2 e := r2
        refine ⟨h2, ?_, r2', f1.tr f2⟩
        rw [st h2 (m_codesF (d := d + 3) hm2 r2' 3006), Mod_readBoth_5]
        have e4 := m_eatsF (d := d + 1) hm2 r2' 12
        simp (disch := omega) only [Mod_readBoth_11, Mod_readBoth_29, wr_id, ix_id, okx, if_pos, if_neg, Int.toNat_of_nonneg, bak_v, bak_n, wr_b01, wr_bt, b01_or, b01_0, b01_1, lc_lt0, lc_gt0, lc_eq0, wl_wr, wr_wr, wl_id, true_and, and_true, true_or, or_true, not_true_eq_false, not_false_eq_true, nc0, nc1, nc2, nc3, nc4, nc5, nc6, nc7, nc8, nc9, nc10, nc11, nc12, nc13, nc14, nc15, nc16, nc17, nc18, nc19, nc20, nc21, nc22, nc23, nc35, nc47, nc59, nc60, nc61, nc73, nc74, nc214, nc215, nc1115, nc2230, nc3345, if_true, if_false, Int.reduceToNat, hm2.k, e4]
      | inr q =>
        rw [hq] at r2
        have r2' : MP h2 T n q.1 (appC (appC S l) q.2) := r2
        have ok := hok (nx T n a) nr.2.1 q hq
        have c214 : appC (appC S l) q.2 214 = S 214 + l.length + q.2.length := by rw [appC_214, appC_214]
        obtain ⟨h3, e3, m3, f3⟩ := m_codes (d := d + 3) r2' (by rw [c214]; omega) 3006
        have ea : emC (appC (appC S l) q.2) 3006 = appC S (l ++ (q.2 ++ [3006])) := by rw [appC_app, appC_app]; rfl
        rw [ea] at m3
        obtain ⟨h4, e4, m4, f4⟩ := ih q.1 (l ++ (q.2 ++ [3006])) S h3 (by omega) m3 s0 (by simp only [List.length_append, List.length_cons, List.length_nil]; omega)
        refine ⟨h4, ?_, m4, ((f1.tr f2).tr f3).tr f4⟩
        rw [st h3 e3]
        exact e4
    · have eo : opL 1 (tkK T n a) = -1 := by unfold opL; simp [ck]
      rw [eo, if_pos rfl]
      refine ⟨h, ?_, m, Fr.rf⟩
      have e1 := m_eatsN (d := d + 1) m (k := 12) (by omega) ck
      rw [Mod_readBoth_5]
      simp (disch := omega) only [Mod_readBoth_11, Mod_readBoth_29, wr_id, ix_id, okx, if_pos, if_neg, Int.toNat_of_nonneg, bak_v, bak_n, wr_b01, wr_bt, b01_or, b01_0, b01_1, lc_lt0, lc_gt0, lc_eq0, wl_wr, wr_wr, wl_id, true_and, and_true, true_or, or_true, not_true_eq_false, not_false_eq_true, nc0, nc1, nc2, nc3, nc4, nc5, nc6, nc7, nc8, nc9, nc10, nc11, nc12, nc13, nc14, nc15, nc16, nc17, nc18, nc19, nc20, nc21, nc22, nc23, nc35, nc47, nc59, nc60, nc61, nc73, nc74, nc214, nc215, nc1115, nc2230, nc3345, if_true, if_false, Int.reduceToNat, hm.k, e1]
theorem m_lp_4 {d : Nat} {T : Int → Int} {n dp : Int} {F : Int → RL} (hF : mCt (d + 4) m_Mod_readAtom T n dp F) (hok : ∀ a, a ≤ n → okL n a (F a)) : ∀ (c : Nat) (a : Int) (l : List Int) (S : Int → Int) (h : Hp), n - a < c → MP h T n a (appC S l) → 0 ≤ S 214 → S 214 + l.length ≤ a → ∃ h', EX (d+4) m_Mod_readTerm 5 [(0, .inr (.inr (72))), (1, .inl (dp))] [] (h) = some (.inl 0, h') ∧ mrL h' T n S (prL T n F 4 c a l) ∧ Fr pPs h h' := by
  intro c
  induction c with
  | zero => intro a l S h hc m; have := m.rng; omega
  | succ c ih =>
    intro a l S h hc m s0 s1
    have hm := m.1.1
    have rg := m.rng
    have nr := nx_rng (T := T) (n := n) (a := a) (by omega)
    simp only [prL]
    by_cases ck : tkK T n a = 29
    · have eo : opL 4 (tkK T n a) = 3002 := by rw [ck]; rfl
      rw [eo, if_neg (by omega)]
      have la : a < n := tkK_22 (T := T) (by omega)
      have := nr.2.2 la
      obtain ⟨h1, e1, m1, f1⟩ := m_eats (d := d + 1) m (k := 29) (by omega) ck
      have hm1 := m1.1.1
      obtain ⟨h2, e2, r2, f2⟩ := hF (nx T n a) h1 (appC S l) m1 (by rw [appC_214]; omega) (by rw [appC_214]; omega)
      have hm2 := (m1.1.ps f2).1
      have st : ∀ h3, cal (d + 4) m_Mod_codes [.inr (.inr 72), .inl 3002] h2 = some (.inl 0, h3) → EX (d+4) m_Mod_readTerm 5 [(0, .inr (.inr (72))), (1, .inl (dp))] [] (h) = EX (d+4) m_Mod_readTerm 5 [(0, .inr (.inr (72))), (1, .inl (dp))] [] (h3) := fun h3 e3 => by
        rw [Mod_readTerm_5]
        simp (disch := omega) only [Mod_readTerm_11, Mod_readTerm_14, Mod_readTerm_19, Mod_readTerm_26, wr_id, ix_id, okx, if_pos, if_neg, Int.toNat_of_nonneg, bak_v, bak_n, wr_b01, wr_bt, b01_or, b01_0, b01_1, lc_lt0, lc_gt0, lc_eq0, wl_wr, wr_wr, wl_id, true_and, and_true, true_or, or_true, not_true_eq_false, not_false_eq_true, nc0, nc1, nc2, nc3, nc4, nc5, nc6, nc7, nc8, nc9, nc10, nc11, nc12, nc13, nc14, nc15, nc16, nc17, nc18, nc19, nc20, nc21, nc22, nc23, nc35, nc47, nc59, nc60, nc61, nc73, nc74, nc214, nc215, nc1115, nc2230, nc3345, if_true, if_false, Int.reduceToNat, hm.k, hm1.k, hm2.k, e1, e2, e3]
      cases hq : F (nx T n a) with
      | inl e =>
        rw [hq] at r2
        have r2' : MF h2 e := r2
        refine ⟨h2, ?_, r2', f1.tr f2⟩
        rw [st h2 (m_codesF (d := d + 3) hm2 r2' 3002), Mod_readTerm_5]
        have e4 := m_eatsF (d := d + 1) hm2 r2' 29
        simp (disch := omega) only [Mod_readTerm_11, Mod_readTerm_29, wr_id, ix_id, okx, if_pos, if_neg, Int.toNat_of_nonneg, bak_v, bak_n, wr_b01, wr_bt, b01_or, b01_0, b01_1, lc_lt0, lc_gt0, lc_eq0, wl_wr, wr_wr, wl_id, true_and, and_true, true_or, or_true, not_true_eq_false, not_false_eq_true, nc0, nc1, nc2, nc3, nc4, nc5, nc6, nc7, nc8, nc9, nc10, nc11, nc12, nc13, nc14, nc15, nc16, nc17, nc18, nc19, nc20, nc21, nc22, nc23, nc35, nc47, nc59, nc60, nc61, nc73, nc74, nc214, nc215, nc1115, nc2230, nc3345, if_true, if_false, Int.reduceToNat, hm2.k, e4]
      | inr q =>
        rw [hq] at r2
        have r2' : MP h2 T n q.1 (appC (appC S l) q.2) := r2
        have ok := hok (nx T n a) nr.2.1 q hq
        have c214 : appC (appC S l) q.2 214 = S 214 + l.length + q.2.length := by rw [appC_214, appC_214]
        obtain ⟨h3, e3, m3, f3⟩ := m_codes (d := d + 3) r2' (by rw [c214]; omega) 3002
        have ea : emC (appC (appC S l) q.2) 3002 = appC S (l ++ (q.2 ++ [3002])) := by rw [appC_app, appC_app]; rfl
        rw [ea] at m3
        obtain ⟨h4, e4, m4, f4⟩ := ih q.1 (l ++ (q.2 ++ [3002])) S h3 (by omega) m3 s0 (by simp only [List.length_append, List.length_cons, List.length_nil]; omega)
        refine ⟨h4, ?_, m4, ((f1.tr f2).tr f3).tr f4⟩
        rw [st h3 e3]
        exact e4
    · have eo : opL 4 (tkK T n a) = -1 := by unfold opL; simp [ck]
      rw [eo, if_pos rfl]
      refine ⟨h, ?_, m, Fr.rf⟩
      have e1 := m_eatsN (d := d + 1) m (k := 29) (by omega) ck
      rw [Mod_readTerm_5]
      simp (disch := omega) only [Mod_readTerm_11, Mod_readTerm_29, wr_id, ix_id, okx, if_pos, if_neg, Int.toNat_of_nonneg, bak_v, bak_n, wr_b01, wr_bt, b01_or, b01_0, b01_1, lc_lt0, lc_gt0, lc_eq0, wl_wr, wr_wr, wl_id, true_and, and_true, true_or, or_true, not_true_eq_false, not_false_eq_true, nc0, nc1, nc2, nc3, nc4, nc5, nc6, nc7, nc8, nc9, nc10, nc11, nc12, nc13, nc14, nc15, nc16, nc17, nc18, nc19, nc20, nc21, nc22, nc23, nc35, nc47, nc59, nc60, nc61, nc73, nc74, nc214, nc215, nc1115, nc2230, nc3345, if_true, if_false, Int.reduceToNat, hm.k, e1]
theorem m_lp_3 {d : Nat} {T : Int → Int} {n dp : Int} {F : Int → RL} (hF : mCt (d + 4) m_Mod_readTerm T n dp F) (hok : ∀ a, a ≤ n → okL n a (F a)) : ∀ (c : Nat) (a : Int) (l : List Int) (S : Int → Int) (h : Hp), n - a < c → MP h T n a (appC S l) → 0 ≤ S 214 → S 214 + l.length ≤ a → ∃ h', EX (d+4) m_Mod_readSum 5 [(0, .inr (.inr (72))), (1, .inl (dp))] [] (h) = some (.inl 0, h') ∧ mrL h' T n S (prL T n F 3 c a l) ∧ Fr pPs h h' := by
  intro c
  induction c with
  | zero => intro a l S h hc m; have := m.rng; omega
  | succ c ih =>
    intro a l S h hc m s0 s1
    have hm := m.1.1
    have rg := m.rng
    have nr := nx_rng (T := T) (n := n) (a := a) (by omega)
    have i27 := m_is (d := d + 3) m (k := 27) (by omega)
    have i28 := m_is (d := d + 3) m (k := 28) (by omega)
    have k9 := m.2.1.2.2.1
    simp only [prL]
    by_cases ck : tkK T n a = 27 ∨ tkK T n a = 28
    · obtain ⟨co, eco⟩ : ∃ co, co = opL 3 (tkK T n a) := ⟨_, rfl⟩
      have cor : co = (if tkK T n a = 27 then 3000 else 3001) := by
        rw [eco]
        rcases ck with z | z <;> rw [z] <;> rfl
      rw [← eco, if_neg (by rw [cor]; split <;> omega)]
      have la : a < n := tkK_22 (T := T) (by omega)
      have := nr.2.2 la
      obtain ⟨h1, e1, m1, f1⟩ := m_nextP (d := d + 2) m
      have hm1 := m1.1.1
      obtain ⟨h2, e2, r2, f2⟩ := hF (nx T n a) h1 (appC S l) m1 (by rw [appC_214]; omega) (by rw [appC_214]; omega)
      have hm2 := (m1.1.ps f2).1
      have st : ∀ h3, cal (d + 4) m_Mod_codes [.inr (.inr 72), .inl co] h2 = some (.inl 0, h3) → EX (d+4) m_Mod_readSum 5 [(0, .inr (.inr (72))), (1, .inl (dp))] [] (h) = EX (d+4) m_Mod_readSum 5 [(0, .inr (.inr (72))), (1, .inl (dp))] [] (h3) := fun h3 e3 => by
        rw [Mod_readSum_5]
        by_cases c27 : tkK T n a = 27
        · have b1 : b01 (tkK T n a = 27) = 1 := by unfold b01; rw [if_pos c27]
          rw [if_pos c27] at cor
          subst cor
          rw [b1] at i27
          rw [c27] at k9
          simp (disch := omega) only [Mod_readSum_11, Mod_readSum_23, Mod_readSum_32, Mod_readSum_41, Mod_readSum_46, Mod_readSum_51, Mod_readSum_56, wr_id, ix_id, okx, if_pos, if_neg, Int.toNat_of_nonneg, bak_v, bak_n, wr_b01, wr_bt, b01_or, b01_0, b01_1, lc_lt0, lc_gt0, lc_eq0, wl_wr, wr_wr, wl_id, true_and, and_true, true_or, or_true, not_true_eq_false, not_false_eq_true, nc0, nc1, nc2, nc3, nc4, nc5, nc6, nc7, nc8, nc9, nc10, nc11, nc12, nc13, nc14, nc15, nc16, nc17, nc18, nc19, nc20, nc21, nc22, nc23, nc35, nc47, nc59, nc60, nc61, nc73, nc74, nc214, nc215, nc1115, nc2230, nc3345, if_true, if_false, Int.reduceToNat, hm.k, hm1.k, hm2.k, k9, i27, e1, e2, e3]
        · have c28 : tkK T n a = 28 := by omega
          have b1 : b01 (tkK T n a = 27) = 0 := by unfold b01; rw [if_neg c27]
          have b2 : b01 (tkK T n a = 28) = 1 := by unfold b01; rw [if_pos c28]
          rw [if_neg c27] at cor
          subst cor
          rw [b1] at i27
          rw [b2] at i28
          rw [c28] at k9
          simp (disch := omega) only [Mod_readSum_11, Mod_readSum_14, Mod_readSum_20, Mod_readSum_23, Mod_readSum_38, Mod_readSum_41, Mod_readSum_46, Mod_readSum_51, Mod_readSum_56, wr_id, ix_id, okx, if_pos, if_neg, Int.toNat_of_nonneg, bak_v, bak_n, wr_b01, wr_bt, b01_or, b01_0, b01_1, lc_lt0, lc_gt0, lc_eq0, wl_wr, wr_wr, wl_id, true_and, and_true, true_or, or_true, not_true_eq_false, not_false_eq_true, nc0, nc1, nc2, nc3, nc4, nc5, nc6, nc7, nc8, nc9, nc10, nc11, nc12, nc13, nc14, nc15, nc16, nc17, nc18, nc19, nc20, nc21, nc22, nc23, nc35, nc47, nc59, nc60, nc61, nc73, nc74, nc214, nc215, nc1115, nc2230, nc3345, if_true, if_false, Int.reduceToNat, hm.k, hm1.k, hm2.k, k9, i27, i28, e1, e2, e3]
      cases hq : F (nx T n a) with
      | inl e =>
        rw [hq] at r2
        have r2' : MF h2 e := r2
        refine ⟨h2, ?_, r2', f1.tr f2⟩
        rw [st h2 (m_codesF (d := d + 3) hm2 r2' co), Mod_readSum_5]
        have e4 := m_isF (d := d + 3) hm2 r2' 27
        have e5 := m_isF (d := d + 3) hm2 r2' 28
        simp (disch := omega) only [Mod_readSum_11, Mod_readSum_14, Mod_readSum_20, Mod_readSum_59, wr_id, ix_id, okx, if_pos, if_neg, Int.toNat_of_nonneg, bak_v, bak_n, wr_b01, wr_bt, b01_or, b01_0, b01_1, lc_lt0, lc_gt0, lc_eq0, wl_wr, wr_wr, wl_id, true_and, and_true, true_or, or_true, not_true_eq_false, not_false_eq_true, nc0, nc1, nc2, nc3, nc4, nc5, nc6, nc7, nc8, nc9, nc10, nc11, nc12, nc13, nc14, nc15, nc16, nc17, nc18, nc19, nc20, nc21, nc22, nc23, nc35, nc47, nc59, nc60, nc61, nc73, nc74, nc214, nc215, nc1115, nc2230, nc3345, if_true, if_false, Int.reduceToNat, hm2.k, e4, e5]
      | inr q =>
        rw [hq] at r2
        have r2' : MP h2 T n q.1 (appC (appC S l) q.2) := r2
        have ok := hok (nx T n a) nr.2.1 q hq
        have c214 : appC (appC S l) q.2 214 = S 214 + l.length + q.2.length := by rw [appC_214, appC_214]
        obtain ⟨h3, e3, m3, f3⟩ := m_codes (d := d + 3) r2' (by rw [c214]; omega) co
        have ea : emC (appC (appC S l) q.2) co = appC S (l ++ (q.2 ++ [co])) := by rw [appC_app, appC_app]; rfl
        rw [ea] at m3
        obtain ⟨h4, e4, m4, f4⟩ := ih q.1 (l ++ (q.2 ++ [co])) S h3 (by omega) m3 s0 (by simp only [List.length_append, List.length_cons, List.length_nil]; omega)
        refine ⟨h4, ?_, m4, ((f1.tr f2).tr f3).tr f4⟩
        rw [st h3 e3]
        exact e4
    · have eo : opL 3 (tkK T n a) = -1 := by unfold opL; simp [show ¬ tkK T n a = 27 by omega, show ¬ tkK T n a = 28 by omega]
      rw [eo, if_pos rfl]
      refine ⟨h, ?_, m, Fr.rf⟩
      have b1 : b01 (tkK T n a = 27) = 0 := by unfold b01; rw [if_neg (by omega)]
      have b2 : b01 (tkK T n a = 28) = 0 := by unfold b01; rw [if_neg (by omega)]
      rw [b1] at i27
      rw [b2] at i28
      rw [Mod_readSum_5]
      simp (disch := omega) only [Mod_readSum_11, Mod_readSum_14, Mod_readSum_20, Mod_readSum_59, wr_id, ix_id, okx, if_pos, if_neg, Int.toNat_of_nonneg, bak_v, bak_n, wr_b01, wr_bt, b01_or, b01_0, b01_1, lc_lt0, lc_gt0, lc_eq0, wl_wr, wr_wr, wl_id, true_and, and_true, true_or, or_true, not_true_eq_false, not_false_eq_true, nc0, nc1, nc2, nc3, nc4, nc5, nc6, nc7, nc8, nc9, nc10, nc11, nc12, nc13, nc14, nc15, nc16, nc17, nc18, nc19, nc20, nc21, nc22, nc23, nc35, nc47, nc59, nc60, nc61, nc73, nc74, nc214, nc215, nc1115, nc2230, nc3345, if_true, if_false, Int.reduceToNat, hm.k, i27, i28]
/-- a level of parts joined by signs: the part, then the loop -/
theorem m_part {d m ms : Nat} {T : Int → Int} {n dp lv : Int} {F : Int → RL} (hF : mCt (d + 4) ms T n dp F) (hok : ∀ a, a ≤ n → okL n a (F a))
    (h0 : ∀ (h h1 : Hp), sK h 72 = 11 → cal (d + 4) ms [.inr (.inr 72), .inl dp] h = some (.inl 0, h1) → cal (d + 5) m [.inr (.inr 72), .inl dp] h = EX (d + 4) m 5 [(0, .inr (.inr 72)), (1, .inl dp)] [] h1)
    (hl : ∀ (c : Nat) (a : Int) (l : List Int) (S : Int → Int) (h : Hp), n - a < c → MP h T n a (appC S l) → 0 ≤ S 214 → S 214 + l.length ≤ a → ∃ h', EX (d + 4) m 5 [(0, .inr (.inr 72)), (1, .inl dp)] [] h = some (.inl 0, h') ∧ mrL h' T n S (prL T n F lv c a l) ∧ Fr pPs h h')
    (hf : ∀ (h : Hp) (e : Int × Int), MR h → MF h e → EX (d + 4) m 5 [(0, .inr (.inr 72)), (1, .inl dp)] [] h = some (.inl 0, h)) : mCt (d + 5) m T n dp (fun a => match F a with | .inl e => .inl e | .inr q => prL T n F lv 901 q.1 q.2) := by
  intro a h S mp s0 s1
  obtain ⟨h1, e1, r1, f1⟩ := hF a h S mp s0 s1
  have e0 := h0 h h1 mp.1.1.k e1
  have hm1 := (mp.1.ps f1).1
  have rg := mp.rng
  dsimp only
  cases hq : F a with
  | inl e =>
    rw [hq] at r1
    have r1' : MF h1 e := r1
    exact ⟨h1, e0.trans (hf h1 e hm1 r1'), r1', f1⟩
  | inr q =>
    rw [hq] at r1
    have r1' : MP h1 T n q.1 (appC S q.2) := r1
    have ok := hok a rg.2.1 q hq
    obtain ⟨h2, e2, r2, f2⟩ := hl 901 q.1 q.2 S h1 (by omega) r1' s0 (by omega)
    exact ⟨h2, e0.trans e2, r2, f1.tr f2⟩
