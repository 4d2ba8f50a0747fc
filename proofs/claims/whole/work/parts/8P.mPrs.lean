/-! reading: what a parse gives; the model's helpers -/
abbrev RL : Type := (Int × Int) ⊕ (Int × List Int)
abbrev RW2 : Type := (Int × Int) ⊕ (Int × (Int → Int))
def bd2 (T : Int → Int) (n a : Int) : Int × Int := (if tkK T n a = 23 then 1 else 2, a)
/-- the codes of a law, put behind those of a row -/
def emC (S : Int → Int) (c : Int) : Int → Int := up (up S (215 + S 214) c) 214 (S 214 + 1)
def appC (S : Int → Int) : List Int → Int → Int
  | [] => S
  | c :: r => appC (emC S c) r
theorem emC_214 (S : Int → Int) (c : Int) : emC S c 214 = S 214 + 1 := up_same _ _ _
theorem appC_214 : ∀ (l : List Int) (S : Int → Int), appC S l 214 = S 214 + l.length := by
  intro l
  induction l with
  | nil => intro S; simp [appC]
  | cons c r ih =>
    intro S
    simp only [appC, List.length_cons]
    rw [ih, emC_214]
    omega
theorem appC_app : ∀ (l m : List Int) (S : Int → Int), appC S (l ++ m) = appC (appC S l) m := by
  intro l
  induction l with
  | nil => intro m S; rfl
  | cons c r ih => intro m S; exact ih m (emC S c)
def opL (lv k : Int) : Int := if lv = 0 then (if k = 11 then 3007 else -1) else if lv = 1 then (if k = 12 then 3006 else -1) else if lv = 3 then (if k = 27 then 3000 else if k = 28 then 3001 else -1) else (if k = 29 then 3002 else -1)
def prL (T : Int → Int) (n : Int) (F : Int → RL) (lv : Int) : Nat → Int → List Int → RL
  | 0, a, l => .inr (a, l)
  | c + 1, a, l => if opL lv (tkK T n a) = -1 then .inr (a, l) else match F (nx T n a) with
    | .inl e => .inl e
    | .inr q => prL T n F lv c q.1 (l ++ (q.2 ++ [opL lv (tkK T n a)]))
def atP (T : Int → Int) (n : Int) (F : Int → RL) (dp a : Int) : RL :=
  if tkK T n a = 21 then .inr (nx T n a, [tkN T n a])
  else if tkK T n a = 2 then .inr (nx T n a, [1000])
  else if tkK T n a = 4 then .inr (nx T n a, [1001])
  else if 14 ≤ tkK T n a ∧ tkK T n a ≤ 17 then .inr (nx T n a, [1002 + tkK T n a - 14])
  else if tkK T n a = 30 then (if dp = 6 then .inl (4, a) else match F (nx T n a) with
    | .inl e => .inl e
    | .inr q => if tkK T n q.1 = 31 then .inr (nx T n q.1, q.2) else .inl (bd2 T n q.1))
  else .inl (bd2 T n a)
def cmC (k : Int) : Int := if k = 34 then 3003 else if k = 35 then 3004 else 3005
def cmP (T : Int → Int) (n : Int) (F : Int → RL) (a : Int) : RL := match F a with
  | .inl e => .inl e
  | .inr q => if 34 ≤ tkK T n q.1 ∧ tkK T n q.1 ≤ 36 then (match F (nx T n q.1) with
      | .inl e => .inl e
      | .inr p => .inr (p.1, q.2 ++ (p.2 ++ [cmC (tkK T n q.1)])))
    else .inl (bd2 T n q.1)
def unP (T : Int → Int) (n : Int) (FN FT FS : Int → RL) (dp a : Int) : RL :=
  if tkK T n a = 13 then (if dp = 6 then .inl (4, a) else match FN (nx T n a) with
    | .inl e => .inl e
    | .inr q => .inr (q.1, q.2 ++ [3008]))
  else if tkK T n a = 32 then (if dp = 6 then .inl (4, a) else match FT (nx T n a) with
    | .inl e => .inl e
    | .inr q => if tkK T n q.1 = 33 then .inr (nx T n q.1, q.2) else .inl (bd2 T n q.1))
  else cmP T n FS a
def prt (T : Int → Int) (n : Int) : Nat → Int → Int → Int → RL
  | 0, _, _, a => .inl (2, a)
  | f + 1, lv, dp, a =>
    if lv = 2 then unP T n (prt T n f 2 (dp + 1)) (prt T n f 0 (dp + 1)) (prt T n f 3 dp) dp a
    else if lv = 5 then atP T n (prt T n f 3 (dp + 1)) dp a
    else match prt T n f (lv + 1) dp a with
      | .inl e => .inl e
      | .inr q => prL T n (prt T n f (lv + 1) dp) lv 901 q.1 q.2
/-- a parse goes on, and gives no more codes than it goes -/
def okL (n a : Int) (r : RL) : Prop := ∀ q, r = .inr q → a + q.2.length ≤ q.1 ∧ q.1 ≤ n
theorem prL_ok {T : Int → Int} {n : Int} {F : Int → RL} {lv : Int} (hF : ∀ a, a ≤ n → okL n a (F a)) : ∀ (c : Nat) (a b : Int) (l : List Int), b + l.length ≤ a → a ≤ n → okL n b (prL T n F lv c a l) := by
  intro c
  induction c with
  | zero => intro a b l h1 h2 q hq; cases hq; exact ⟨h1, h2⟩
  | succ c ih =>
    intro a b l h1 h2 q hq
    simp only [prL] at hq
    split at hq
    · cases hq; exact ⟨h1, h2⟩
    · rename_i cc
      have la : a < n := tkK_22 (fun z => cc (by rw [z]; unfold opL; repeat' split; all_goals omega))
      have nr := nx_rng (T := T) (n := n) (a := a) h2
      split at hq
      · cases hq
      · rename_i q' e'
        have := hF (nx T n a) nr.2.1 q' e'
        refine ih q'.1 b _ ?_ this.2 q hq
        simp only [List.length_append, List.length_cons, List.length_nil]
        have := nr.2.2 la
        omega
theorem prt_ok {T : Int → Int} {n : Int} : ∀ (f : Nat) (lv dp a : Int), a ≤ n → okL n a (prt T n f lv dp a) := by
  intro f
  induction f with
  | zero => intro lv dp a _ q hq; cases hq
  | succ f ih =>
    intro lv dp a ha q hq
    have nr := nx_rng (T := T) (n := n) (a := a) ha
    simp only [prt] at hq
    split at hq
    · unfold unP at hq
      split at hq
      · rename_i ck
        have la : a < n := tkK_22 (T := T) (by omega)
        split at hq
        · cases hq
        · split at hq
          · cases hq
          · rename_i q' e'
            have := ih _ _ _ nr.2.1 q' e'
            cases hq
            have := nr.2.2 la
            simp only [List.length_append, List.length_cons, List.length_nil]
            omega
      · split at hq
        · rename_i ck
          have la : a < n := tkK_22 (T := T) (by omega)
          split at hq
          · cases hq
          · split at hq
            · cases hq
            · rename_i q' e'
              have i := ih _ _ _ nr.2.1 q' e'
              split at hq
              · cases hq
                have := nx_rng (T := T) (n := n) (a := q'.1) i.2
                have := nr.2.2 la
                dsimp only
                omega
              · cases hq
        · unfold cmP at hq
          split at hq
          · cases hq
          · rename_i q' e'
            have i := ih _ _ _ ha q' e'
            split at hq
            · rename_i ck
              have lb : q'.1 < n := tkK_22 (T := T) (by omega)
              have nr2 := nx_rng (T := T) (n := n) (a := q'.1) i.2
              split at hq
              · cases hq
              · rename_i p' e2
                have i2 := ih _ _ _ nr2.2.1 p' e2
                cases hq
                have := nr2.2.2 lb
                simp only [List.length_append, List.length_cons, List.length_nil]
                omega
            · cases hq
    · split at hq
      · unfold atP at hq
        have one : ∀ c : Int, tkK T n a ≠ 22 → q = (nx T n a, [c]) → a + q.2.length ≤ q.1 ∧ q.1 ≤ n := fun c c1 c2 => by
          have la : a < n := tkK_22 (T := T) c1
          have := nr.2.2 la
          subst c2
          simp only [List.length_cons, List.length_nil]
          omega
        split at hq
        · rename_i ck; cases hq; exact one _ (by omega) rfl
        · split at hq
          · rename_i ck; cases hq; exact one _ (by omega) rfl
          · split at hq
            · rename_i ck; cases hq; exact one _ (by omega) rfl
            · split at hq
              · rename_i ck; cases hq; exact one _ (by omega) rfl
              · split at hq
                · rename_i ck
                  have la : a < n := tkK_22 (T := T) (by omega)
                  split at hq
                  · cases hq
                  · split at hq
                    · cases hq
                    · rename_i q' e'
                      have i := ih _ _ _ nr.2.1 q' e'
                      split at hq
                      · cases hq
                        have := nx_rng (T := T) (n := n) (a := q'.1) i.2
                        have := nr.2.2 la
                        dsimp only
                        omega
                      · cases hq
                · cases hq
      · split at hq
        · cases hq
        · rename_i q' e'
          have i := ih _ _ _ ha q' e'
          exact prL_ok (fun b hb => ih _ _ b hb) 901 q'.1 a q'.2 i.1 i.2 q hq
/-! the model while it reads -/
def MP (h : Hp) (T : Int → Int) (n a : Int) (S : Int → Int) : Prop := MX h T n ∧ MK h T n a ∧ hI h 72 11 = 0 ∧ (∀ k : Nat, hI h 76 k = S k) ∧ (0 ≤ a ∧ a ≤ n)
/-- a fault is there -/
def MF (h : Hp) (e : Int × Int) : Prop := hI h 72 11 = e.1 ∧ hI h 72 12 = e.2 ∧ (1 ≤ e.1 ∧ e.1 ≤ 4)
def pPs (a k : Nat) : Prop := a = 76 ∨ (a = 72 ∧ (k = 6 ∨ k = 7 ∨ k = 9 ∨ k = 10 ∨ k = 11 ∨ k = 12))
theorem pTk.ps {a k : Nat} (q : pTk a k) : pPs a k := by unfold pTk at q; unfold pPs; omega
theorem MX.ps {h h' : Hp} {T : Int → Int} {n : Int} (x : MX h T n) (f : Fr pPs h h') : MX h' T n := x.fr f (fun a k q => by unfold pPs at q; omega) (fun k q => by unfold pPs at q; omega) (fun q => by unfold pPs at q; omega)
theorem m_is {d : Nat} {h : Hp} {T : Int → Int} {n a k : Int} {S : Int → Int} (m : MP h T n a S) (hk : 0 ≤ k ∧ k ≤ 100) : cal (d+1) m_Mod_is [.inr (.inr (72)), .inl (k)] (h) = some (.inl (b01 (tkK T n a = k)), h) := by
  obtain ⟨x, ⟨k6, k7, k9, k10⟩, h11, rw76, ar⟩ := m
  have hm := x.1
  have kr := tkK_ok T n a
  unfold kdO at kr
  show EX (d) m_Mod_is 0 [(0, .inr (.inr (72))), (1, .inl (k))] [] (h) = _
  unfold b01
  by_cases c : tkK T n a = k
  · rw [if_pos c]
    simp (disch := omega) only [Mod_is_0, Mod_is_7, Mod_is_15, Mod_is_20, wr_id, ix_id, okx, if_pos, if_neg, Int.toNat_of_nonneg, bak_v, bak_n, wr_b01, wr_bt, b01_or, b01_0, b01_1, lc_lt0, lc_gt0, lc_eq0, wl_wr, wr_wr, wl_id, true_and, and_true, true_or, or_true, not_true_eq_false, not_false_eq_true, nc0, nc1, nc2, nc3, nc4, nc5, nc6, nc7, nc8, nc9, nc10, nc11, nc12, nc13, nc14, nc15, nc16, nc17, nc18, nc19, nc20, nc21, nc22, nc23, nc35, nc47, nc59, nc60, nc61, nc73, nc74, nc214, nc215, nc1115, nc2230, nc3345, if_true, if_false, Int.reduceToNat, hm.k, h11, k9]
  · rw [if_neg c]
    simp (disch := omega) only [Mod_is_0, Mod_is_7, Mod_is_19, Mod_is_20, wr_id, ix_id, okx, if_pos, if_neg, Int.toNat_of_nonneg, bak_v, bak_n, wr_b01, wr_bt, b01_or, b01_0, b01_1, lc_lt0, lc_gt0, lc_eq0, wl_wr, wr_wr, wl_id, true_and, and_true, true_or, or_true, not_true_eq_false, not_false_eq_true, nc0, nc1, nc2, nc3, nc4, nc5, nc6, nc7, nc8, nc9, nc10, nc11, nc12, nc13, nc14, nc15, nc16, nc17, nc18, nc19, nc20, nc21, nc22, nc23, nc35, nc47, nc59, nc60, nc61, nc73, nc74, nc214, nc215, nc1115, nc2230, nc3345, if_true, if_false, Int.reduceToNat, hm.k, h11, k9]
theorem m_isF {d : Nat} {h : Hp} {e : Int × Int} (hm : MR h) (m : MF h e) (k : Int) : cal (d+1) m_Mod_is [.inr (.inr (72)), .inl (k)] (h) = some (.inl 0, h) := by
  obtain ⟨m1, m2, m3⟩ := m
  show EX (d) m_Mod_is 0 [(0, .inr (.inr (72))), (1, .inl (k))] [] (h) = _
  simp (disch := omega) only [Mod_is_0, Mod_is_19, Mod_is_20, wr_id, ix_id, okx, if_pos, if_neg, Int.toNat_of_nonneg, bak_v, bak_n, wr_b01, wr_bt, b01_or, b01_0, b01_1, lc_lt0, lc_gt0, lc_eq0, wl_wr, wr_wr, wl_id, true_and, and_true, true_or, or_true, not_true_eq_false, not_false_eq_true, nc0, nc1, nc2, nc3, nc4, nc5, nc6, nc7, nc8, nc9, nc10, nc11, nc12, nc13, nc14, nc15, nc16, nc17, nc18, nc19, nc20, nc21, nc22, nc23, nc35, nc47, nc59, nc60, nc61, nc73, nc74, nc214, nc215, nc1115, nc2230, nc3345, if_true, if_false, Int.reduceToNat, hm.k, m1]
theorem m_nextP {d : Nat} {h : Hp} {T : Int → Int} {n a : Int} {S : Int → Int} (m : MP h T n a S) : ∃ h', cal (d+2) m_Mod_next [.inr (.inr (72))] (h) = some (.inl 0, h') ∧ MP h' T n (nx T n a) S ∧ Fr pPs h h' := by
  obtain ⟨x, ⟨k6, k7, k9, k10⟩, h11, r76, ar⟩ := m
  have er := tkE_rng (T := T) ar.2
  have nr := nx_rng (T := T) ar.2
  obtain ⟨h', e, mk, f⟩ := m_next (d := d) x k7 ⟨by omega, er.2.1⟩
  refine ⟨h', e, ⟨x.k f (fun _ _ z => z), mk, by rw [f.I (by unfold pTk; omega)]; exact h11, fun k => by rw [f.I (by unfold pTk; omega)]; exact r76 k, by omega⟩, f.mo (fun a k z => z.ps)⟩
theorem m_eats {d : Nat} {h : Hp} {T : Int → Int} {n a k : Int} {S : Int → Int} (m : MP h T n a S) (hk : 0 ≤ k ∧ k ≤ 100) (c : tkK T n a = k) : ∃ h', cal (d+3) m_Mod_eats [.inr (.inr (72)), .inl (k)] (h) = some (.inl 1, h') ∧ MP h' T n (nx T n a) S ∧ Fr pPs h h' := by
  have hm := m.1.1
  have e1 := m_is (d := d + 1) m hk
  have b1 : b01 (tkK T n a = k) = 1 := by unfold b01; rw [if_pos c]
  rw [b1] at e1
  obtain ⟨h', e2, m2, f2⟩ := m_nextP (d := d) m
  refine ⟨h', ?_, m2, f2⟩
  show EX (d+2) m_Mod_eats 0 [(0, .inr (.inr (72))), (1, .inl (k))] [] (h) = _
  simp (disch := omega) only [Mod_eats_0, Mod_eats_5, Mod_eats_10, Mod_eats_14, wr_id, ix_id, okx, if_pos, if_neg, Int.toNat_of_nonneg, bak_v, bak_n, wr_b01, wr_bt, b01_or, b01_0, b01_1, lc_lt0, lc_gt0, lc_eq0, wl_wr, wr_wr, wl_id, true_and, and_true, true_or, or_true, not_true_eq_false, not_false_eq_true, nc0, nc1, nc2, nc3, nc4, nc5, nc6, nc7, nc8, nc9, nc10, nc11, nc12, nc13, nc14, nc15, nc16, nc17, nc18, nc19, nc20, nc21, nc22, nc23, nc35, nc47, nc59, nc60, nc61, nc73, nc74, nc214, nc215, nc1115, nc2230, nc3345, if_true, if_false, Int.reduceToNat, hm.k, e1, e2]
theorem m_eatsN {d : Nat} {h : Hp} {T : Int → Int} {n a k : Int} {S : Int → Int} (m : MP h T n a S) (hk : 0 ≤ k ∧ k ≤ 100) (c : ¬ tkK T n a = k) : cal (d+3) m_Mod_eats [.inr (.inr (72)), .inl (k)] (h) = some (.inl 0, h) := by
  have hm := m.1.1
  have e1 := m_is (d := d + 1) m hk
  have b1 : b01 (tkK T n a = k) = 0 := by unfold b01; rw [if_neg c]
  rw [b1] at e1
  show EX (d+2) m_Mod_eats 0 [(0, .inr (.inr (72))), (1, .inl (k))] [] (h) = _
  simp (disch := omega) only [Mod_eats_0, Mod_eats_5, Mod_eats_8, wr_id, ix_id, okx, if_pos, if_neg, Int.toNat_of_nonneg, bak_v, bak_n, wr_b01, wr_bt, b01_or, b01_0, b01_1, lc_lt0, lc_gt0, lc_eq0, wl_wr, wr_wr, wl_id, true_and, and_true, true_or, or_true, not_true_eq_false, not_false_eq_true, nc0, nc1, nc2, nc3, nc4, nc5, nc6, nc7, nc8, nc9, nc10, nc11, nc12, nc13, nc14, nc15, nc16, nc17, nc18, nc19, nc20, nc21, nc22, nc23, nc35, nc47, nc59, nc60, nc61, nc73, nc74, nc214, nc215, nc1115, nc2230, nc3345, if_true, if_false, Int.reduceToNat, hm.k, e1]
theorem m_eatsF {d : Nat} {h : Hp} {e : Int × Int} (hm : MR h) (m : MF h e) (k : Int) : cal (d+3) m_Mod_eats [.inr (.inr (72)), .inl (k)] (h) = some (.inl 0, h) := by
  have e1 := m_isF (d := d + 1) hm m k
  show EX (d+2) m_Mod_eats 0 [(0, .inr (.inr (72))), (1, .inl (k))] [] (h) = _
  simp (disch := omega) only [Mod_eats_0, Mod_eats_5, Mod_eats_8, wr_id, ix_id, okx, if_pos, if_neg, Int.toNat_of_nonneg, bak_v, bak_n, wr_b01, wr_bt, b01_or, b01_0, b01_1, lc_lt0, lc_gt0, lc_eq0, wl_wr, wr_wr, wl_id, true_and, and_true, true_or, or_true, not_true_eq_false, not_false_eq_true, nc0, nc1, nc2, nc3, nc4, nc5, nc6, nc7, nc8, nc9, nc10, nc11, nc12, nc13, nc14, nc15, nc16, nc17, nc18, nc19, nc20, nc21, nc22, nc23, nc35, nc47, nc59, nc60, nc61, nc73, nc74, nc214, nc215, nc1115, nc2230, nc3345, if_true, if_false, Int.reduceToNat, hm.k, e1]
theorem m_fails {d : Nat} {h : Hp} {T : Int → Int} {n a f : Int} {S : Int → Int} (m : MP h T n a S) (hf : 2 ≤ f ∧ f ≤ 4) : ∃ h', cal (d+1) m_Mod_fails [.inr (.inr (72)), .inl (f)] (h) = some (.inl 0, h') ∧ MF h' (if tkK T n a = 23 then 1 else f, a) ∧ Fr pPs h h' := by
  obtain ⟨x, ⟨k6, k7, k9, k10⟩, h11, r76, ar⟩ := m
  have hm := x.1
  have kr := tkK_ok T n a
  unfold kdO at kr
  have fr : ∀ v, Fr pPs h (pI (pI h 72 11 v) 72 12 a) := fun v => Fr.pI (Fr.pI Fr.rf (by unfold pPs; omega)) (by unfold pPs; omega)
  by_cases c : tkK T n a = 23
  · rw [if_pos c]
    refine ⟨pI (pI h 72 11 1) 72 12 a, ?_, ⟨by simp [hI_pI], by simp [hI_pI], by simp⟩, fr 1⟩
    show EX (d) m_Mod_fails 0 [(0, .inr (.inr (72))), (1, .inl (f))] [] (h) = _
    simp (disch := omega) only [Mod_fails_0, Mod_fails_8, Mod_fails_18, Mod_fails_23, Mod_fails_26, Mod_fails_34, wr_id, ix_id, okx, if_pos, if_neg, Int.toNat_of_nonneg, bak_v, bak_n, wr_b01, wr_bt, b01_or, b01_0, b01_1, lc_lt0, lc_gt0, lc_eq0, wl_wr, wr_wr, wl_id, true_and, and_true, true_or, or_true, not_true_eq_false, not_false_eq_true, nc0, nc1, nc2, nc3, nc4, nc5, nc6, nc7, nc8, nc9, nc10, nc11, nc12, nc13, nc14, nc15, nc16, nc17, nc18, nc19, nc20, nc21, nc22, nc23, nc35, nc47, nc59, nc60, nc61, nc73, nc74, nc214, nc215, nc1115, nc2230, nc3345, if_true, if_false, Int.reduceToNat, hm.k, h11, k9, k6, sK_pI, hI_pI]
  · rw [if_neg c]
    refine ⟨pI (pI h 72 11 f) 72 12 a, ?_, ⟨by simp [hI_pI], by simp [hI_pI], by dsimp only; omega⟩, fr f⟩
    show EX (d) m_Mod_fails 0 [(0, .inr (.inr (72))), (1, .inl (f))] [] (h) = _
    simp (disch := omega) only [Mod_fails_0, Mod_fails_8, Mod_fails_22, Mod_fails_23, Mod_fails_26, Mod_fails_34, wr_id, ix_id, okx, if_pos, if_neg, Int.toNat_of_nonneg, bak_v, bak_n, wr_b01, wr_bt, b01_or, b01_0, b01_1, lc_lt0, lc_gt0, lc_eq0, wl_wr, wr_wr, wl_id, true_and, and_true, true_or, or_true, not_true_eq_false, not_false_eq_true, nc0, nc1, nc2, nc3, nc4, nc5, nc6, nc7, nc8, nc9, nc10, nc11, nc12, nc13, nc14, nc15, nc16, nc17, nc18, nc19, nc20, nc21, nc22, nc23, nc35, nc47, nc59, nc60, nc61, nc73, nc74, nc214, nc215, nc1115, nc2230, nc3345, if_true, if_false, Int.reduceToNat, hm.k, h11, k9, k6, sK_pI, hI_pI]
theorem m_failsF {d : Nat} {h : Hp} {e : Int × Int} (hm : MR h) (m : MF h e) (k : Int) : cal (d+1) m_Mod_fails [.inr (.inr (72)), .inl (k)] (h) = some (.inl 0, h) := by
  obtain ⟨m1, m2, m3⟩ := m
  show EX (d) m_Mod_fails 0 [(0, .inr (.inr (72))), (1, .inl (k))] [] (h) = _
  simp (disch := omega) only [Mod_fails_0, Mod_fails_7, wr_id, ix_id, okx, if_pos, if_neg, Int.toNat_of_nonneg, bak_v, bak_n, wr_b01, wr_bt, b01_or, b01_0, b01_1, lc_lt0, lc_gt0, lc_eq0, wl_wr, wr_wr, wl_id, true_and, and_true, true_or, or_true, not_true_eq_false, not_false_eq_true, nc0, nc1, nc2, nc3, nc4, nc5, nc6, nc7, nc8, nc9, nc10, nc11, nc12, nc13, nc14, nc15, nc16, nc17, nc18, nc19, nc20, nc21, nc22, nc23, nc35, nc47, nc59, nc60, nc61, nc73, nc74, nc214, nc215, nc1115, nc2230, nc3345, if_true, if_false, Int.reduceToNat, hm.k, m1]
theorem MP.row {h : Hp} {T : Int → Int} {n a : Int} {S : Int → Int} (m : MP h T n a S) {z v : Int} (hz : 0 ≤ z) : MP (pI h 76 z.toNat v) T n a (up S z v) := by
  obtain ⟨x, ⟨k6, k7, k9, k10⟩, h11, r76, ar⟩ := m
  have f : Fr pPs h (pI h 76 z.toNat v) := Fr.pI Fr.rf (Or.inl rfl)
  refine ⟨x.ps f, ⟨by rw [hI_pI, if_neg (by omega)]; exact k6, by rw [hI_pI, if_neg (by omega)]; exact k7, by rw [hI_pI, if_neg (by omega)]; exact k9, fun q => by rw [hI_pI, if_neg (by omega)]; exact k10 q⟩, by rw [hI_pI, if_neg (by omega)]; exact h11, up_row r76 hz, ar⟩
theorem MP.rng {h : Hp} {T : Int → Int} {n a : Int} {S : Int → Int} (m : MP h T n a S) : 0 ≤ a ∧ a ≤ n ∧ n ≤ 900 := ⟨m.2.2.2.2.1, m.2.2.2.2.2, m.1.2.2.2.2.2.2⟩
theorem m_codes {d : Nat} {h : Hp} {T : Int → Int} {n a : Int} {S : Int → Int} (m : MP h T n a S) (h0 : 0 ≤ S 214 ∧ S 214 ≤ 899) (c : Int) : ∃ h', cal (d+1) m_Mod_codes [.inr (.inr (72)), .inl (c)] (h) = some (.inl 0, h') ∧ MP h' T n a (emC S c) ∧ Fr pPs h h' := by
  have m1 := m.row (z := 215 + S 214) (v := c) (by omega)
  have m2 := m1.row (z := 214) (v := S 214 + 1) (by omega)
  have hm := m.1.1
  have r76 := m.2.2.2.1
  have h11 := m.2.2.1
  have e1 : hI h 76 214 = S 214 := r76 214
  have e2 : hI (pI h 76 (215 + S 214).toNat c) 76 214 = S 214 := by rw [hI_pI, if_neg (by omega)]; exact e1
  refine ⟨_, ?_, m2, Fr.pI (Fr.pI Fr.rf (Or.inl rfl)) (Or.inl rfl)⟩
  show EX (d) m_Mod_codes 0 [(0, .inr (.inr (72))), (1, .inl (c))] [] (h) = _
  simp (disch := omega) only [Mod_codes_0, Mod_codes_8, wr_id, ix_id, okx, if_pos, if_neg, Int.toNat_of_nonneg, bak_v, bak_n, wr_b01, wr_bt, b01_or, b01_0, b01_1, lc_lt0, lc_gt0, lc_eq0, wl_wr, wr_wr, wl_id, true_and, and_true, true_or, or_true, not_true_eq_false, not_false_eq_true, nc0, nc1, nc2, nc3, nc4, nc5, nc6, nc7, nc8, nc9, nc10, nc11, nc12, nc13, nc14, nc15, nc16, nc17, nc18, nc19, nc20, nc21, nc22, nc23, nc35, nc47, nc59, nc60, nc61, nc73, nc74, nc214, nc215, nc1115, nc2230, nc3345, if_true, if_false, Int.reduceToNat, hm.k, hm.r1, hm.r2, hm.r3, hm.r4, hm.r15, hm.r16, hm.r19, hm.r23, hm.r24, hm.r25, hm.r26, hm.r29, hm.r30, hm.r31, hm.r33, hm.r34, hm.r35, hm.k73, hm.k74, hm.k75, hm.k76, hm.k77, hm.k78, hm.k79, hm.k80, hm.k81, hm.k82, hm.k83, hm.k84, hm.k85, hm.k86, hm.k87, hm.k88, hm.k89, hm.n73, hm.n74, hm.n75, hm.n76, hm.n77, hm.n78, hm.n79, hm.n80, hm.n81, hm.n82, hm.n83, hm.n84, hm.n85, hm.n86, hm.n87, hm.n88, hm.n89, h11, e1]
  simp (disch := omega) only [Mod_codes_26, Mod_codes_38, wr_id, ix_id, okx, if_pos, if_neg, Int.toNat_of_nonneg, bak_v, bak_n, wr_b01, wr_bt, b01_or, b01_0, b01_1, lc_lt0, lc_gt0, lc_eq0, wl_wr, wr_wr, wl_id, true_and, and_true, true_or, or_true, not_true_eq_false, not_false_eq_true, nc0, nc1, nc2, nc3, nc4, nc5, nc6, nc7, nc8, nc9, nc10, nc11, nc12, nc13, nc14, nc15, nc16, nc17, nc18, nc19, nc20, nc21, nc22, nc23, nc35, nc47, nc59, nc60, nc61, nc73, nc74, nc214, nc215, nc1115, nc2230, nc3345, if_true, if_false, Int.reduceToNat, sK_pI, sN_pI, hR_pI, hm.k, hm.r1, hm.r2, hm.r3, hm.r4, hm.r15, hm.r16, hm.r19, hm.r23, hm.r24, hm.r25, hm.r26, hm.r29, hm.r30, hm.r31, hm.r33, hm.r34, hm.r35, hm.k73, hm.k74, hm.k75, hm.k76, hm.k77, hm.k78, hm.k79, hm.k80, hm.k81, hm.k82, hm.k83, hm.k84, hm.k85, hm.k86, hm.k87, hm.k88, hm.k89, hm.n73, hm.n74, hm.n75, hm.n76, hm.n77, hm.n78, hm.n79, hm.n80, hm.n81, hm.n82, hm.n83, hm.n84, hm.n85, hm.n86, hm.n87, hm.n88, hm.n89, e2]
theorem m_codesF {d : Nat} {h : Hp} {e : Int × Int} (hm : MR h) (m : MF h e) (c : Int) : cal (d+1) m_Mod_codes [.inr (.inr (72)), .inl (c)] (h) = some (.inl 0, h) := by
  obtain ⟨m1, m2, m3⟩ := m
  show EX (d) m_Mod_codes 0 [(0, .inr (.inr (72))), (1, .inl (c))] [] (h) = _
  simp (disch := omega) only [Mod_codes_0, Mod_codes_7, wr_id, ix_id, okx, if_pos, if_neg, Int.toNat_of_nonneg, bak_v, bak_n, wr_b01, wr_bt, b01_or, b01_0, b01_1, lc_lt0, lc_gt0, lc_eq0, wl_wr, wr_wr, wl_id, true_and, and_true, true_or, or_true, not_true_eq_false, not_false_eq_true, nc0, nc1, nc2, nc3, nc4, nc5, nc6, nc7, nc8, nc9, nc10, nc11, nc12, nc13, nc14, nc15, nc16, nc17, nc18, nc19, nc20, nc21, nc22, nc23, nc35, nc47, nc59, nc60, nc61, nc73, nc74, nc214, nc215, nc1115, nc2230, nc3345, if_true, if_false, Int.reduceToNat, hm.k, m1]
theorem m_goesIn {d : Nat} {h : Hp} {T : Int → Int} {n a dp : Int} {S : Int → Int} (m : MP h T n a S) (hd : 0 ≤ dp ∧ dp < 6) : ∃ h', cal (d+3) m_Mod_goesIn [.inr (.inr (72)), .inl (dp)] (h) = some (.inl 1, h') ∧ MP h' T n (nx T n a) S ∧ Fr pPs h h' := by
  have hm := m.1.1
  have h11 := m.2.2.1
  obtain ⟨h', e2, m2, f2⟩ := m_nextP (d := d) m
  have hm2 := m2.1.1
  have h112 := m2.2.2.1
  refine ⟨h', ?_, m2, f2⟩
  show EX (d+2) m_Mod_goesIn 0 [(0, .inr (.inr (72))), (1, .inl (dp))] [] (h) = _
  simp (disch := omega) only [Mod_goesIn_0, Mod_goesIn_11, Mod_goesIn_18, wr_id, ix_id, okx, if_pos, if_neg, Int.toNat_of_nonneg, bak_v, bak_n, wr_b01, wr_bt, b01_or, b01_0, b01_1, lc_lt0, lc_gt0, lc_eq0, wl_wr, wr_wr, wl_id, true_and, and_true, true_or, or_true, not_true_eq_false, not_false_eq_true, nc0, nc1, nc2, nc3, nc4, nc5, nc6, nc7, nc8, nc9, nc10, nc11, nc12, nc13, nc14, nc15, nc16, nc17, nc18, nc19, nc20, nc21, nc22, nc23, nc35, nc47, nc59, nc60, nc61, nc73, nc74, nc214, nc215, nc1115, nc2230, nc3345, if_true, if_false, Int.reduceToNat, hm.k, h11, e2]
  simp (disch := omega) only [Mod_goesIn_22, Mod_goesIn_29, Mod_goesIn_34, wr_id, ix_id, okx, if_pos, if_neg, Int.toNat_of_nonneg, bak_v, bak_n, wr_b01, wr_bt, b01_or, b01_0, b01_1, lc_lt0, lc_gt0, lc_eq0, wl_wr, wr_wr, wl_id, true_and, and_true, true_or, or_true, not_true_eq_false, not_false_eq_true, nc0, nc1, nc2, nc3, nc4, nc5, nc6, nc7, nc8, nc9, nc10, nc11, nc12, nc13, nc14, nc15, nc16, nc17, nc18, nc19, nc20, nc21, nc22, nc23, nc35, nc47, nc59, nc60, nc61, nc73, nc74, nc214, nc215, nc1115, nc2230, nc3345, if_true, if_false, Int.reduceToNat, hm2.k, h112]
theorem m_goesInN {d : Nat} {h : Hp} {T : Int → Int} {n a : Int} {S : Int → Int} (m : MP h T n a S) (hk : ¬ tkK T n a = 23) : ∃ h', cal (d+3) m_Mod_goesIn [.inr (.inr (72)), .inl (6)] (h) = some (.inl 0, h') ∧ MF h' (4, a) ∧ Fr pPs h h' := by
  have hm := m.1.1
  obtain ⟨h', e2, m2, f2⟩ := m_fails (d := d + 1) m (f := 4) (by omega)
  rw [if_neg hk] at m2
  have hm2 := (m.1.ps f2).1
  obtain ⟨m1, -, m3⟩ := id m2
  refine ⟨h', ?_, m2, f2⟩
  show EX (d+2) m_Mod_goesIn 0 [(0, .inr (.inr (72))), (1, .inl (6))] [] (h) = _
  simp (disch := omega) only [Mod_goesIn_0, Mod_goesIn_6, wr_id, ix_id, okx, if_pos, if_neg, Int.toNat_of_nonneg, bak_v, bak_n, wr_b01, wr_bt, b01_or, b01_0, b01_1, lc_lt0, lc_gt0, lc_eq0, wl_wr, wr_wr, wl_id, true_and, and_true, true_or, or_true, not_true_eq_false, not_false_eq_true, nc0, nc1, nc2, nc3, nc4, nc5, nc6, nc7, nc8, nc9, nc10, nc11, nc12, nc13, nc14, nc15, nc16, nc17, nc18, nc19, nc20, nc21, nc22, nc23, nc35, nc47, nc59, nc60, nc61, nc73, nc74, nc214, nc215, nc1115, nc2230, nc3345, if_true, if_false, Int.reduceToNat, hm.k, e2]
  simp (disch := omega) only [Mod_goesIn_11, Mod_goesIn_22, Mod_goesIn_33, Mod_goesIn_34, wr_id, ix_id, okx, if_pos, if_neg, Int.toNat_of_nonneg, bak_v, bak_n, wr_b01, wr_bt, b01_or, b01_0, b01_1, lc_lt0, lc_gt0, lc_eq0, wl_wr, wr_wr, wl_id, true_and, and_true, true_or, or_true, not_true_eq_false, not_false_eq_true, nc0, nc1, nc2, nc3, nc4, nc5, nc6, nc7, nc8, nc9, nc10, nc11, nc12, nc13, nc14, nc15, nc16, nc17, nc18, nc19, nc20, nc21, nc22, nc23, nc35, nc47, nc59, nc60, nc61, nc73, nc74, nc214, nc215, nc1115, nc2230, nc3345, if_true, if_false, Int.reduceToNat, hm2.k, m1]
/-- a number within bounds -/
def tak (T : Int → Int) (n lo hi a : Int) : (Int × Int) ⊕ (Int × Int) := if tkK T n a = 21 then (if lo ≤ tkN T n a ∧ tkN T n a ≤ hi then .inr (nx T n a, tkN T n a) else .inl (3, a)) else .inl (bd2 T n a)
theorem m_takes {d : Nat} {h : Hp} {T : Int → Int} {n a lo hi : Int} {S : Int → Int} (m : MP h T n a S) (hl : -1 ≤ lo ∧ lo ≤ 1000) (hh : -1 ≤ hi ∧ hi ≤ 1000) {a' v : Int} (q : tak T n lo hi a = .inr (a', v)) : ∃ h', cal (d+3) m_Mod_takes [.inr (.inr (72)), .inl (lo), .inl (hi)] (h) = some (.inl v, h') ∧ MP h' T n a' S ∧ Fr pPs h h' := by
  have hm := m.1.1
  have h11 := m.2.2.1
  unfold tak at q
  split at q
  · rename_i c1
    split at q
    · rename_i c2
      cases q
      have k10 := m.2.1.2.2.2 c1
      have nr := tkN_rng (T := T) m.rng.2.1
      have e1 := m_is (d := d + 1) m (k := 21) (by omega)
      have b1 : b01 (tkK T n a = 21) = 1 := by unfold b01; rw [if_pos c1]
      rw [b1] at e1
      obtain ⟨h', e2, m2, f2⟩ := m_nextP (d := d) m
      have b2 : b01 (lo ≤ tkN T n a ∧ tkN T n a ≤ hi) = 1 := by unfold b01; rw [if_pos c2]
      refine ⟨h', ?_, m2, f2⟩
      show EX (d+2) m_Mod_takes 0 [(0, .inr (.inr (72))), (1, .inl (lo)), (2, .inl (hi))] [] (h) = _
      simp (disch := omega) only [Mod_takes_0, Mod_takes_6, Mod_takes_17, Mod_takes_29, Mod_takes_37, Mod_takes_49, Mod_takes_53, wr_id, ix_id, okx, if_pos, if_neg, Int.toNat_of_nonneg, bak_v, bak_n, wr_b01, wr_bt, b01_or, b01_0, b01_1, lc_lt0, lc_gt0, lc_eq0, wl_wr, wr_wr, wl_id, true_and, and_true, true_or, or_true, not_true_eq_false, not_false_eq_true, nc0, nc1, nc2, nc3, nc4, nc5, nc6, nc7, nc8, nc9, nc10, nc11, nc12, nc13, nc14, nc15, nc16, nc17, nc18, nc19, nc20, nc21, nc22, nc23, nc35, nc47, nc59, nc60, nc61, nc73, nc74, nc214, nc215, nc1115, nc2230, nc3345, if_true, if_false, Int.reduceToNat, hm.k, h11, k10, e1, m_within, b2, e2]
    · cases q
  · cases q
theorem m_takesN {d : Nat} {h : Hp} {T : Int → Int} {n a lo hi : Int} {S : Int → Int} (m : MP h T n a S) (hl : -1 ≤ lo ∧ lo ≤ 1000) (hh : -1 ≤ hi ∧ hi ≤ 1000) {e : Int × Int} (q : tak T n lo hi a = .inl e) : ∃ h' v, cal (d+3) m_Mod_takes [.inr (.inr (72)), .inl (lo), .inl (hi)] (h) = some (.inl v, h') ∧ MF h' e ∧ Fr pPs h h' := by
  have hm := m.1.1
  have h11 := m.2.2.1
  have e1 := m_is (d := d + 1) m (k := 21) (by omega)
  unfold tak at q
  split at q
  · rename_i c1
    split at q
    · cases q
    · rename_i c2
      cases q
      have k10 := m.2.1.2.2.2 c1
      have nr := tkN_rng (T := T) m.rng.2.1
      have b1 : b01 (tkK T n a = 21) = 1 := by unfold b01; rw [if_pos c1]
      rw [b1] at e1
      have b2 : b01 (lo ≤ tkN T n a ∧ tkN T n a ≤ hi) = 0 := by unfold b01; rw [if_neg c2]
      obtain ⟨h', e2, m2, f2⟩ := m_fails (d := d + 1) m (f := 3) (by omega)
      rw [if_neg (by omega)] at m2
      have hm2 := (m.1.ps f2).1
      obtain ⟨w1, -, w3⟩ := id m2
      dsimp only at w1 w3
      refine ⟨h', hI h' 72 10, ?_, m2, f2⟩
      show EX (d+2) m_Mod_takes 0 [(0, .inr (.inr (72))), (1, .inl (lo)), (2, .inl (hi))] [] (h) = _
      simp (disch := omega) only [Mod_takes_0, Mod_takes_6, Mod_takes_17, Mod_takes_29, Mod_takes_32, wr_id, ix_id, okx, if_pos, if_neg, Int.toNat_of_nonneg, bak_v, bak_n, wr_b01, wr_bt, b01_or, b01_0, b01_1, lc_lt0, lc_gt0, lc_eq0, wl_wr, wr_wr, wl_id, true_and, and_true, true_or, or_true, not_true_eq_false, not_false_eq_true, nc0, nc1, nc2, nc3, nc4, nc5, nc6, nc7, nc8, nc9, nc10, nc11, nc12, nc13, nc14, nc15, nc16, nc17, nc18, nc19, nc20, nc21, nc22, nc23, nc35, nc47, nc59, nc60, nc61, nc73, nc74, nc214, nc215, nc1115, nc2230, nc3345, if_true, if_false, Int.reduceToNat, hm.k, h11, k10, e1, m_within, b2, e2]
      simp (disch := omega) only [Mod_takes_37, Mod_takes_53, wr_id, ix_id, okx, if_pos, if_neg, Int.toNat_of_nonneg, bak_v, bak_n, wr_b01, wr_bt, b01_or, b01_0, b01_1, lc_lt0, lc_gt0, lc_eq0, wl_wr, wr_wr, wl_id, true_and, and_true, true_or, or_true, not_true_eq_false, not_false_eq_true, nc0, nc1, nc2, nc3, nc4, nc5, nc6, nc7, nc8, nc9, nc10, nc11, nc12, nc13, nc14, nc15, nc16, nc17, nc18, nc19, nc20, nc21, nc22, nc23, nc35, nc47, nc59, nc60, nc61, nc73, nc74, nc214, nc215, nc1115, nc2230, nc3345, if_true, if_false, Int.reduceToNat, hm2.k, w1]
  · rename_i c1
    cases q
    have b1 : b01 (tkK T n a = 21) = 0 := by unfold b01; rw [if_neg c1]
    rw [b1] at e1
    obtain ⟨h', e2, m2, f2⟩ := m_fails (d := d + 1) m (f := 2) (by omega)
    have hm2 := (m.1.ps f2).1
    obtain ⟨w1, -, w3⟩ := id m2
    dsimp only at w1 w3
    refine ⟨h', hI h' 72 10, ?_, m2, f2⟩
    show EX (d+2) m_Mod_takes 0 [(0, .inr (.inr (72))), (1, .inl (lo)), (2, .inl (hi))] [] (h) = _
    simp (disch := omega) only [Mod_takes_0, Mod_takes_6, Mod_takes_9, Mod_takes_14, wr_id, ix_id, okx, if_pos, if_neg, Int.toNat_of_nonneg, bak_v, bak_n, wr_b01, wr_bt, b01_or, b01_0, b01_1, lc_lt0, lc_gt0, lc_eq0, wl_wr, wr_wr, wl_id, true_and, and_true, true_or, or_true, not_true_eq_false, not_false_eq_true, nc0, nc1, nc2, nc3, nc4, nc5, nc6, nc7, nc8, nc9, nc10, nc11, nc12, nc13, nc14, nc15, nc16, nc17, nc18, nc19, nc20, nc21, nc22, nc23, nc35, nc47, nc59, nc60, nc61, nc73, nc74, nc214, nc215, nc1115, nc2230, nc3345, if_true, if_false, Int.reduceToNat, hm.k, e1, e2]
    simp (disch := omega) only [Mod_takes_37, Mod_takes_53, wr_id, ix_id, okx, if_pos, if_neg, Int.toNat_of_nonneg, bak_v, bak_n, wr_b01, wr_bt, b01_or, b01_0, b01_1, lc_lt0, lc_gt0, lc_eq0, wl_wr, wr_wr, wl_id, true_and, and_true, true_or, or_true, not_true_eq_false, not_false_eq_true, nc0, nc1, nc2, nc3, nc4, nc5, nc6, nc7, nc8, nc9, nc10, nc11, nc12, nc13, nc14, nc15, nc16, nc17, nc18, nc19, nc20, nc21, nc22, nc23, nc35, nc47, nc59, nc60, nc61, nc73, nc74, nc214, nc215, nc1115, nc2230, nc3345, if_true, if_false, Int.reduceToNat, hm2.k, w1]
theorem m_takesF {d : Nat} {h : Hp} {e : Int × Int} (hm : MR h) (m : MF h e) (lo hi : Int) : cal (d+3) m_Mod_takes [.inr (.inr (72)), .inl (lo), .inl (hi)] (h) = some (.inl (hI h 72 10), h) := by
  have e1 := m_isF (d := d + 1) hm m 21
  have e2 := m_failsF (d := d + 1) hm m 2
  obtain ⟨m1, m2, m3⟩ := m
  show EX (d+2) m_Mod_takes 0 [(0, .inr (.inr (72))), (1, .inl (lo)), (2, .inl (hi))] [] (h) = _
  simp (disch := omega) only [Mod_takes_0, Mod_takes_6, Mod_takes_9, Mod_takes_14, Mod_takes_37, Mod_takes_53, wr_id, ix_id, okx, if_pos, if_neg, Int.toNat_of_nonneg, bak_v, bak_n, wr_b01, wr_bt, b01_or, b01_0, b01_1, lc_lt0, lc_gt0, lc_eq0, wl_wr, wr_wr, wl_id, true_and, and_true, true_or, or_true, not_true_eq_false, not_false_eq_true, nc0, nc1, nc2, nc3, nc4, nc5, nc6, nc7, nc8, nc9, nc10, nc11, nc12, nc13, nc14, nc15, nc16, nc17, nc18, nc19, nc20, nc21, nc22, nc23, nc35, nc47, nc59, nc60, nc61, nc73, nc74, nc214, nc215, nc1115, nc2230, nc3345, if_true, if_false, Int.reduceToNat, hm.k, m1, e1, e2]
