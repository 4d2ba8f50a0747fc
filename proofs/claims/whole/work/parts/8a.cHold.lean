/-! the class: a law holds -/
theorem c_kept {d : Nat} {h : Hp} {v : Int} (hv : -2000000000000 ≤ v ∧ v ≤ 2000000000000) : cal (d+2) m_Law_kept [.inr (.inl (v))] (h) = some (.inl (kp v), h) := by
  show EX (d+1) m_Law_kept 0 [(0, .inr (.inl (v)))] [] (h) = _
  have e1 : cal (d+1) m_Math_min_JJ [.inr (.inl (1000000)), .inr (.inl (v))] (h) = some (.inr (.inl (if v < 1000000 then v else 1000000)), h) := by
    show EX (d) m_Math_min_JJ 0 [(0, .inr (.inl (1000000))), (2, .inr (.inl (v)))] [] (h) = _
    by_cases c : v < 1000000
    · simp (disch := omega) only [Math_min_JJ_0, Math_min_JJ_10, Math_min_JJ_11, wr_id, ix_id, okx, if_pos, if_neg, Int.toNat_of_nonneg, bak_v, bak_n, wr_b01, wr_bt, b01_or, b01_0, b01_1, lc_lt0, lc_gt0, lc_eq0, wl_wr, wr_wr, wl_id, true_and, and_true, true_or, or_true, not_true_eq_false, not_false_eq_true, nc0, nc1, nc2, nc3, nc4, nc5, nc6, nc7, nc8, nc9, nc10, nc11, nc12, nc13, nc14, nc15, nc16, nc17, nc18, nc19, nc20, nc21, nc22, nc23, nc35, nc47, nc59, nc60, nc61, nc73, nc74, nc214, nc215, nc1115, nc2230, nc3345, if_true, if_false, Int.reduceToNat]
    · simp (disch := omega) only [Math_min_JJ_0, Math_min_JJ_6, Math_min_JJ_11, wr_id, ix_id, okx, if_pos, if_neg, Int.toNat_of_nonneg, bak_v, bak_n, wr_b01, wr_bt, b01_or, b01_0, b01_1, lc_lt0, lc_gt0, lc_eq0, wl_wr, wr_wr, wl_id, true_and, and_true, true_or, or_true, not_true_eq_false, not_false_eq_true, nc0, nc1, nc2, nc3, nc4, nc5, nc6, nc7, nc8, nc9, nc10, nc11, nc12, nc13, nc14, nc15, nc16, nc17, nc18, nc19, nc20, nc21, nc22, nc23, nc35, nc47, nc59, nc60, nc61, nc73, nc74, nc214, nc215, nc1115, nc2230, nc3345, if_true, if_false, Int.reduceToNat]
  have e2 : ∀ z, -2000000000000 ≤ z → z ≤ 2000000000000 → cal (d+1) m_Math_max_JJ [.inr (.inl (-1000000)), .inr (.inl (z))] (h) = some (.inr (.inl (if -1000000 < z then z else -1000000)), h) := fun z z0 z1 => by
    show EX (d) m_Math_max_JJ 0 [(0, .inr (.inl (-1000000))), (2, .inr (.inl (z)))] [] (h) = _
    by_cases c : -1000000 < z
    · simp (disch := omega) only [Math_max_JJ_0, Math_max_JJ_10, Math_max_JJ_11, wr_id, ix_id, okx, if_pos, if_neg, Int.toNat_of_nonneg, bak_v, bak_n, wr_b01, wr_bt, b01_or, b01_0, b01_1, lc_lt0, lc_gt0, lc_eq0, wl_wr, wr_wr, wl_id, true_and, and_true, true_or, or_true, not_true_eq_false, not_false_eq_true, nc0, nc1, nc2, nc3, nc4, nc5, nc6, nc7, nc8, nc9, nc10, nc11, nc12, nc13, nc14, nc15, nc16, nc17, nc18, nc19, nc20, nc21, nc22, nc23, nc35, nc47, nc59, nc60, nc61, nc73, nc74, nc214, nc215, nc1115, nc2230, nc3345, if_true, if_false, Int.reduceToNat]
    · simp (disch := omega) only [Math_max_JJ_0, Math_max_JJ_6, Math_max_JJ_11, wr_id, ix_id, okx, if_pos, if_neg, Int.toNat_of_nonneg, bak_v, bak_n, wr_b01, wr_bt, b01_or, b01_0, b01_1, lc_lt0, lc_gt0, lc_eq0, wl_wr, wr_wr, wl_id, true_and, and_true, true_or, or_true, not_true_eq_false, not_false_eq_true, nc0, nc1, nc2, nc3, nc4, nc5, nc6, nc7, nc8, nc9, nc10, nc11, nc12, nc13, nc14, nc15, nc16, nc17, nc18, nc19, nc20, nc21, nc22, nc23, nc35, nc47, nc59, nc60, nc61, nc73, nc74, nc214, nc215, nc1115, nc2230, nc3345, if_true, if_false, Int.reduceToNat]
  have ek : (if -1000000 < (if v < 1000000 then v else 1000000) then (if v < 1000000 then v else 1000000) else -1000000) = kp v := by
    unfold kp
    repeat' split
    all_goals omega
  have e3 := e2 (if v < 1000000 then v else 1000000) (by split <;> omega) (by split <;> omega)
  rw [ek] at e3
  rw [Law_kept_0, e1]
  simp only [bak_v, Law_kept_10, e3, Law_kept_13]
def tb2 (c : Int) (b1 b2 : Bool) : Prop := (c = 3006 ∨ c = 3007) → b1 = true ∧ b2 = true
theorem tys_tb {c : Int} {b1 b2 : Bool} {r t' : List Bool} (hs : tys c (b1 :: b2 :: r) = some t') : tb2 c b1 b2 := by
  intro hc
  unfold tys at hs
  rw [if_neg (by omega), if_neg (by omega), if_neg (by omega), if_neg (by omega), if_pos hc] at hs
  cases b1 <;> cases b2 <;> simp_all
theorem c_comb {d : Nat} {h : Hp} {c a b : Int} (hc : 3000 ≤ c ∧ c ≤ 3007) (ha : -1000000 ≤ a ∧ a ≤ 1000000) (hb : -1000000 ≤ b ∧ b ≤ 1000000) (hab : c = 3006 ∨ c = 3007 → (a = 0 ∨ a = 1) ∧ (b = 0 ∨ b = 1)) : cal (d+3) m_Law_combine [.inl (ccd c), .inl (a), .inl (b)] (h) = some (.inl (op2 c a b), h) := by
  have hm := mul_rng ha hb
  have : c = 3000 ∨ c = 3001 ∨ c = 3002 ∨ c = 3003 ∨ c = 3004 ∨ c = 3005 ∨ c = 3006 ∨ c = 3007 := by omega
  rcases this with e | e | e | e | e | e | e | e <;> subst e
  · rw [show ccd 3000 = 43 by decide, show op2 3000 a b = kp (a + b) by simp [op2]]
    show EX (d+2) m_Law_combine 0 [(0, .inl (43)), (1, .inl (a)), (2, .inl (b))] [] (h) = _
    simp (disch := omega) only [Law_combine_0, Law_combine_68, Law_combine_76, wr_id, ix_id, okx, if_pos, if_neg, Int.toNat_of_nonneg, bak_v, bak_n, wr_b01, wr_bt, b01_or, b01_0, b01_1, lc_lt0, lc_gt0, lc_eq0, wl_wr, wr_wr, wl_id, true_and, and_true, true_or, or_true, not_true_eq_false, not_false_eq_true, nc0, nc1, nc2, nc3, nc4, nc5, nc6, nc7, nc8, nc9, nc10, nc11, nc12, nc13, nc14, nc15, nc16, nc17, nc18, nc19, nc20, nc21, nc22, nc23, nc35, nc47, nc59, nc60, nc61, nc73, nc74, nc214, nc215, nc1115, nc2230, nc3345, if_true, if_false, Int.reduceToNat, c_kept]
  · rw [show ccd 3001 = 45 by decide, show op2 3001 a b = kp (a - b) by simp [op2]]
    show EX (d+2) m_Law_combine 0 [(0, .inl (45)), (1, .inl (a)), (2, .inl (b))] [] (h) = _
    simp (disch := omega) only [Law_combine_0, Law_combine_77, Law_combine_85, wr_id, ix_id, okx, if_pos, if_neg, Int.toNat_of_nonneg, bak_v, bak_n, wr_b01, wr_bt, b01_or, b01_0, b01_1, lc_lt0, lc_gt0, lc_eq0, wl_wr, wr_wr, wl_id, true_and, and_true, true_or, or_true, not_true_eq_false, not_false_eq_true, nc0, nc1, nc2, nc3, nc4, nc5, nc6, nc7, nc8, nc9, nc10, nc11, nc12, nc13, nc14, nc15, nc16, nc17, nc18, nc19, nc20, nc21, nc22, nc23, nc35, nc47, nc59, nc60, nc61, nc73, nc74, nc214, nc215, nc1115, nc2230, nc3345, if_true, if_false, Int.reduceToNat, c_kept]
  · rw [show ccd 3002 = 42 by decide, show op2 3002 a b = kp (a * b) by simp [op2]]
    show EX (d+2) m_Law_combine 0 [(0, .inl (42)), (1, .inl (a)), (2, .inl (b))] [] (h) = _
    simp (disch := omega) only [Law_combine_0, Law_combine_86, Law_combine_94, wr_id, ix_id, okx, if_pos, if_neg, Int.toNat_of_nonneg, bak_v, bak_n, wr_b01, wr_bt, b01_or, b01_0, b01_1, lc_lt0, lc_gt0, lc_eq0, wl_wr, wr_wr, wl_id, true_and, and_true, true_or, or_true, not_true_eq_false, not_false_eq_true, nc0, nc1, nc2, nc3, nc4, nc5, nc6, nc7, nc8, nc9, nc10, nc11, nc12, nc13, nc14, nc15, nc16, nc17, nc18, nc19, nc20, nc21, nc22, nc23, nc35, nc47, nc59, nc60, nc61, nc73, nc74, nc214, nc215, nc1115, nc2230, nc3345, if_true, if_false, Int.reduceToNat, c_kept]
  · rw [show ccd 3003 = 61 by decide, show op2 3003 a b = b01 (a = b) by simp [op2]]
    show EX (d+2) m_Law_combine 0 [(0, .inl (61)), (1, .inl (a)), (2, .inl (b))] [] (h) = _
    unfold b01
    by_cases c : a = b
    · rw [if_pos c]; simp (disch := omega) only [Law_combine_0, Law_combine_95, Law_combine_100, Law_combine_105, wr_id, ix_id, okx, if_pos, if_neg, Int.toNat_of_nonneg, bak_v, bak_n, wr_b01, wr_bt, b01_or, b01_0, b01_1, lc_lt0, lc_gt0, lc_eq0, wl_wr, wr_wr, wl_id, true_and, and_true, true_or, or_true, not_true_eq_false, not_false_eq_true, nc0, nc1, nc2, nc3, nc4, nc5, nc6, nc7, nc8, nc9, nc10, nc11, nc12, nc13, nc14, nc15, nc16, nc17, nc18, nc19, nc20, nc21, nc22, nc23, nc35, nc47, nc59, nc60, nc61, nc73, nc74, nc214, nc215, nc1115, nc2230, nc3345, if_true, if_false, Int.reduceToNat]
    · rw [if_neg c]; simp (disch := omega) only [Law_combine_0, Law_combine_95, Law_combine_104, Law_combine_105, wr_id, ix_id, okx, if_pos, if_neg, Int.toNat_of_nonneg, bak_v, bak_n, wr_b01, wr_bt, b01_or, b01_0, b01_1, lc_lt0, lc_gt0, lc_eq0, wl_wr, wr_wr, wl_id, true_and, and_true, true_or, or_true, not_true_eq_false, not_false_eq_true, nc0, nc1, nc2, nc3, nc4, nc5, nc6, nc7, nc8, nc9, nc10, nc11, nc12, nc13, nc14, nc15, nc16, nc17, nc18, nc19, nc20, nc21, nc22, nc23, nc35, nc47, nc59, nc60, nc61, nc73, nc74, nc214, nc215, nc1115, nc2230, nc3345, if_true, if_false, Int.reduceToNat]
  · rw [show ccd 3004 = 60 by decide, show op2 3004 a b = b01 (a < b) by simp [op2]]
    show EX (d+2) m_Law_combine 0 [(0, .inl (60)), (1, .inl (a)), (2, .inl (b))] [] (h) = _
    unfold b01
    by_cases c : a < b
    · rw [if_pos c]; simp (disch := omega) only [Law_combine_0, Law_combine_106, Law_combine_111, Law_combine_116, wr_id, ix_id, okx, if_pos, if_neg, Int.toNat_of_nonneg, bak_v, bak_n, wr_b01, wr_bt, b01_or, b01_0, b01_1, lc_lt0, lc_gt0, lc_eq0, wl_wr, wr_wr, wl_id, true_and, and_true, true_or, or_true, not_true_eq_false, not_false_eq_true, nc0, nc1, nc2, nc3, nc4, nc5, nc6, nc7, nc8, nc9, nc10, nc11, nc12, nc13, nc14, nc15, nc16, nc17, nc18, nc19, nc20, nc21, nc22, nc23, nc35, nc47, nc59, nc60, nc61, nc73, nc74, nc214, nc215, nc1115, nc2230, nc3345, if_true, if_false, Int.reduceToNat]
    · rw [if_neg c]; simp (disch := omega) only [Law_combine_0, Law_combine_106, Law_combine_115, Law_combine_116, wr_id, ix_id, okx, if_pos, if_neg, Int.toNat_of_nonneg, bak_v, bak_n, wr_b01, wr_bt, b01_or, b01_0, b01_1, lc_lt0, lc_gt0, lc_eq0, wl_wr, wr_wr, wl_id, true_and, and_true, true_or, or_true, not_true_eq_false, not_false_eq_true, nc0, nc1, nc2, nc3, nc4, nc5, nc6, nc7, nc8, nc9, nc10, nc11, nc12, nc13, nc14, nc15, nc16, nc17, nc18, nc19, nc20, nc21, nc22, nc23, nc35, nc47, nc59, nc60, nc61, nc73, nc74, nc214, nc215, nc1115, nc2230, nc3345, if_true, if_false, Int.reduceToNat]
  · rw [show ccd 3005 = 62 by decide, show op2 3005 a b = b01 (b < a) by simp [op2]]
    show EX (d+2) m_Law_combine 0 [(0, .inl (62)), (1, .inl (a)), (2, .inl (b))] [] (h) = _
    unfold b01
    by_cases c : b < a
    · rw [if_pos c]; simp (disch := omega) only [Law_combine_0, Law_combine_117, Law_combine_122, Law_combine_127, wr_id, ix_id, okx, if_pos, if_neg, Int.toNat_of_nonneg, bak_v, bak_n, wr_b01, wr_bt, b01_or, b01_0, b01_1, lc_lt0, lc_gt0, lc_eq0, wl_wr, wr_wr, wl_id, true_and, and_true, true_or, or_true, not_true_eq_false, not_false_eq_true, nc0, nc1, nc2, nc3, nc4, nc5, nc6, nc7, nc8, nc9, nc10, nc11, nc12, nc13, nc14, nc15, nc16, nc17, nc18, nc19, nc20, nc21, nc22, nc23, nc35, nc47, nc59, nc60, nc61, nc73, nc74, nc214, nc215, nc1115, nc2230, nc3345, if_true, if_false, Int.reduceToNat]
    · rw [if_neg c]; simp (disch := omega) only [Law_combine_0, Law_combine_117, Law_combine_126, Law_combine_127, wr_id, ix_id, okx, if_pos, if_neg, Int.toNat_of_nonneg, bak_v, bak_n, wr_b01, wr_bt, b01_or, b01_0, b01_1, lc_lt0, lc_gt0, lc_eq0, wl_wr, wr_wr, wl_id, true_and, and_true, true_or, or_true, not_true_eq_false, not_false_eq_true, nc0, nc1, nc2, nc3, nc4, nc5, nc6, nc7, nc8, nc9, nc10, nc11, nc12, nc13, nc14, nc15, nc16, nc17, nc18, nc19, nc20, nc21, nc22, nc23, nc35, nc47, nc59, nc60, nc61, nc73, nc74, nc214, nc215, nc1115, nc2230, nc3345, if_true, if_false, Int.reduceToNat]
  · rw [show ccd 3006 = 140 by decide, show op2 3006 a b = b01 (a + b = 2) by simp [op2]]
    show EX (d+2) m_Law_combine 0 [(0, .inl (140)), (1, .inl (a)), (2, .inl (b))] [] (h) = _
    obtain ⟨h1, h2⟩ := hab (Or.inl rfl)
    simp (disch := omega) only [Law_combine_0, Law_combine_128, wr_id, ix_id, okx, if_pos, if_neg, Int.toNat_of_nonneg, bak_v, bak_n, wr_b01, wr_bt, b01_or, b01_0, b01_1, lc_lt0, lc_gt0, lc_eq0, wl_wr, wr_wr, wl_id, true_and, and_true, true_or, or_true, not_true_eq_false, not_false_eq_true, nc0, nc1, nc2, nc3, nc4, nc5, nc6, nc7, nc8, nc9, nc10, nc11, nc12, nc13, nc14, nc15, nc16, nc17, nc18, nc19, nc20, nc21, nc22, nc23, nc35, nc47, nc59, nc60, nc61, nc73, nc74, nc214, nc215, nc1115, nc2230, nc3345, if_true, if_false, Int.reduceToNat]
    rcases h1 with e | e <;> rcases h2 with e' | e' <;> subst e <;> subst e' <;> rfl
  · rw [show ccd 3007 = 139 by decide, show op2 3007 a b = b01 (0 < a + b) by simp [op2]]
    show EX (d+2) m_Law_combine 0 [(0, .inl (139)), (1, .inl (a)), (2, .inl (b))] [] (h) = _
    obtain ⟨h1, h2⟩ := hab (Or.inr rfl)
    simp (disch := omega) only [Law_combine_0, Law_combine_132, wr_id, ix_id, okx, if_pos, if_neg, Int.toNat_of_nonneg, bak_v, bak_n, wr_b01, wr_bt, b01_or, b01_0, b01_1, lc_lt0, lc_gt0, lc_eq0, wl_wr, wr_wr, wl_id, true_and, and_true, true_or, or_true, not_true_eq_false, not_false_eq_true, nc0, nc1, nc2, nc3, nc4, nc5, nc6, nc7, nc8, nc9, nc10, nc11, nc12, nc13, nc14, nc15, nc16, nc17, nc18, nc19, nc20, nc21, nc22, nc23, nc35, nc47, nc59, nc60, nc61, nc73, nc74, nc214, nc215, nc1115, nc2230, nc3345, if_true, if_false, Int.reduceToNat]
    rcases h1 with e | e <;> rcases h2 with e' | e' <;> subst e <;> subst e' <;> rfl
def pSt (a k : Nat) : Prop := a = 13 ∨ (a = 11 ∧ k = 3)
def stk (h : Hp) (st : List Int) : Prop := hI h 11 3 = st.length ∧ StkA (fun z => hI h 13 z.toNat) st
theorem StkA.cg {R R' : Int → Int} : ∀ {st : List Int}, StkA R st → (∀ z : Int, 0 ≤ z → z < st.length → R' z = R z) → StkA R' st := by
  intro st
  induction st with
  | nil => intro _ _; trivial
  | cons a r ih =>
    intro h e
    simp only [List.length_cons] at e
    exact ⟨(e _ (by omega) (by omega)).trans h.1, ih h.2 (fun z z0 z1 => e z z0 (by omega))⟩
theorem c_psh {d w : Nat} {h : Hp} (hc : CR h w) {st : List Int} (s : stk h st) (hl : st.length < 64) (v : Int) : ∃ h', cal (d+1) m_Law_push [.inr (.inr (11)), .inl (v)] (h) = some (.inl 0, h') ∧ stk h' (v :: st) ∧ Fr pSt h h' := by
  have s0 := s.1
  have tn : ((st.length : Nat) : Int).toNat = st.length := by omega
  refine ⟨pI (pI h 13 st.length v) 11 3 (st.length + 1), ?_, ⟨by rw [hI_pI, if_pos ⟨rfl, rfl⟩]; simp, ⟨?_, StkA.cg (R := fun z : Int => hI h 13 z.toNat) s.2 (fun z z0 z1 => ?_)⟩⟩, Fr.pI (Fr.pI Fr.rf (by unfold pSt; omega)) (by unfold pSt; omega)⟩
  · show EX (d) m_Law_push 0 [(0, .inr (.inr (11))), (1, .inl (v))] [] (h) = _
    simp (disch := omega) only [Law_push_0, Law_push_9, Law_push_19, Law_push_29, wr_id, ix_id, okx, if_pos, if_neg, Int.toNat_of_nonneg, bak_v, bak_n, wr_b01, wr_bt, b01_or, b01_0, b01_1, lc_lt0, lc_gt0, lc_eq0, wl_wr, wr_wr, wl_id, true_and, and_true, true_or, or_true, not_true_eq_false, not_false_eq_true, nc0, nc1, nc2, nc3, nc4, nc5, nc6, nc7, nc8, nc9, nc10, nc11, nc12, nc13, nc14, nc15, nc16, nc17, nc18, nc19, nc20, nc21, nc22, nc23, nc35, nc47, nc59, nc60, nc61, nc73, nc74, nc214, nc215, nc1115, nc2230, nc3345, if_true, if_false, Int.reduceToNat, hc.k6, hc.r5, hc.r6, hc.r0, hc.r2, hc.r7, hc.r8, hc.r9, hc.r10, hc.r11, hc.r12, hc.r13, hc.r14, hc.r15, hc.r16, hc.r17, hc.r18, hc.r8_0, hc.r8_1, hc.r11_0, hc.r11_1, hc.r60_0, hc.r60_1, hc.r60_4, hc.r64_0, hc.r64_3, hc.r64_4, hc.r68_0, hc.r41_0, hc.r41_1, hc.r42_0, hc.r42_1, hc.k7, hc.k8, hc.k9, hc.k11, hc.k12, hc.k13, hc.k32, hc.k41, hc.k42, hc.k43, hc.k60, hc.k61, hc.k62, hc.k63, hc.k64, hc.k65, hc.k66, hc.k67, hc.k68, hc.k69, hc.k70, hc.k71, hc.n6, hc.n7, hc.n8, hc.n9, hc.n11, hc.n12, hc.n13, hc.n32, hc.n41, hc.n42, hc.n43, hc.n60, hc.n61, hc.n62, hc.n63, hc.n64, hc.n65, hc.n66, hc.n67, hc.n68, hc.n69, hc.n70, hc.n71, hc.n13, s0, tn, sK_pI, hI_pI]
  · show hI (pI (pI h 13 st.length v) 11 3 (st.length + 1)) 13 ((st.length : Int)).toNat = v
    rw [tn, hI_pI, if_neg (by omega), hI_pI, if_pos ⟨rfl, rfl⟩]
  · show hI (pI (pI h 13 st.length v) 11 3 (st.length + 1)) 13 z.toNat = hI h 13 z.toNat
    rw [hI_pI, if_neg (by omega), hI_pI, if_neg (by omega)]
theorem c_pull {d w : Nat} {h : Hp} (hc : CR h w) {v : Int} {st : List Int} (s : stk h (v :: st)) (hl : st.length < 64) : ∃ h', cal (d+1) m_Law_pull [.inr (.inr (11))] (h) = some (.inl v, h') ∧ stk h' st ∧ Fr pSt h h' := by
  have s0 := s.1
  have s1 : hI h 13 ((st.length : Int)).toNat = v := s.2.1
  simp only [List.length_cons, Int.natCast_add, nc1] at s0
  have tn : ((st.length : Nat) : Int).toNat = st.length := by omega
  rw [tn] at s1
  refine ⟨pI h 11 3 st.length, ?_, ⟨by rw [hI_pI, if_pos ⟨rfl, rfl⟩], StkA.cg (R := fun z : Int => hI h 13 z.toNat) s.2.2 (fun z z0 z1 => ?_)⟩, Fr.pI Fr.rf (by unfold pSt; omega)⟩
  · show EX (d) m_Law_pull 0 [(0, .inr (.inr (11)))] [] (h) = _
    simp (disch := omega) only [Law_pull_0, Law_pull_9, Law_pull_19, wr_id, ix_id, okx, if_pos, if_neg, Int.toNat_of_nonneg, bak_v, bak_n, wr_b01, wr_bt, b01_or, b01_0, b01_1, lc_lt0, lc_gt0, lc_eq0, wl_wr, wr_wr, wl_id, true_and, and_true, true_or, or_true, not_true_eq_false, not_false_eq_true, nc0, nc1, nc2, nc3, nc4, nc5, nc6, nc7, nc8, nc9, nc10, nc11, nc12, nc13, nc14, nc15, nc16, nc17, nc18, nc19, nc20, nc21, nc22, nc23, nc35, nc47, nc59, nc60, nc61, nc73, nc74, nc214, nc215, nc1115, nc2230, nc3345, if_true, if_false, Int.reduceToNat, hc.k6, hc.r5, hc.r6, hc.r0, hc.r2, hc.r7, hc.r8, hc.r9, hc.r10, hc.r11, hc.r12, hc.r13, hc.r14, hc.r15, hc.r16, hc.r17, hc.r18, hc.r8_0, hc.r8_1, hc.r11_0, hc.r11_1, hc.r60_0, hc.r60_1, hc.r60_4, hc.r64_0, hc.r64_3, hc.r64_4, hc.r68_0, hc.r41_0, hc.r41_1, hc.r42_0, hc.r42_1, hc.k7, hc.k8, hc.k9, hc.k11, hc.k12, hc.k13, hc.k32, hc.k41, hc.k42, hc.k43, hc.k60, hc.k61, hc.k62, hc.k63, hc.k64, hc.k65, hc.k66, hc.k67, hc.k68, hc.k69, hc.k70, hc.k71, hc.n6, hc.n7, hc.n8, hc.n9, hc.n11, hc.n12, hc.n13, hc.n32, hc.n41, hc.n42, hc.n43, hc.n60, hc.n61, hc.n62, hc.n63, hc.n64, hc.n65, hc.n66, hc.n67, hc.n68, hc.n69, hc.n70, hc.n71, hc.n13, s0, Int.add_sub_cancel, sK_pI, sN_pI, hI_pI, hR_pI, tn, s1]
  · show hI (pI h 11 3 st.length) 13 z.toNat = hI h 13 z.toNat
    rw [hI_pI, if_neg (by omega)]
def LC (h : Hp) (S : Int → Int) : Prop := hI h 11 2 = S 214 ∧ ∀ k : Nat, (k : Int) < S 214 → hI h 12 k = ccd (S (215 + k))
theorem LC.fr {h h' : Hp} {S : Int → Int} (c : LC h S) {p : Nat → Nat → Prop} (f : Fr p h h') (h1 : ¬ p 11 2) (h2 : ∀ k, ¬ p 12 k) : LC h' S := ⟨by rw [f.I h1]; exact c.1, fun k hk => by rw [f.I (h2 k)]; exact c.2 k hk⟩
theorem ccd_nm {c : Int} (h0 : 1000 ≤ c) (h1 : c < 1006) : (ccd c = 130 ∧ c = 1000) ∨ (ccd c = 131 ∧ c = 1001) ∨ (ccd c = 142 ∧ c = 1002) ∨ (ccd c = 143 ∧ c = 1003) ∨ (ccd c = 144 ∧ c = 1004) ∨ (ccd c = 145 ∧ c = 1005) := by
  have : c = 1000 ∨ c = 1001 ∨ c = 1002 ∨ c = 1003 ∨ c = 1004 ∨ c = 1005 := by omega
  rcases this with e | e | e | e | e | e <;> subst e <;> decide
theorem c_value {d u : Nat} {h : Hp} {S : Int → Int} (wv : WV h u S) {c x y : Int} (h0 : 1000 ≤ c) (h1 : c < 1006) (hx : 0 ≤ x ∧ x < 12) (hy : 0 ≤ y ∧ y < 12) : cal (d+1) m_Law_isName [.inl (ccd c)] (h) = some (.inl 1, h) ∧ cal (d+1) m_Law_valueOf [.inl (ccd c), .inr (.inr (u)), .inl (x), .inl (y)] (h) = some (.inl (cellV S x y c), h) := by
  have hw := wv.1
  have k3 := wv.hk x.toNat (by omega)
  have k4 := wv.rk y.toNat (by omega)
  rw [Int.toNat_of_nonneg hx.1] at k3
  rw [Int.toNat_of_nonneg hy.1] at k4
  rcases ccd_nm h0 h1 with ⟨e, f⟩ | ⟨e, f⟩ | ⟨e, f⟩ | ⟨e, f⟩ | ⟨e, f⟩ | ⟨e, f⟩ <;> rw [e] <;> subst f
  · refine ⟨?_, ?_⟩
    · show EX (d) m_Law_isName 0 [(0, .inl (130))] [] (h) = _
      simp (disch := omega) only [Law_isName_0, Law_isName_28, Law_isName_33, wr_id, ix_id, okx, if_pos, if_neg, Int.toNat_of_nonneg, bak_v, bak_n, wr_b01, wr_bt, b01_or, b01_0, b01_1, lc_lt0, lc_gt0, lc_eq0, wl_wr, wr_wr, wl_id, true_and, and_true, true_or, or_true, not_true_eq_false, not_false_eq_true, nc0, nc1, nc2, nc3, nc4, nc5, nc6, nc7, nc8, nc9, nc10, nc11, nc12, nc13, nc14, nc15, nc16, nc17, nc18, nc19, nc20, nc21, nc22, nc23, nc35, nc47, nc59, nc60, nc61, nc73, nc74, nc214, nc215, nc1115, nc2230, nc3345, if_true, if_false, Int.reduceToNat]
    · show EX (d) m_Law_valueOf 0 [(0, .inl (130)), (1, .inr (.inr (u))), (2, .inl (x)), (3, .inl (y))] [] (h) = some (.inl x, h)
      simp (disch := omega) only [Law_valueOf_0, Law_valueOf_76, wr_id, ix_id, okx, if_pos, if_neg, Int.toNat_of_nonneg, bak_v, bak_n, wr_b01, wr_bt, b01_or, b01_0, b01_1, lc_lt0, lc_gt0, lc_eq0, wl_wr, wr_wr, wl_id, true_and, and_true, true_or, or_true, not_true_eq_false, not_false_eq_true, nc0, nc1, nc2, nc3, nc4, nc5, nc6, nc7, nc8, nc9, nc10, nc11, nc12, nc13, nc14, nc15, nc16, nc17, nc18, nc19, nc20, nc21, nc22, nc23, nc35, nc47, nc59, nc60, nc61, nc73, nc74, nc214, nc215, nc1115, nc2230, nc3345, if_true, if_false, Int.reduceToNat]
  · refine ⟨?_, ?_⟩
    · show EX (d) m_Law_isName 0 [(0, .inl (131))] [] (h) = _
      simp (disch := omega) only [Law_isName_0, Law_isName_7, Law_isName_28, Law_isName_33, wr_id, ix_id, okx, if_pos, if_neg, Int.toNat_of_nonneg, bak_v, bak_n, wr_b01, wr_bt, b01_or, b01_0, b01_1, lc_lt0, lc_gt0, lc_eq0, wl_wr, wr_wr, wl_id, true_and, and_true, true_or, or_true, not_true_eq_false, not_false_eq_true, nc0, nc1, nc2, nc3, nc4, nc5, nc6, nc7, nc8, nc9, nc10, nc11, nc12, nc13, nc14, nc15, nc16, nc17, nc18, nc19, nc20, nc21, nc22, nc23, nc35, nc47, nc59, nc60, nc61, nc73, nc74, nc214, nc215, nc1115, nc2230, nc3345, if_true, if_false, Int.reduceToNat]
    · show EX (d) m_Law_valueOf 0 [(0, .inl (131)), (1, .inr (.inr (u))), (2, .inl (x)), (3, .inl (y))] [] (h) = some (.inl y, h)
      simp (disch := omega) only [Law_valueOf_0, Law_valueOf_78, wr_id, ix_id, okx, if_pos, if_neg, Int.toNat_of_nonneg, bak_v, bak_n, wr_b01, wr_bt, b01_or, b01_0, b01_1, lc_lt0, lc_gt0, lc_eq0, wl_wr, wr_wr, wl_id, true_and, and_true, true_or, or_true, not_true_eq_false, not_false_eq_true, nc0, nc1, nc2, nc3, nc4, nc5, nc6, nc7, nc8, nc9, nc10, nc11, nc12, nc13, nc14, nc15, nc16, nc17, nc18, nc19, nc20, nc21, nc22, nc23, nc35, nc47, nc59, nc60, nc61, nc73, nc74, nc214, nc215, nc1115, nc2230, nc3345, if_true, if_false, Int.reduceToNat]
  · refine ⟨?_, ?_⟩
    · show EX (d) m_Law_isName 0 [(0, .inl (142))] [] (h) = _
      simp (disch := omega) only [Law_isName_0, Law_isName_7, Law_isName_14, Law_isName_21, Law_isName_28, Law_isName_33, wr_id, ix_id, okx, if_pos, if_neg, Int.toNat_of_nonneg, bak_v, bak_n, wr_b01, wr_bt, b01_or, b01_0, b01_1, lc_lt0, lc_gt0, lc_eq0, wl_wr, wr_wr, wl_id, true_and, and_true, true_or, or_true, not_true_eq_false, not_false_eq_true, nc0, nc1, nc2, nc3, nc4, nc5, nc6, nc7, nc8, nc9, nc10, nc11, nc12, nc13, nc14, nc15, nc16, nc17, nc18, nc19, nc20, nc21, nc22, nc23, nc35, nc47, nc59, nc60, nc61, nc73, nc74, nc214, nc215, nc1115, nc2230, nc3345, if_true, if_false, Int.reduceToNat]
    · show EX (d) m_Law_valueOf 0 [(0, .inl (142)), (1, .inr (.inr (u))), (2, .inl (x)), (3, .inl (y))] [] (h) = some (.inl (S (35 + x)), h)
      simp (disch := omega) only [Law_valueOf_0, Law_valueOf_80, wr_id, ix_id, okx, if_pos, if_neg, Int.toNat_of_nonneg, bak_v, bak_n, wr_b01, wr_bt, b01_or, b01_0, b01_1, lc_lt0, lc_gt0, lc_eq0, wl_wr, wr_wr, wl_id, true_and, and_true, true_or, or_true, not_true_eq_false, not_false_eq_true, nc0, nc1, nc2, nc3, nc4, nc5, nc6, nc7, nc8, nc9, nc10, nc11, nc12, nc13, nc14, nc15, nc16, nc17, nc18, nc19, nc20, nc21, nc22, nc23, nc35, nc47, nc59, nc60, nc61, nc73, nc74, nc214, nc215, nc1115, nc2230, nc3345, if_true, if_false, Int.reduceToNat, hw.k, hw.r0, hw.r1, hw.r2, hw.r3, hw.r4, hw.k1, hw.k2, hw.k3, hw.k4, hw.k5, hw.n1, hw.n2, hw.n3, hw.n4, hw.n5, k3]
  · refine ⟨?_, ?_⟩
    · show EX (d) m_Law_isName 0 [(0, .inl (143))] [] (h) = _
      simp (disch := omega) only [Law_isName_0, Law_isName_7, Law_isName_14, Law_isName_21, Law_isName_28, Law_isName_33, wr_id, ix_id, okx, if_pos, if_neg, Int.toNat_of_nonneg, bak_v, bak_n, wr_b01, wr_bt, b01_or, b01_0, b01_1, lc_lt0, lc_gt0, lc_eq0, wl_wr, wr_wr, wl_id, true_and, and_true, true_or, or_true, not_true_eq_false, not_false_eq_true, nc0, nc1, nc2, nc3, nc4, nc5, nc6, nc7, nc8, nc9, nc10, nc11, nc12, nc13, nc14, nc15, nc16, nc17, nc18, nc19, nc20, nc21, nc22, nc23, nc35, nc47, nc59, nc60, nc61, nc73, nc74, nc214, nc215, nc1115, nc2230, nc3345, if_true, if_false, Int.reduceToNat]
    · show EX (d) m_Law_valueOf 0 [(0, .inl (143)), (1, .inr (.inr (u))), (2, .inl (x)), (3, .inl (y))] [] (h) = some (.inl (S (47 + y)), h)
      simp (disch := omega) only [Law_valueOf_0, Law_valueOf_87, wr_id, ix_id, okx, if_pos, if_neg, Int.toNat_of_nonneg, bak_v, bak_n, wr_b01, wr_bt, b01_or, b01_0, b01_1, lc_lt0, lc_gt0, lc_eq0, wl_wr, wr_wr, wl_id, true_and, and_true, true_or, or_true, not_true_eq_false, not_false_eq_true, nc0, nc1, nc2, nc3, nc4, nc5, nc6, nc7, nc8, nc9, nc10, nc11, nc12, nc13, nc14, nc15, nc16, nc17, nc18, nc19, nc20, nc21, nc22, nc23, nc35, nc47, nc59, nc60, nc61, nc73, nc74, nc214, nc215, nc1115, nc2230, nc3345, if_true, if_false, Int.reduceToNat, hw.k, hw.r0, hw.r1, hw.r2, hw.r3, hw.r4, hw.k1, hw.k2, hw.k3, hw.k4, hw.k5, hw.n1, hw.n2, hw.n3, hw.n4, hw.n5, k4]
  · refine ⟨?_, ?_⟩
    · show EX (d) m_Law_isName 0 [(0, .inl (144))] [] (h) = _
      simp (disch := omega) only [Law_isName_0, Law_isName_7, Law_isName_14, Law_isName_21, Law_isName_28, Law_isName_33, wr_id, ix_id, okx, if_pos, if_neg, Int.toNat_of_nonneg, bak_v, bak_n, wr_b01, wr_bt, b01_or, b01_0, b01_1, lc_lt0, lc_gt0, lc_eq0, wl_wr, wr_wr, wl_id, true_and, and_true, true_or, or_true, not_true_eq_false, not_false_eq_true, nc0, nc1, nc2, nc3, nc4, nc5, nc6, nc7, nc8, nc9, nc10, nc11, nc12, nc13, nc14, nc15, nc16, nc17, nc18, nc19, nc20, nc21, nc22, nc23, nc35, nc47, nc59, nc60, nc61, nc73, nc74, nc214, nc215, nc1115, nc2230, nc3345, if_true, if_false, Int.reduceToNat]
    · show EX (d) m_Law_valueOf 0 [(0, .inl (144)), (1, .inr (.inr (u))), (2, .inl (x)), (3, .inl (y))] [] (h) = some (.inl (S 1), h)
      simp (disch := omega) only [Law_valueOf_0, Law_valueOf_94, wr_id, ix_id, okx, if_pos, if_neg, Int.toNat_of_nonneg, bak_v, bak_n, wr_b01, wr_bt, b01_or, b01_0, b01_1, lc_lt0, lc_gt0, lc_eq0, wl_wr, wr_wr, wl_id, true_and, and_true, true_or, or_true, not_true_eq_false, not_false_eq_true, nc0, nc1, nc2, nc3, nc4, nc5, nc6, nc7, nc8, nc9, nc10, nc11, nc12, nc13, nc14, nc15, nc16, nc17, nc18, nc19, nc20, nc21, nc22, nc23, nc35, nc47, nc59, nc60, nc61, nc73, nc74, nc214, nc215, nc1115, nc2230, nc3345, if_true, if_false, Int.reduceToNat, hw.k, hw.r0, hw.r1, hw.r2, hw.r3, hw.r4, hw.k1, hw.k2, hw.k3, hw.k4, hw.k5, hw.n1, hw.n2, hw.n3, hw.n4, hw.n5, wv.f5]
  · refine ⟨?_, ?_⟩
    · show EX (d) m_Law_isName 0 [(0, .inl (145))] [] (h) = _
      simp (disch := omega) only [Law_isName_0, Law_isName_7, Law_isName_14, Law_isName_21, Law_isName_28, Law_isName_33, wr_id, ix_id, okx, if_pos, if_neg, Int.toNat_of_nonneg, bak_v, bak_n, wr_b01, wr_bt, b01_or, b01_0, b01_1, lc_lt0, lc_gt0, lc_eq0, wl_wr, wr_wr, wl_id, true_and, and_true, true_or, or_true, not_true_eq_false, not_false_eq_true, nc0, nc1, nc2, nc3, nc4, nc5, nc6, nc7, nc8, nc9, nc10, nc11, nc12, nc13, nc14, nc15, nc16, nc17, nc18, nc19, nc20, nc21, nc22, nc23, nc35, nc47, nc59, nc60, nc61, nc73, nc74, nc214, nc215, nc1115, nc2230, nc3345, if_true, if_false, Int.reduceToNat]
    · show EX (d) m_Law_valueOf 0 [(0, .inl (145)), (1, .inr (.inr (u))), (2, .inl (x)), (3, .inl (y))] [] (h) = some (.inl (S 2), h)
      simp (disch := omega) only [Law_valueOf_0, Law_valueOf_99, wr_id, ix_id, okx, if_pos, if_neg, Int.toNat_of_nonneg, bak_v, bak_n, wr_b01, wr_bt, b01_or, b01_0, b01_1, lc_lt0, lc_gt0, lc_eq0, wl_wr, wr_wr, wl_id, true_and, and_true, true_or, or_true, not_true_eq_false, not_false_eq_true, nc0, nc1, nc2, nc3, nc4, nc5, nc6, nc7, nc8, nc9, nc10, nc11, nc12, nc13, nc14, nc15, nc16, nc17, nc18, nc19, nc20, nc21, nc22, nc23, nc35, nc47, nc59, nc60, nc61, nc73, nc74, nc214, nc215, nc1115, nc2230, nc3345, if_true, if_false, Int.reduceToNat, hw.k, hw.r0, hw.r1, hw.r2, hw.r3, hw.r4, hw.k1, hw.k2, hw.k3, hw.k4, hw.k5, hw.n1, hw.n2, hw.n3, hw.n4, hw.n5, wv.f6]
theorem c_noName {d : Nat} {h : Hp} {c : Int} (hc : 3000 ≤ c ∧ c ≤ 3008) : cal (d+1) m_Law_isName [.inl (ccd c)] (h) = some (.inl 0, h) ∧ 0 ≤ ccd c ∧ ccd c < 1000 ∧ (ccd c = 141 ↔ c = 3008) := by
  have : c = 3000 ∨ c = 3001 ∨ c = 3002 ∨ c = 3003 ∨ c = 3004 ∨ c = 3005 ∨ c = 3006 ∨ c = 3007 ∨ c = 3008 := by omega
  have key : ccd c < 142 ∧ ¬ ccd c = 130 ∧ ¬ ccd c = 131 ∧ 0 ≤ ccd c ∧ (ccd c = 141 ↔ c = 3008) := by
    rcases this with e | e | e | e | e | e | e | e | e <;> subst e <;> decide
  refine ⟨?_, key.2.2.2.1, by omega, key.2.2.2.2⟩
  show EX (d) m_Law_isName 0 [(0, .inl (ccd c))] [] (h) = _
  simp (disch := omega) only [Law_isName_0, Law_isName_7, Law_isName_14, Law_isName_32, Law_isName_33, wr_id, ix_id, okx, if_pos, if_neg, Int.toNat_of_nonneg, bak_v, bak_n, wr_b01, wr_bt, b01_or, b01_0, b01_1, lc_lt0, lc_gt0, lc_eq0, wl_wr, wr_wr, wl_id, true_and, and_true, true_or, or_true, not_true_eq_false, not_false_eq_true, nc0, nc1, nc2, nc3, nc4, nc5, nc6, nc7, nc8, nc9, nc10, nc11, nc12, nc13, nc14, nc15, nc16, nc17, nc18, nc19, nc20, nc21, nc22, nc23, nc35, nc47, nc59, nc60, nc61, nc73, nc74, nc214, nc215, nc1115, nc2230, nc3345, if_true, if_false, Int.reduceToNat]
theorem c_hold_l {d w u : Nat} {S : Int → Int} (g : Gd S) (h214 : S 214 ≤ 900) (hu : u = 14 ∨ u = 20) {x y : Int} (hx : 0 ≤ x ∧ x < S 1) (hy : 0 ≤ y ∧ y < S 2) : ∀ (n : Nat) (k : Int) (st : List Int) (t : List Bool) (h : Hp), CR h w → WV h u S → LC h S → stk h st → TyS st t → k + n = S 214 → 0 ≤ k → tyr S n k t = some [true] → t.length ≤ 60 → ∃ h', EX (d+3) m_Law_holds 8 [(0, .inr (.inr (11))), (1, .inr (.inr (u))), (2, .inl (x)), (3, .inl (y)), (4, .inl (k))] [] (h) = some (.inl ((evl S x y n k st).headD 0), h') ∧ Fr pSt h h' ∧ (((evl S x y n k st).headD 0 = 0) ∨ ((evl S x y n k st).headD 0 = 1)) := by
  have ga := g.a
  have gb := g.b
  have g1 := g.1.2.2.2.2.2.2.2.2.2.2.2.1 x (by omega) (by omega)
  have g2 := g.1.2.2.2.2.2.2.2.2.2.2.2.2.1 y (by omega) (by omega)
  intro n
  induction n with
  | zero =>
    intro k st t h hc wv lc sk hty hk h0 hr hl
    cases hr
    match st, hty, sk with
    | [v], hty, sk =>
      have hv := hty.1
      simp only [tv, if_true] at hv
      obtain ⟨h', e, s', f⟩ := c_pull (d := d + 2) hc sk (by simp)
      refine ⟨h', ?_, f, hv⟩
      have l0 := lc.1
      rw [Law_holds_8]
      simp (disch := omega) only [Law_holds_118, Law_holds_122, Law_holds_125, Law_holds_129, Law_holds_130, wr_id, ix_id, okx, if_pos, if_neg, Int.toNat_of_nonneg, bak_v, bak_n, wr_b01, wr_bt, b01_or, b01_0, b01_1, lc_lt0, lc_gt0, lc_eq0, wl_wr, wr_wr, wl_id, true_and, and_true, true_or, or_true, not_true_eq_false, not_false_eq_true, nc0, nc1, nc2, nc3, nc4, nc5, nc6, nc7, nc8, nc9, nc10, nc11, nc12, nc13, nc14, nc15, nc16, nc17, nc18, nc19, nc20, nc21, nc22, nc23, nc35, nc47, nc59, nc60, nc61, nc73, nc74, nc214, nc215, nc1115, nc2230, nc3345, if_true, if_false, Int.reduceToNat, hc.k11, l0, e]
      rcases hv with e | e <;> subst e <;> rfl
  | succ n ih =>
    intro k st t h hc wv lc sk hty hk h0 hr hl
    have hlen := hty.len
    simp only [tyr] at hr
    cases hq : tys (S (215 + k)) t with
    | none => rw [hq] at hr; cases hr
    | some t' =>
      rw [hq] at hr
      dsimp only at hr
      by_cases hl' : t'.length ≤ 60
      · rw [if_pos hl'] at hr
        have hstep := (tys_step (S := S) (x := x) (y := y) (by omega) (by omega) (by omega) (by omega) (by omega) (by omega) hty hq).1
        have hlen' := hstep.len
        have hkn : k < S 214 := by omega
        have l0 := lc.1
        have lk := lc.2 k.toNat (by omega)
        rw [Int.toNat_of_nonneg h0] at lk
        have go : ∀ (h1 : Hp) (st' : List Int), stk h1 st' → Fr pSt h h1 → stp S x y (S (215 + k)) st = st' → EX (d+3) m_Law_holds 8 [(0, .inr (.inr (11))), (1, .inr (.inr (u))), (2, .inl (x)), (3, .inl (y)), (4, .inl (k))] [] (h) = EX (d+3) m_Law_holds 8 [(0, .inr (.inr (11))), (1, .inr (.inr (u))), (2, .inl (x)), (3, .inl (y)), (4, .inl (k + 1))] [] (h1) → ∃ h', EX (d+3) m_Law_holds 8 [(0, .inr (.inr (11))), (1, .inr (.inr (u))), (2, .inl (x)), (3, .inl (y)), (4, .inl (k))] [] (h) = some (.inl ((evl S x y (n + 1) k st).headD 0), h') ∧ Fr pSt h h' ∧ (((evl S x y (n + 1) k st).headD 0 = 0) ∨ ((evl S x y (n + 1) k st).headD 0 = 1)) := fun h1 st' s1 f1 e1 ee => by
          rw [e1] at hstep
          obtain ⟨h', q1, q2, q3⟩ := ih (k + 1) st' t' h1 (hc.fr f1) (wv.fr f1 (fun c k c1 c2 => by unfold pSt; omega)) (lc.fr f1 (by unfold pSt; omega) (fun k => by unfold pSt; omega)) s1 hstep (by omega) (by omega) hr hl'
          refine ⟨h', ?_, f1.tr q2, ?_⟩
          · rw [ee, q1]
            simp only [evl, e1]
          · simp only [evl, e1]
            exact q3
        rcases tys_cases hq with c1 | ⟨c1, r, c2⟩ | ⟨c1, c1', b1, b2, r, c2⟩
        · have e1 : stp S x y (S (215 + k)) st = cellV S x y (S (215 + k)) :: st := by
            unfold stp; rw [if_pos (by omega)]
          obtain ⟨h1, p1, s1, f1⟩ := c_psh (d := d + 2) hc sk (by omega) (cellV S x y (S (215 + k)))
          refine go h1 _ s1 f1 e1 ?_
          rw [Law_holds_8]
          by_cases c3 : S (215 + k) < 1000
          · have ec : ccd (S (215 + k)) = 1000 + S (215 + k) := by unfold ccd; rw [if_pos c3]
            have ev : cellV S x y (S (215 + k)) = S (215 + k) := by
              unfold cellV
              rw [if_neg (by omega), if_neg (by omega), if_neg (by omega), if_neg (by omega), if_neg (by omega), if_neg (by omega)]
            rw [ec] at lk
            rw [ev] at p1
            have e9 : 1000 + S (215 + k) - 1000 = S (215 + k) := by omega
            simp (disch := omega) only [Law_holds_17, Law_holds_34, Law_holds_44, Law_holds_112, wr_id, ix_id, okx, if_pos, if_neg, Int.toNat_of_nonneg, bak_v, bak_n, wr_b01, wr_bt, b01_or, b01_0, b01_1, lc_lt0, lc_gt0, lc_eq0, wl_wr, wr_wr, wl_id, true_and, and_true, true_or, or_true, not_true_eq_false, not_false_eq_true, nc0, nc1, nc2, nc3, nc4, nc5, nc6, nc7, nc8, nc9, nc10, nc11, nc12, nc13, nc14, nc15, nc16, nc17, nc18, nc19, nc20, nc21, nc22, nc23, nc35, nc47, nc59, nc60, nc61, nc73, nc74, nc214, nc215, nc1115, nc2230, nc3345, if_true, if_false, Int.reduceToNat, hc.k6, hc.r5, hc.r6, hc.r0, hc.r2, hc.r7, hc.r8, hc.r9, hc.r10, hc.r11, hc.r12, hc.r13, hc.r14, hc.r15, hc.r16, hc.r17, hc.r18, hc.r8_0, hc.r8_1, hc.r11_0, hc.r11_1, hc.r60_0, hc.r60_1, hc.r60_4, hc.r64_0, hc.r64_3, hc.r64_4, hc.r68_0, hc.r41_0, hc.r41_1, hc.r42_0, hc.r42_1, hc.k7, hc.k8, hc.k9, hc.k11, hc.k12, hc.k13, hc.k32, hc.k41, hc.k42, hc.k43, hc.k60, hc.k61, hc.k62, hc.k63, hc.k64, hc.k65, hc.k66, hc.k67, hc.k68, hc.k69, hc.k70, hc.k71, hc.n6, hc.n7, hc.n8, hc.n9, hc.n11, hc.n12, hc.n13, hc.n32, hc.n41, hc.n42, hc.n43, hc.n60, hc.n61, hc.n62, hc.n63, hc.n64, hc.n65, hc.n66, hc.n67, hc.n68, hc.n69, hc.n70, hc.n71, hc.n12, l0, lk, e9, p1]
          · obtain ⟨v1, v2⟩ := c_value (d := d + 2) (x := x) (y := y) wv (c := S (215 + k)) (by omega) (by omega) (by omega) (by omega)
            have cn := ccd_nm (c := S (215 + k)) (by omega) (by omega)
            simp (disch := omega) only [Law_holds_17, Law_holds_47, Law_holds_52, Law_holds_55, Law_holds_64, Law_holds_67, Law_holds_112, wr_id, ix_id, okx, if_pos, if_neg, Int.toNat_of_nonneg, bak_v, bak_n, wr_b01, wr_bt, b01_or, b01_0, b01_1, lc_lt0, lc_gt0, lc_eq0, wl_wr, wr_wr, wl_id, true_and, and_true, true_or, or_true, not_true_eq_false, not_false_eq_true, nc0, nc1, nc2, nc3, nc4, nc5, nc6, nc7, nc8, nc9, nc10, nc11, nc12, nc13, nc14, nc15, nc16, nc17, nc18, nc19, nc20, nc21, nc22, nc23, nc35, nc47, nc59, nc60, nc61, nc73, nc74, nc214, nc215, nc1115, nc2230, nc3345, if_true, if_false, Int.reduceToNat, hc.k6, hc.r5, hc.r6, hc.r0, hc.r2, hc.r7, hc.r8, hc.r9, hc.r10, hc.r11, hc.r12, hc.r13, hc.r14, hc.r15, hc.r16, hc.r17, hc.r18, hc.r8_0, hc.r8_1, hc.r11_0, hc.r11_1, hc.r60_0, hc.r60_1, hc.r60_4, hc.r64_0, hc.r64_3, hc.r64_4, hc.r68_0, hc.r41_0, hc.r41_1, hc.r42_0, hc.r42_1, hc.k7, hc.k8, hc.k9, hc.k11, hc.k12, hc.k13, hc.k32, hc.k41, hc.k42, hc.k43, hc.k60, hc.k61, hc.k62, hc.k63, hc.k64, hc.k65, hc.k66, hc.k67, hc.k68, hc.k69, hc.k70, hc.k71, hc.n6, hc.n7, hc.n8, hc.n9, hc.n11, hc.n12, hc.n13, hc.n32, hc.n41, hc.n42, hc.n43, hc.n60, hc.n61, hc.n62, hc.n63, hc.n64, hc.n65, hc.n66, hc.n67, hc.n68, hc.n69, hc.n70, hc.n71, hc.n12, l0, lk, v1, v2, p1]
        · subst c2
          obtain ⟨nn, n0, n1, n2⟩ := c_noName (d := d + 2) (h := h) (c := S (215 + k)) (by omega)
          have n3 := n2.mpr c1
          rw [n3] at lk nn
          match st, hty, sk with
          | a :: q, hty, sk =>
            have e1 : stp S x y (S (215 + k)) (a :: q) = (1 - a) :: q := by
              unfold stp; rw [if_neg (by omega), if_pos c1]
            simp only [List.length_cons] at hlen hl
            obtain ⟨h1, p1, s1, f1⟩ := c_pull (d := d + 2) hc sk (by omega)
            have hc1 := hc.fr f1
            obtain ⟨h2, p2, s2, f2⟩ := c_psh (d := d + 2) hc1 s1 (by omega) (1 - a)
            refine go h2 _ s2 (f1.tr f2) e1 ?_
            rw [Law_holds_8]
            simp (disch := omega) only [Law_holds_17, Law_holds_47, Law_holds_52, Law_holds_70, Law_holds_78, wr_id, ix_id, okx, if_pos, if_neg, Int.toNat_of_nonneg, bak_v, bak_n, wr_b01, wr_bt, b01_or, b01_0, b01_1, lc_lt0, lc_gt0, lc_eq0, wl_wr, wr_wr, wl_id, true_and, and_true, true_or, or_true, not_true_eq_false, not_false_eq_true, nc0, nc1, nc2, nc3, nc4, nc5, nc6, nc7, nc8, nc9, nc10, nc11, nc12, nc13, nc14, nc15, nc16, nc17, nc18, nc19, nc20, nc21, nc22, nc23, nc35, nc47, nc59, nc60, nc61, nc73, nc74, nc214, nc215, nc1115, nc2230, nc3345, if_true, if_false, Int.reduceToNat, hc.k6, hc.r5, hc.r6, hc.r0, hc.r2, hc.r7, hc.r8, hc.r9, hc.r10, hc.r11, hc.r12, hc.r13, hc.r14, hc.r15, hc.r16, hc.r17, hc.r18, hc.r8_0, hc.r8_1, hc.r11_0, hc.r11_1, hc.r60_0, hc.r60_1, hc.r60_4, hc.r64_0, hc.r64_3, hc.r64_4, hc.r68_0, hc.r41_0, hc.r41_1, hc.r42_0, hc.r42_1, hc.k7, hc.k8, hc.k9, hc.k11, hc.k12, hc.k13, hc.k32, hc.k41, hc.k42, hc.k43, hc.k60, hc.k61, hc.k62, hc.k63, hc.k64, hc.k65, hc.k66, hc.k67, hc.k68, hc.k69, hc.k70, hc.k71, hc.n6, hc.n7, hc.n8, hc.n9, hc.n11, hc.n12, hc.n13, hc.n32, hc.n41, hc.n42, hc.n43, hc.n60, hc.n61, hc.n62, hc.n63, hc.n64, hc.n65, hc.n66, hc.n67, hc.n68, hc.n69, hc.n70, hc.n71, hc.n12, l0, lk, nn, p1]
            simp (disch := omega) only [Law_holds_84, Law_holds_88, Law_holds_112, wr_id, ix_id, okx, if_pos, if_neg, Int.toNat_of_nonneg, bak_v, bak_n, wr_b01, wr_bt, b01_or, b01_0, b01_1, lc_lt0, lc_gt0, lc_eq0, wl_wr, wr_wr, wl_id, true_and, and_true, true_or, or_true, not_true_eq_false, not_false_eq_true, nc0, nc1, nc2, nc3, nc4, nc5, nc6, nc7, nc8, nc9, nc10, nc11, nc12, nc13, nc14, nc15, nc16, nc17, nc18, nc19, nc20, nc21, nc22, nc23, nc35, nc47, nc59, nc60, nc61, nc73, nc74, nc214, nc215, nc1115, nc2230, nc3345, if_true, if_false, Int.reduceToNat, hc1.k11, p2]
        · obtain ⟨nn, n0, n1, n2⟩ := c_noName (d := d + 2) (h := h) (c := S (215 + k)) (by omega)
          have n3 : ¬ ccd (S (215 + k)) = 141 := fun z => by have := n2.mp z; omega
          match st, t, hty, sk, c2 with
          | b :: a :: q, x1 :: x2 :: x3, hty, sk, c2 =>
            have hb := tv_rng hty.1
            have ha := tv_rng hty.2.1
            have tb := tys_tb hq
            have e1 : stp S x y (S (215 + k)) (b :: a :: q) = op2 (S (215 + k)) a b :: q := by
              unfold stp; rw [if_neg (by omega), if_neg (by omega)]
            simp only [List.length_cons] at hlen hl
            obtain ⟨h1, p1, s1, f1⟩ := c_pull (d := d + 2) hc sk (by simp only [List.length_cons]; omega)
            have hc1 := hc.fr f1
            obtain ⟨h2, p2, s2, f2⟩ := c_pull (d := d + 2) hc1 s1 (by omega)
            have hc2 := hc1.fr f2
            have cb := c_comb (d := d) (h := h2) (c := S (215 + k)) (by omega) ha hb (fun z => by
              obtain ⟨t1, t2⟩ := tb z
              have y1 := hty.1
              have y2 := hty.2.1
              rw [t1] at y1
              rw [t2] at y2
              simp only [tv, if_true] at y1 y2
              exact ⟨y2, y1⟩)
            obtain ⟨h3, p3, s3, f3⟩ := c_psh (d := d + 2) hc2 s2 (by omega) (op2 (S (215 + k)) a b)
            refine go h3 _ s3 ((f1.tr f2).tr f3) e1 ?_
            rw [Law_holds_8]
            simp (disch := omega) only [Law_holds_17, Law_holds_47, Law_holds_52, Law_holds_70, Law_holds_91, wr_id, ix_id, okx, if_pos, if_neg, Int.toNat_of_nonneg, bak_v, bak_n, wr_b01, wr_bt, b01_or, b01_0, b01_1, lc_lt0, lc_gt0, lc_eq0, wl_wr, wr_wr, wl_id, true_and, and_true, true_or, or_true, not_true_eq_false, not_false_eq_true, nc0, nc1, nc2, nc3, nc4, nc5, nc6, nc7, nc8, nc9, nc10, nc11, nc12, nc13, nc14, nc15, nc16, nc17, nc18, nc19, nc20, nc21, nc22, nc23, nc35, nc47, nc59, nc60, nc61, nc73, nc74, nc214, nc215, nc1115, nc2230, nc3345, if_true, if_false, Int.reduceToNat, hc.k6, hc.r5, hc.r6, hc.r0, hc.r2, hc.r7, hc.r8, hc.r9, hc.r10, hc.r11, hc.r12, hc.r13, hc.r14, hc.r15, hc.r16, hc.r17, hc.r18, hc.r8_0, hc.r8_1, hc.r11_0, hc.r11_1, hc.r60_0, hc.r60_1, hc.r60_4, hc.r64_0, hc.r64_3, hc.r64_4, hc.r68_0, hc.r41_0, hc.r41_1, hc.r42_0, hc.r42_1, hc.k7, hc.k8, hc.k9, hc.k11, hc.k12, hc.k13, hc.k32, hc.k41, hc.k42, hc.k43, hc.k60, hc.k61, hc.k62, hc.k63, hc.k64, hc.k65, hc.k66, hc.k67, hc.k68, hc.k69, hc.k70, hc.k71, hc.n6, hc.n7, hc.n8, hc.n9, hc.n11, hc.n12, hc.n13, hc.n32, hc.n41, hc.n42, hc.n43, hc.n60, hc.n61, hc.n62, hc.n63, hc.n64, hc.n65, hc.n66, hc.n67, hc.n68, hc.n69, hc.n70, hc.n71, hc.n12, l0, lk, nn, p1]
            simp (disch := omega) only [Law_holds_95, Law_holds_104, Law_holds_109, Law_holds_112, wr_id, ix_id, okx, if_pos, if_neg, Int.toNat_of_nonneg, bak_v, bak_n, wr_b01, wr_bt, b01_or, b01_0, b01_1, lc_lt0, lc_gt0, lc_eq0, wl_wr, wr_wr, wl_id, true_and, and_true, true_or, or_true, not_true_eq_false, not_false_eq_true, nc0, nc1, nc2, nc3, nc4, nc5, nc6, nc7, nc8, nc9, nc10, nc11, nc12, nc13, nc14, nc15, nc16, nc17, nc18, nc19, nc20, nc21, nc22, nc23, nc35, nc47, nc59, nc60, nc61, nc73, nc74, nc214, nc215, nc1115, nc2230, nc3345, if_true, if_false, Int.reduceToNat, hc1.k11, hc2.k11, p2, cb, p3]
      · rw [if_neg hl'] at hr
        cases hr
theorem c_holds {d w u : Nat} {S : Int → Int} {h : Hp} (g : Gd S) (lo : LawOk S) (h9 : S 9 = 1) (hu : u = 14 ∨ u = 20) {x y : Int} (hx : 0 ≤ x ∧ x < S 1) (hy : 0 ≤ y ∧ y < S 2) (hc : CR h w) (wv : WV h u S) (lc : LC h S) : ∃ h', cal (d+4) m_Law_holds [.inr (.inr (11)), .inr (.inr (u)), .inl (x), .inl (y)] (h) = some (.inl (lawV S x y), h') ∧ Fr pSt h h' ∧ (lawV S x y = 0 ∨ lawV S x y = 1) := by
  obtain ⟨l1, l2, l3⟩ := lo.2 h9
  have f0 : Fr pSt h (pI h 11 3 0) := Fr.pI Fr.rf (by unfold pSt; omega)
  obtain ⟨h', q1, q2, q3⟩ := c_hold_l (d := d) g l2 hu hx hy (S 214).toNat 0 [] [] _ (hc.fr f0) (wv.fr f0 (fun c k c1 c2 => by unfold pSt; omega)) (lc.fr f0 (by unfold pSt; omega) (fun k => by unfold pSt; omega)) ⟨by rw [hI_pI, if_pos ⟨rfl, rfl⟩]; rfl, trivial⟩ trivial (by omega) (by omega) l3 (by simp)
  unfold lawV
  rw [if_neg (by omega)]
  refine ⟨h', ?_, f0.tr q2, q3⟩
  show EX (d+3) m_Law_holds 0 [(0, .inr (.inr (11))), (1, .inr (.inr (u))), (2, .inl (x)), (3, .inl (y))] [] (h) = _
  simp (disch := omega) only [Law_holds_0, Law_holds_5, wr_id, ix_id, okx, if_pos, if_neg, Int.toNat_of_nonneg, bak_v, bak_n, wr_b01, wr_bt, b01_or, b01_0, b01_1, lc_lt0, lc_gt0, lc_eq0, wl_wr, wr_wr, wl_id, true_and, and_true, true_or, or_true, not_true_eq_false, not_false_eq_true, nc0, nc1, nc2, nc3, nc4, nc5, nc6, nc7, nc8, nc9, nc10, nc11, nc12, nc13, nc14, nc15, nc16, nc17, nc18, nc19, nc20, nc21, nc22, nc23, nc35, nc47, nc59, nc60, nc61, nc73, nc74, nc214, nc215, nc1115, nc2230, nc3345, if_true, if_false, Int.reduceToNat, hc.k11]
  exact q1
/-- the bits of the first so many rings -/
def rBt (S : Int → Int) (x y v : Int) : Prop := ∀ r, 0 ≤ r → r < 32 → bt v r = if r < y then lawV S x r else 0
theorem c_set_2 {d w u : Nat} {S : Int → Int} (g : Gd S) (lo : LawOk S) (hu : u = 14 ∨ u = 20) {x : Int} (hx : 0 ≤ x ∧ x < S 1) : ∀ y, 0 ≤ y → y ≤ S 2 → ∀ (v : Int) (h : Hp), CR h w → WV h u S → (S 9 = 1 → LC h S) → (S 9 = 0 → hI h 11 2 = 0) → rBt S x y v → ∃ h' v', EX (d+4) m_Law_settle 15 [(0, .inr (.inr (11))), (1, .inr (.inr (u))), (2, .inl (x)), (3, .inl (v)), (4, .inl (y))] [] (h) = EX (d+4) m_Law_settle 64 [(0, .inr (.inr (11))), (1, .inr (.inr (u))), (2, .inl (x)), (3, .inl (v'))] [] (h') ∧ rBt S x (S 2) v' ∧ Fr pSt h h' := by
  have ga := g.a
  have gb := g.b
  refine up_ind (hi := S 2) ?_ ?_
  · intro y hy y0 y1 v h hc wv lc l0 hv
    have e : y = S 2 := by omega
    subst e
    refine ⟨h, v, ?_, hv, Fr.rf⟩
    have hw := wv.1
    rw [Law_settle_15]
    simp (disch := omega) only [wr_id, ix_id, okx, if_pos, if_neg, Int.toNat_of_nonneg, bak_v, bak_n, wr_b01, wr_bt, b01_or, b01_0, b01_1, lc_lt0, lc_gt0, lc_eq0, wl_wr, wr_wr, wl_id, true_and, and_true, true_or, or_true, not_true_eq_false, not_false_eq_true, nc0, nc1, nc2, nc3, nc4, nc5, nc6, nc7, nc8, nc9, nc10, nc11, nc12, nc13, nc14, nc15, nc16, nc17, nc18, nc19, nc20, nc21, nc22, nc23, nc35, nc47, nc59, nc60, nc61, nc73, nc74, nc214, nc215, nc1115, nc2230, nc3345, if_true, if_false, Int.reduceToNat, hw.k, hw.r0, hw.r1, hw.r2, hw.r3, hw.r4, hw.k1, hw.k2, hw.k3, hw.k4, hw.k5, hw.n1, hw.n2, hw.n3, hw.n4, hw.n5, wv.f6]
  · intro y hy ih y0 y1 v h hc wv lc l0 hv
    have hw := wv.1
    have pm := pw_mono (a := y) (b := y + 1) (by omega)
    have pl : pw y ≤ 2048 := by
      have h := pw_mono (a := y) (b := 11) (by omega)
      have e : pw 11 = 2048 := by decide
      omega
    have pp := pw_pos y
    have ps : pw (y + 1) = 2 * pw y := pw_s y0
    have nxt : ∀ (b : Int), lawV S x y = b → (b = 0 ∨ b = 1) → rBt S x (y + 1) (if b = 1 then bOr v (bShl 1 y) else v) := fun b eb b01' => by
      rcases b01' with z | z <;> subst z
      · rw [if_neg (by omega)]
        intro r r0 r1
        rw [hv r r0 r1]
        by_cases c : r < y
        · rw [if_pos c, if_pos (by omega)]
        · rw [if_neg c]
          by_cases c2 : r = y
          · subst c2; rw [if_pos (by omega), eb]
          · rw [if_neg (by omega)]
      · rw [if_pos rfl, bShl_pw y0 (by omega)]
        intro r r0 r1
        rw [bt_bOr r0 r1, hv r r0 r1, bt_pw y0 r0]
        by_cases c2 : r = y
        · subst c2
          rw [if_pos (Or.inr (by rw [if_pos rfl])), if_pos (by omega), eb]
        · rw [if_neg c2]
          by_cases c : r < y
          · rw [if_pos c, if_pos (show r < y + 1 by omega)]
            have lv : lawV S x r = 0 ∨ lawV S x r = 1 := by
              have := hv r r0 r1
              rw [if_pos c] at this
              rw [← this]
              exact bt_01 v r
            rcases lv with z | z <;> rw [z] <;> simp
          · rw [if_neg c, if_neg (by omega), if_neg (by omega)]
    rw [Law_settle_15]
    rcases lo.1 with c9 | c9
    · have l0' := l0 c9
      have el : lawV S x y = b01 (x = y) := by unfold lawV; rw [if_pos c9]
      have nx := nxt _ el (of_eq_true (b01_or _))
      by_cases cxy : x = y
      · have b1 : b01 (x = y) = 1 := by unfold b01; rw [if_pos cxy]
        rw [b1, if_pos rfl] at nx
        obtain ⟨h', v', e', r', f'⟩ := ih (by omega) (by omega) _ h hc wv lc l0 nx
        refine ⟨h', v', ?_, r', f'⟩
        simp (disch := omega) only [Law_settle_24, Law_settle_31, Law_settle_37, Law_settle_51, Law_settle_58, wr_id, ix_id, okx, if_pos, if_neg, Int.toNat_of_nonneg, bak_v, bak_n, wr_b01, wr_bt, b01_or, b01_0, b01_1, lc_lt0, lc_gt0, lc_eq0, wl_wr, wr_wr, wl_id, true_and, and_true, true_or, or_true, not_true_eq_false, not_false_eq_true, nc0, nc1, nc2, nc3, nc4, nc5, nc6, nc7, nc8, nc9, nc10, nc11, nc12, nc13, nc14, nc15, nc16, nc17, nc18, nc19, nc20, nc21, nc22, nc23, nc35, nc47, nc59, nc60, nc61, nc73, nc74, nc214, nc215, nc1115, nc2230, nc3345, if_true, if_false, Int.reduceToNat, hw.k, hw.r0, hw.r1, hw.r2, hw.r3, hw.r4, hw.k1, hw.k2, hw.k3, hw.k4, hw.k5, hw.n1, hw.n2, hw.n3, hw.n4, hw.n5, wv.f6, hc.k11, l0']
        exact e'
      · have b1 : b01 (x = y) = 0 := by unfold b01; rw [if_neg cxy]
        rw [b1, if_neg (by omega)] at nx
        obtain ⟨h', v', e', r', f'⟩ := ih (by omega) (by omega) _ h hc wv lc l0 nx
        refine ⟨h', v', ?_, r', f'⟩
        simp (disch := omega) only [Law_settle_24, Law_settle_31, Law_settle_58, wr_id, ix_id, okx, if_pos, if_neg, Int.toNat_of_nonneg, bak_v, bak_n, wr_b01, wr_bt, b01_or, b01_0, b01_1, lc_lt0, lc_gt0, lc_eq0, wl_wr, wr_wr, wl_id, true_and, and_true, true_or, or_true, not_true_eq_false, not_false_eq_true, nc0, nc1, nc2, nc3, nc4, nc5, nc6, nc7, nc8, nc9, nc10, nc11, nc12, nc13, nc14, nc15, nc16, nc17, nc18, nc19, nc20, nc21, nc22, nc23, nc35, nc47, nc59, nc60, nc61, nc73, nc74, nc214, nc215, nc1115, nc2230, nc3345, if_true, if_false, Int.reduceToNat, hw.k, hw.r0, hw.r1, hw.r2, hw.r3, hw.r4, hw.k1, hw.k2, hw.k3, hw.k4, hw.k5, hw.n1, hw.n2, hw.n3, hw.n4, hw.n5, wv.f6, hc.k11, l0']
        exact e'
    · have lc' := lc c9
      have l1 := lc'.1
      obtain ⟨o1, o2, o3⟩ := lo.2 c9
      obtain ⟨h1, e1, f1, b1⟩ := c_holds (d := d) g lo c9 hu hx ⟨y0, hy⟩ hc wv lc'
      have nx := nxt _ rfl b1
      obtain ⟨h', v', e', r', f'⟩ := ih (by omega) (by omega) _ h1 (hc.fr f1) (wv.fr f1 (fun c k c1 c2 => by unfold pSt; omega)) (fun _ => lc'.fr f1 (by unfold pSt; omega) (fun k => by unfold pSt; omega)) (fun z => by omega) nx
      refine ⟨h', v', ?_, r', f1.tr f'⟩
      rw [← e']
      rcases b1 with z | z
      · rw [z] at e1
        simp (disch := omega) only [Law_settle_24, Law_settle_40, Law_settle_48, Law_settle_58, wr_id, ix_id, okx, if_pos, if_neg, Int.toNat_of_nonneg, bak_v, bak_n, wr_b01, wr_bt, b01_or, b01_0, b01_1, lc_lt0, lc_gt0, lc_eq0, wl_wr, wr_wr, wl_id, true_and, and_true, true_or, or_true, not_true_eq_false, not_false_eq_true, nc0, nc1, nc2, nc3, nc4, nc5, nc6, nc7, nc8, nc9, nc10, nc11, nc12, nc13, nc14, nc15, nc16, nc17, nc18, nc19, nc20, nc21, nc22, nc23, nc35, nc47, nc59, nc60, nc61, nc73, nc74, nc214, nc215, nc1115, nc2230, nc3345, if_true, if_false, Int.reduceToNat, hw.k, hw.r0, hw.r1, hw.r2, hw.r3, hw.r4, hw.k1, hw.k2, hw.k3, hw.k4, hw.k5, hw.n1, hw.n2, hw.n3, hw.n4, hw.n5, wv.f6, hc.k11, l1, e1, z]
      · rw [z] at e1
        simp (disch := omega) only [Law_settle_24, Law_settle_40, Law_settle_48, Law_settle_51, Law_settle_58, wr_id, ix_id, okx, if_pos, if_neg, Int.toNat_of_nonneg, bak_v, bak_n, wr_b01, wr_bt, b01_or, b01_0, b01_1, lc_lt0, lc_gt0, lc_eq0, wl_wr, wr_wr, wl_id, true_and, and_true, true_or, or_true, not_true_eq_false, not_false_eq_true, nc0, nc1, nc2, nc3, nc4, nc5, nc6, nc7, nc8, nc9, nc10, nc11, nc12, nc13, nc14, nc15, nc16, nc17, nc18, nc19, nc20, nc21, nc22, nc23, nc35, nc47, nc59, nc60, nc61, nc73, nc74, nc214, nc215, nc1115, nc2230, nc3345, if_true, if_false, Int.reduceToNat, hw.k, hw.r0, hw.r1, hw.r2, hw.r3, hw.r4, hw.k1, hw.k2, hw.k3, hw.k4, hw.k5, hw.n1, hw.n2, hw.n3, hw.n4, hw.n5, wv.f6, hc.k11, l1, e1, z]
theorem c_set_1 {d w u : Nat} {S : Int → Int} (g : Gd S) (lo : LawOk S) (hu : u = 14 ∨ u = 20) : ∀ x, 0 ≤ x → x ≤ S 1 → ∀ (h : Hp), CR h w → WV h u S → (S 9 = 1 → LC h S) → (S 9 = 0 → hI h 11 2 = 0) → (∀ k : Nat, (k : Int) < x → ∀ r, 0 ≤ r → r < S 2 → bt (hI h (u + 5) k) r = lawV S k r) → ∃ h', EX (d+4) m_Law_settle 2 [(0, .inr (.inr (11))), (1, .inr (.inr (u))), (2, .inl (x))] [] (h) = some (.inl 0, h') ∧ RV h' u S ∧ Fr (fun a k => pSt a k ∨ a = u + 5) h h' := by
  have ga := g.a
  have gb := g.b
  refine up_ind (hi := S 1) ?_ ?_
  · intro x hx x0 x1 h hc wv lc l0 hv
    have e : x = S 1 := by omega
    subst e
    have hw := wv.1
    refine ⟨h, ?_, hv, Fr.rf⟩
    rw [Law_settle_2]
    simp (disch := omega) only [Law_settle_77, wr_id, ix_id, okx, if_pos, if_neg, Int.toNat_of_nonneg, bak_v, bak_n, wr_b01, wr_bt, b01_or, b01_0, b01_1, lc_lt0, lc_gt0, lc_eq0, wl_wr, wr_wr, wl_id, true_and, and_true, true_or, or_true, not_true_eq_false, not_false_eq_true, nc0, nc1, nc2, nc3, nc4, nc5, nc6, nc7, nc8, nc9, nc10, nc11, nc12, nc13, nc14, nc15, nc16, nc17, nc18, nc19, nc20, nc21, nc22, nc23, nc35, nc47, nc59, nc60, nc61, nc73, nc74, nc214, nc215, nc1115, nc2230, nc3345, if_true, if_false, Int.reduceToNat, hw.k, hw.r0, hw.r1, hw.r2, hw.r3, hw.r4, hw.k1, hw.k2, hw.k3, hw.k4, hw.k5, hw.n1, hw.n2, hw.n3, hw.n4, hw.n5, wv.f5]
  · intro x hx ih x0 x1 h hc wv lc l0 hv
    have hw := wv.1
    have b0 : rBt S x 0 0 := fun r r0 r1 => by rw [bt_0, if_neg (by omega)]
    obtain ⟨h1, v1, e1, r1, f1⟩ := c_set_2 (d := d) g lo hu ⟨x0, hx⟩ 0 (by omega) (by omega) 0 h hc wv lc l0 b0
    have wv1 := wv.fr f1 (fun c k c1 c2 => by unfold pSt; omega)
    have hw1 := wv1.1
    have wv2 : WV (pI h1 (u + 5) x.toNat v1) u S := ⟨WinAt.fr hw1 (p := fun a _ => a = u + 5) (Fr.pI Fr.rf rfl), by
      have q := wv1.2.1
      unfold WVf at q ⊢
      simp (disch := omega) only [hI_pI, if_neg]
      exact q, by
      have q := wv1.2.2
      unfold WVa at q ⊢
      simp (disch := omega) only [hI_pI, if_neg]
      exact q⟩
    have f2 : Fr (fun a k => pSt a k ∨ a = u + 5) h (pI h1 (u + 5) x.toNat v1) := Fr.pI (f1.mo (fun a k z => Or.inl z)) (Or.inr rfl)
    obtain ⟨h', e', r', f'⟩ := ih (by omega) (by omega) (pI h1 (u + 5) x.toNat v1) (hc.fr f2) wv2 (fun z => (lc z).fr f2 (by unfold pSt; omega) (fun k => by unfold pSt; omega)) (fun z => by rw [f2.I (by unfold pSt; omega)]; exact l0 z) (fun k hk r r0 r2 => by
      rw [hI_pI]
      by_cases c : k = x.toNat
      · rw [if_pos ⟨rfl, c⟩, r1 r r0 (by omega), if_pos r2, c, Int.toNat_of_nonneg x0]
      · rw [if_neg (fun z => c z.2), f1.I (by unfold pSt; omega)]
        exact hv k (by omega) r r0 r2)
    refine ⟨h', ?_, r', f2.tr f'⟩
    rw [Law_settle_2]
    simp (disch := omega) only [Law_settle_10, wr_id, ix_id, okx, if_pos, if_neg, Int.toNat_of_nonneg, bak_v, bak_n, wr_b01, wr_bt, b01_or, b01_0, b01_1, lc_lt0, lc_gt0, lc_eq0, wl_wr, wr_wr, wl_id, true_and, and_true, true_or, or_true, not_true_eq_false, not_false_eq_true, nc0, nc1, nc2, nc3, nc4, nc5, nc6, nc7, nc8, nc9, nc10, nc11, nc12, nc13, nc14, nc15, nc16, nc17, nc18, nc19, nc20, nc21, nc22, nc23, nc35, nc47, nc59, nc60, nc61, nc73, nc74, nc214, nc215, nc1115, nc2230, nc3345, if_true, if_false, Int.reduceToNat, hw.k, hw.r0, hw.r1, hw.r2, hw.r3, hw.r4, hw.k1, hw.k2, hw.k3, hw.k4, hw.k5, hw.n1, hw.n2, hw.n3, hw.n4, hw.n5, wv.f5]
    rw [e1]
    simp (disch := omega) only [Law_settle_64, Law_settle_71, wr_id, ix_id, okx, if_pos, if_neg, Int.toNat_of_nonneg, bak_v, bak_n, wr_b01, wr_bt, b01_or, b01_0, b01_1, lc_lt0, lc_gt0, lc_eq0, wl_wr, wr_wr, wl_id, true_and, and_true, true_or, or_true, not_true_eq_false, not_false_eq_true, nc0, nc1, nc2, nc3, nc4, nc5, nc6, nc7, nc8, nc9, nc10, nc11, nc12, nc13, nc14, nc15, nc16, nc17, nc18, nc19, nc20, nc21, nc22, nc23, nc35, nc47, nc59, nc60, nc61, nc73, nc74, nc214, nc215, nc1115, nc2230, nc3345, if_true, if_false, Int.reduceToNat, hw1.k, hw1.k5, hw1.n5, hw1.r4]
    exact e'
theorem c_settle {d w u : Nat} {S : Int → Int} {h : Hp} (g : Gd S) (lo : LawOk S) (hu : u = 14 ∨ u = 20) (hc : CR h w) (wv : WV h u S) (lc : S 9 = 1 → LC h S) (l0 : S 9 = 0 → hI h 11 2 = 0) : ∃ h', cal (d+5) m_Law_settle [.inr (.inr (11)), .inr (.inr (u))] (h) = some (.inl 0, h') ∧ RV h' u S ∧ Fr (fun a k => pSt a k ∨ a = u + 5) h h' := by
  have ga := g.a
  obtain ⟨h', e', r', f'⟩ := c_set_1 (d := d) g lo hu 0 (by omega) (by omega) h hc wv lc l0 (fun k hk => by omega)
  refine ⟨h', ?_, r', f'⟩
  show EX (d+4) m_Law_settle 0 [(0, .inr (.inr (11))), (1, .inr (.inr (u)))] [] (h) = _
  rw [Law_settle_0]
  exact e'
