/-! the model: isRight -/
theorem tys_cases {c : Int} {t t' : List Bool} (hs : tys c t = some t') : (0 ≤ c ∧ c < 1006) ∨ (c = 3008 ∧ ∃ r, t = true :: r) ∨ (3000 ≤ c ∧ c ≤ 3007 ∧ ∃ b1 b2 r, t = b1 :: b2 :: r) := by
  unfold tys at hs
  by_cases c1 : 0 ≤ c ∧ c < 1006
  · exact Or.inl c1
  · rw [if_neg c1] at hs
    by_cases c2 : c = 3008
    · rw [if_pos c2] at hs
      match t, hs with
      | true :: r, hs => exact Or.inr (Or.inl ⟨c2, r, rfl⟩)
    · rw [if_neg c2] at hs
      refine Or.inr (Or.inr ?_)
      by_cases c3 : 3000 ≤ c ∧ c ≤ 3002
      · rw [if_pos c3] at hs
        match t, hs with
        | false :: false :: r, hs => exact ⟨by omega, by omega, _, _, _, rfl⟩
      · rw [if_neg c3] at hs
        by_cases c4 : 3003 ≤ c ∧ c ≤ 3005
        · rw [if_pos c4] at hs
          match t, hs with
          | false :: false :: r, hs => exact ⟨by omega, by omega, _, _, _, rfl⟩
        · rw [if_neg c4] at hs
          by_cases c5 : c = 3006 ∨ c = 3007
          · rw [if_pos c5] at hs
            match t, hs with
            | true :: true :: r, hs => exact ⟨by omega, by omega, _, _, _, rfl⟩
          · rw [if_neg c5] at hs
            cases hs
theorem tv_rng {b : Bool} {a : Int} (h : tv b a) : -1000000 ≤ a ∧ a ≤ 1000000 := by
  unfold tv at h
  cases b <;> simp at h <;> omega
theorem m_between {d : Nat} {h : Hp} {c a b : Int} (hc : 3000 ≤ c ∧ c ≤ 3007) (ha : -1000000 ≤ a ∧ a ≤ 1000000) (hb : -1000000 ≤ b ∧ b ≤ 1000000) : cal (d+1) m_Mod_between [.inl (c), .inl (a), .inl (b)] (h) = some (.inl (op2 c a b), h) := by
  show EX (d) m_Mod_between 0 [(0, .inl (c)), (1, .inl (a)), (2, .inl (b))] [] (h) = _
  have hm := mul_rng ha hb
  have : c = 3000 ∨ c = 3001 ∨ c = 3002 ∨ c = 3003 ∨ c = 3004 ∨ c = 3005 ∨ c = 3006 ∨ c = 3007 := by omega
  rcases this with e | e | e | e | e | e | e | e <;> subst e
  · simp (disch := omega) only [Mod_between_0, Mod_between_7, Mod_between_14, Mod_between_42, Mod_between_51, Mod_between_57, Mod_between_65, Mod_between_71, Mod_between_72, wr_id, ix_id, okx, if_pos, if_neg, Int.toNat_of_nonneg, bak_v, bak_n, wr_b01, wr_bt, b01_or, b01_0, b01_1, lc_lt0, lc_gt0, lc_eq0, wl_wr, wr_wr, wl_id, true_and, and_true, true_or, or_true, not_true_eq_false, not_false_eq_true, nc0, nc1, nc2, nc3, nc4, nc5, nc6, nc7, nc8, nc9, nc10, nc11, nc12, nc13, nc14, nc15, nc16, nc17, nc18, nc19, nc20, nc21, nc22, nc23, nc35, nc47, nc59, nc60, nc61, nc73, nc74, nc214, nc215, nc1115, nc2230, nc3345, if_true, if_false, Int.reduceToNat, op2, kp]
    by_cases c1 : 1000000 < a + b
    · simp [c1]
    · by_cases c2 : a + b < -1000000 <;> simp [c1, c2]
  · simp (disch := omega) only [Mod_between_0, Mod_between_7, Mod_between_22, Mod_between_29, Mod_between_42, Mod_between_51, Mod_between_57, Mod_between_65, Mod_between_71, Mod_between_72, wr_id, ix_id, okx, if_pos, if_neg, Int.toNat_of_nonneg, bak_v, bak_n, wr_b01, wr_bt, b01_or, b01_0, b01_1, lc_lt0, lc_gt0, lc_eq0, wl_wr, wr_wr, wl_id, true_and, and_true, true_or, or_true, not_true_eq_false, not_false_eq_true, nc0, nc1, nc2, nc3, nc4, nc5, nc6, nc7, nc8, nc9, nc10, nc11, nc12, nc13, nc14, nc15, nc16, nc17, nc18, nc19, nc20, nc21, nc22, nc23, nc35, nc47, nc59, nc60, nc61, nc73, nc74, nc214, nc215, nc1115, nc2230, nc3345, if_true, if_false, Int.reduceToNat, op2, kp]
    by_cases c1 : 1000000 < a - b
    · simp [c1]
    · by_cases c2 : a - b < -1000000 <;> simp [c1, c2]
  · simp (disch := omega) only [Mod_between_0, Mod_between_7, Mod_between_22, Mod_between_37, Mod_between_42, Mod_between_51, Mod_between_57, Mod_between_65, Mod_between_71, Mod_between_72, wr_id, ix_id, okx, if_pos, if_neg, Int.toNat_of_nonneg, bak_v, bak_n, wr_b01, wr_bt, b01_or, b01_0, b01_1, lc_lt0, lc_gt0, lc_eq0, wl_wr, wr_wr, wl_id, true_and, and_true, true_or, or_true, not_true_eq_false, not_false_eq_true, nc0, nc1, nc2, nc3, nc4, nc5, nc6, nc7, nc8, nc9, nc10, nc11, nc12, nc13, nc14, nc15, nc16, nc17, nc18, nc19, nc20, nc21, nc22, nc23, nc35, nc47, nc59, nc60, nc61, nc73, nc74, nc214, nc215, nc1115, nc2230, nc3345, if_true, if_false, Int.reduceToNat, op2, kp]
    by_cases c1 : 1000000 < a * b
    · simp [c1]
    · by_cases c2 : a * b < -1000000 <;> simp [c1, c2]
  · simp (disch := omega) only [Mod_between_0, Mod_between_74, Mod_between_81, Mod_between_86, Mod_between_90, Mod_between_167, Mod_between_172, Mod_between_176, Mod_between_177, wr_id, ix_id, okx, if_pos, if_neg, Int.toNat_of_nonneg, bak_v, bak_n, wr_b01, wr_bt, b01_or, b01_0, b01_1, lc_lt0, lc_gt0, lc_eq0, wl_wr, wr_wr, wl_id, true_and, and_true, true_or, or_true, not_true_eq_false, not_false_eq_true, nc0, nc1, nc2, nc3, nc4, nc5, nc6, nc7, nc8, nc9, nc10, nc11, nc12, nc13, nc14, nc15, nc16, nc17, nc18, nc19, nc20, nc21, nc22, nc23, nc35, nc47, nc59, nc60, nc61, nc73, nc74, nc214, nc215, nc1115, nc2230, nc3345, if_true, if_false, Int.reduceToNat, op2, b01]
    by_cases c1 : a = b <;> simp [c1]
  · simp (disch := omega) only [Mod_between_0, Mod_between_74, Mod_between_94, Mod_between_101, Mod_between_106, Mod_between_110, Mod_between_167, Mod_between_172, Mod_between_176, Mod_between_177, wr_id, ix_id, okx, if_pos, if_neg, Int.toNat_of_nonneg, bak_v, bak_n, wr_b01, wr_bt, b01_or, b01_0, b01_1, lc_lt0, lc_gt0, lc_eq0, wl_wr, wr_wr, wl_id, true_and, and_true, true_or, or_true, not_true_eq_false, not_false_eq_true, nc0, nc1, nc2, nc3, nc4, nc5, nc6, nc7, nc8, nc9, nc10, nc11, nc12, nc13, nc14, nc15, nc16, nc17, nc18, nc19, nc20, nc21, nc22, nc23, nc35, nc47, nc59, nc60, nc61, nc73, nc74, nc214, nc215, nc1115, nc2230, nc3345, if_true, if_false, Int.reduceToNat, op2, b01]
    by_cases c1 : a < b <;> simp [c1]
  · simp (disch := omega) only [Mod_between_0, Mod_between_74, Mod_between_94, Mod_between_114, Mod_between_121, Mod_between_126, Mod_between_130, Mod_between_167, Mod_between_172, Mod_between_176, Mod_between_177, wr_id, ix_id, okx, if_pos, if_neg, Int.toNat_of_nonneg, bak_v, bak_n, wr_b01, wr_bt, b01_or, b01_0, b01_1, lc_lt0, lc_gt0, lc_eq0, wl_wr, wr_wr, wl_id, true_and, and_true, true_or, or_true, not_true_eq_false, not_false_eq_true, nc0, nc1, nc2, nc3, nc4, nc5, nc6, nc7, nc8, nc9, nc10, nc11, nc12, nc13, nc14, nc15, nc16, nc17, nc18, nc19, nc20, nc21, nc22, nc23, nc35, nc47, nc59, nc60, nc61, nc73, nc74, nc214, nc215, nc1115, nc2230, nc3345, if_true, if_false, Int.reduceToNat, op2, b01]
    by_cases c1 : b < a <;> simp [c1]
  · simp (disch := omega) only [Mod_between_0, Mod_between_74, Mod_between_94, Mod_between_114, Mod_between_134, Mod_between_141, Mod_between_148, Mod_between_152, Mod_between_167, Mod_between_172, Mod_between_176, Mod_between_177, wr_id, ix_id, okx, if_pos, if_neg, Int.toNat_of_nonneg, bak_v, bak_n, wr_b01, wr_bt, b01_or, b01_0, b01_1, lc_lt0, lc_gt0, lc_eq0, wl_wr, wr_wr, wl_id, true_and, and_true, true_or, or_true, not_true_eq_false, not_false_eq_true, nc0, nc1, nc2, nc3, nc4, nc5, nc6, nc7, nc8, nc9, nc10, nc11, nc12, nc13, nc14, nc15, nc16, nc17, nc18, nc19, nc20, nc21, nc22, nc23, nc35, nc47, nc59, nc60, nc61, nc73, nc74, nc214, nc215, nc1115, nc2230, nc3345, if_true, if_false, Int.reduceToNat, op2, b01]
    by_cases c1 : a + b = 2 <;> simp [c1]
  · simp (disch := omega) only [Mod_between_0, Mod_between_74, Mod_between_94, Mod_between_114, Mod_between_134, Mod_between_156, Mod_between_162, Mod_between_166, Mod_between_167, Mod_between_172, Mod_between_176, Mod_between_177, wr_id, ix_id, okx, if_pos, if_neg, Int.toNat_of_nonneg, bak_v, bak_n, wr_b01, wr_bt, b01_or, b01_0, b01_1, lc_lt0, lc_gt0, lc_eq0, wl_wr, wr_wr, wl_id, true_and, and_true, true_or, or_true, not_true_eq_false, not_false_eq_true, nc0, nc1, nc2, nc3, nc4, nc5, nc6, nc7, nc8, nc9, nc10, nc11, nc12, nc13, nc14, nc15, nc16, nc17, nc18, nc19, nc20, nc21, nc22, nc23, nc35, nc47, nc59, nc60, nc61, nc73, nc74, nc214, nc215, nc1115, nc2230, nc3345, if_true, if_false, Int.reduceToNat, op2, b01]
    by_cases c1 : 0 < a + b <;> simp [c1]
theorem m_wordOf {d : Nat} {h : Hp} {S : Int → Int} (ms : MS h S) {c x y : Int} (hc : 0 ≤ c ∧ c < 3000) (hx : 0 ≤ x ∧ x < 12) (hy : 0 ≤ y ∧ y < 12) : cal (d+1) m_Mod_wordOf [.inr (.inr (72)), .inl (c), .inl (x), .inl (y)] (h) = some (.inl (cellV S x y c), h) := by
  have hm := ms.1
  show EX (d) m_Mod_wordOf 0 [(0, .inr (.inr (72))), (1, .inl (c)), (2, .inl (x)), (3, .inl (y))] [] (h) = _
  simp (disch := omega) only [Mod_wordOf_0, Mod_wordOf_40, Mod_wordOf_42, Mod_wordOf_44, Mod_wordOf_54, Mod_wordOf_64, Mod_wordOf_71, Mod_wordOf_78, wr_id, ix_id, okx, if_pos, if_neg, Int.toNat_of_nonneg, bak_v, bak_n, wr_b01, wr_bt, b01_or, b01_0, b01_1, lc_lt0, lc_gt0, lc_eq0, wl_wr, wr_wr, wl_id, true_and, and_true, true_or, or_true, not_true_eq_false, not_false_eq_true, nc0, nc1, nc2, nc3, nc4, nc5, nc6, nc7, nc8, nc9, nc10, nc11, nc12, nc13, nc14, nc15, nc16, nc17, nc18, nc19, nc20, nc21, nc22, nc23, nc35, nc47, nc59, nc60, nc61, nc73, nc74, nc214, nc215, nc1115, nc2230, nc3345, if_true, if_false, Int.reduceToNat, hm.k, hm.r1, hm.r2, hm.r3, hm.r4, hm.r15, hm.r16, hm.r19, hm.r23, hm.r24, hm.r25, hm.r26, hm.r29, hm.r30, hm.r31, hm.r33, hm.r34, hm.r35, hm.k73, hm.k74, hm.k75, hm.k76, hm.k77, hm.k78, hm.k79, hm.k80, hm.k81, hm.k82, hm.k83, hm.k84, hm.k85, hm.k86, hm.k87, hm.k88, hm.k89, hm.n73, hm.n74, hm.n75, hm.n76, hm.n77, hm.n78, hm.n79, hm.n80, hm.n81, hm.n82, hm.n83, hm.n84, hm.n85, hm.n86, hm.n87, hm.n88, hm.n89, ms.2, cellV]
  repeat' split
  all_goals first | rfl | omega
theorem up_row {h : Hp} {a : Nat} {R : Int → Int} (hR : ∀ j : Nat, hI h a j = R j) {z v : Int} (hz : 0 ≤ z) : ∀ j : Nat, hI (pI h a z.toNat v) a j = up R z v j := by
  intro j
  rw [hI_pI]
  unfold up
  by_cases c : j = z.toNat
  · rw [if_pos ⟨rfl, c⟩, if_pos (by omega)]
  · rw [if_neg (fun q => c q.2), if_neg (by omega), hR]
theorem m_isRight_l {d : Nat} {S : Int → Int} (g : Gd S) (h214 : S 214 ≤ 900) {x y : Int} (hx : 0 ≤ x ∧ x < S 1) (hy : 0 ≤ y ∧ y < S 2) : ∀ (n : Nat) (k : Int) (st : List Int) (t : List Bool) (h : Hp) (R : Int → Int), MS h S → (∀ j : Nat, hI h 77 j = R j) → StkA R st → TyS st t → k + n = S 214 → 0 ≤ k → tyr S n k t = some [true] → t.length ≤ 60 → ∃ h', EX (d+1) m_Mod_isRight 26 [(0, .inr (.inr (72))), (1, .inl (x)), (2, .inl (y)), (3, .inl ((st.length : Int))), (4, .inl (k))] [] (h) = some (.inl ((evl S x y n k st).headD 0), h') ∧ Fr (fun a _ => a = 77) h h' ∧ (((evl S x y n k st).headD 0 = 0) ∨ ((evl S x y n k st).headD 0 = 1)) := by
  have ga := g.a
  have gb := g.b
  have g1 := g.1.2.2.2.2.2.2.2.2.2.2.2.1 x (by omega) (by omega)
  have g2 := g.1.2.2.2.2.2.2.2.2.2.2.2.2.1 y (by omega) (by omega)
  intro n
  induction n with
  | zero =>
    intro k st t h R ms hR hst hty hk h0 hr hl
    have hm := ms.1
    cases hr
    match st, hty with
    | [v], hty =>
      have hv := hty.1
      simp only [tv, if_true] at hv
      have hv0 : hI h 77 0 = v := (hR 0).trans hst.1
      refine ⟨h, ?_, Fr.rf, hv⟩
      rw [Mod_isRight_26]
      simp (disch := omega) only [Mod_isRight_145, Mod_isRight_155, Mod_isRight_159, Mod_isRight_160, wr_id, ix_id, okx, if_pos, if_neg, Int.toNat_of_nonneg, bak_v, bak_n, wr_b01, wr_bt, b01_or, b01_0, b01_1, lc_lt0, lc_gt0, lc_eq0, wl_wr, wr_wr, wl_id, true_and, and_true, true_or, or_true, not_true_eq_false, not_false_eq_true, nc0, nc1, nc2, nc3, nc4, nc5, nc6, nc7, nc8, nc9, nc10, nc11, nc12, nc13, nc14, nc15, nc16, nc17, nc18, nc19, nc20, nc21, nc22, nc23, nc35, nc47, nc59, nc60, nc61, nc73, nc74, nc214, nc215, nc1115, nc2230, nc3345, if_true, if_false, Int.reduceToNat, hm.k, hm.r1, hm.r2, hm.r3, hm.r4, hm.r15, hm.r16, hm.r19, hm.r23, hm.r24, hm.r25, hm.r26, hm.r29, hm.r30, hm.r31, hm.r33, hm.r34, hm.r35, hm.k73, hm.k74, hm.k75, hm.k76, hm.k77, hm.k78, hm.k79, hm.k80, hm.k81, hm.k82, hm.k83, hm.k84, hm.k85, hm.k86, hm.k87, hm.k88, hm.k89, hm.n73, hm.n74, hm.n75, hm.n76, hm.n77, hm.n78, hm.n79, hm.n80, hm.n81, hm.n82, hm.n83, hm.n84, hm.n85, hm.n86, hm.n87, hm.n88, hm.n89, ms.2, hv0]
      rcases hv with e | e <;> subst e <;> rfl
  | succ n ih =>
    intro k st t h R ms hR hst hty hk h0 hr hl
    have hm := ms.1
    have hlen := hty.len
    simp only [tyr] at hr
    cases hq : tys (S (215 + k)) t with
    | none => rw [hq] at hr; cases hr
    | some t' =>
      rw [hq] at hr
      dsimp only at hr
      by_cases hl' : t'.length ≤ 60
      · rw [if_pos hl'] at hr
        have hstep := (tys_step (S := S) (x := x) (y := y) (by omega) (by omega) (by omega) (by omega) (by omega) (by omega) hty hq).1
        have hlen' := hstep.len
        have hkn : k < S 214 := by omega
        rw [Mod_isRight_26]
        rcases tys_cases hq with c1 | ⟨c1, r, c2⟩ | ⟨c1, c1', b1, b2, r, c2⟩
        · have e1 : stp S x y (S (215 + k)) st = cellV S x y (S (215 + k)) :: st := by
            unfold stp; rw [if_pos (by omega)]
          rw [e1] at hstep
          have hl2 : ((st.length : Int)).toNat = st.length := by omega
          obtain ⟨h', q1, q2, q3⟩ := ih (k + 1) (cellV S x y (S (215 + k)) :: st) t' (pI h 77 (st.length : Int).toNat (cellV S x y (S (215 + k)))) (up R st.length (cellV S x y (S (215 + k)))) ⟨hm.pI _ _ _, fun j => by rw [hI_pI, if_neg (by omega), ms.2]⟩ (up_row hR (by omega)) ⟨up_same _ _ _, hst.up (by omega)⟩ hstep (by omega) (by omega) hr hl'
          refine ⟨h', ?_, ?_, ?_⟩
          · simp (disch := omega) only [Mod_isRight_39, Mod_isRight_60, Mod_isRight_73, Mod_isRight_74, Mod_isRight_139, wr_id, ix_id, okx, if_pos, if_neg, Int.toNat_of_nonneg, bak_v, bak_n, wr_b01, wr_bt, b01_or, b01_0, b01_1, lc_lt0, lc_gt0, lc_eq0, wl_wr, wr_wr, wl_id, true_and, and_true, true_or, or_true, not_true_eq_false, not_false_eq_true, nc0, nc1, nc2, nc3, nc4, nc5, nc6, nc7, nc8, nc9, nc10, nc11, nc12, nc13, nc14, nc15, nc16, nc17, nc18, nc19, nc20, nc21, nc22, nc23, nc35, nc47, nc59, nc60, nc61, nc73, nc74, nc214, nc215, nc1115, nc2230, nc3345, if_true, if_false, Int.reduceToNat, hm.k, hm.r1, hm.r2, hm.r3, hm.r4, hm.r15, hm.r16, hm.r19, hm.r23, hm.r24, hm.r25, hm.r26, hm.r29, hm.r30, hm.r31, hm.r33, hm.r34, hm.r35, hm.k73, hm.k74, hm.k75, hm.k76, hm.k77, hm.k78, hm.k79, hm.k80, hm.k81, hm.k82, hm.k83, hm.k84, hm.k85, hm.k86, hm.k87, hm.k88, hm.k89, hm.n73, hm.n74, hm.n75, hm.n76, hm.n77, hm.n78, hm.n79, hm.n80, hm.n81, hm.n82, hm.n83, hm.n84, hm.n85, hm.n86, hm.n87, hm.n88, hm.n89, ms.2, m_wordOf ms]
            simp only [List.length_cons, Int.natCast_add, nc1] at q1
            rw [q1]
            simp only [evl, e1]
          · exact Fr.tr (Fr.pI (p := fun a _ => a = 77) Fr.rf rfl) q2
          · simp only [evl, e1]
            exact q3
        · subst c2
          match st, hty, hst with
          | a :: q, hty, hst =>
            have ha := tv_rng hty.1
            have e1 : stp S x y (S (215 + k)) (a :: q) = (1 - a) :: q := by
              unfold stp; rw [if_neg (by omega), if_pos c1]
            rw [e1] at hstep
            have hR0 : hI h 77 ((q.length : Int)).toNat = a := by
              rw [hR, Int.toNat_of_nonneg (by omega)]; exact hst.1
            obtain ⟨h', q1, q2, q3⟩ := ih (k + 1) ((1 - a) :: q) t' (pI h 77 (q.length : Int).toNat (1 - a)) (up R q.length (1 - a)) ⟨hm.pI _ _ _, fun j => by rw [hI_pI, if_neg (by omega), ms.2]⟩ (up_row hR (by omega)) ⟨up_same _ _ _, hst.2.up (by omega)⟩ hstep (by omega) (by omega) hr hl'
            simp only [List.length_cons] at hlen hl
            refine ⟨h', ?_, ?_, ?_⟩
            · have e9 : (((a :: q).length : Nat) : Int) - 1 = (q.length : Int) := by simp
              have e10 : (((a :: q).length : Nat) : Int) = (q.length : Int) + 1 := by simp
              simp (disch := omega) only [Mod_isRight_39, Mod_isRight_80, Mod_isRight_88, Mod_isRight_106, Mod_isRight_139, wr_id, ix_id, okx, if_pos, if_neg, Int.toNat_of_nonneg, bak_v, bak_n, wr_b01, wr_bt, b01_or, b01_0, b01_1, lc_lt0, lc_gt0, lc_eq0, wl_wr, wr_wr, wl_id, true_and, and_true, true_or, or_true, not_true_eq_false, not_false_eq_true, nc0, nc1, nc2, nc3, nc4, nc5, nc6, nc7, nc8, nc9, nc10, nc11, nc12, nc13, nc14, nc15, nc16, nc17, nc18, nc19, nc20, nc21, nc22, nc23, nc35, nc47, nc59, nc60, nc61, nc73, nc74, nc214, nc215, nc1115, nc2230, nc3345, if_true, if_false, Int.reduceToNat, hm.k, hm.r1, hm.r2, hm.r3, hm.r4, hm.r15, hm.r16, hm.r19, hm.r23, hm.r24, hm.r25, hm.r26, hm.r29, hm.r30, hm.r31, hm.r33, hm.r34, hm.r35, hm.k73, hm.k74, hm.k75, hm.k76, hm.k77, hm.k78, hm.k79, hm.k80, hm.k81, hm.k82, hm.k83, hm.k84, hm.k85, hm.k86, hm.k87, hm.k88, hm.k89, hm.n73, hm.n74, hm.n75, hm.n76, hm.n77, hm.n78, hm.n79, hm.n80, hm.n81, hm.n82, hm.n83, hm.n84, hm.n85, hm.n86, hm.n87, hm.n88, hm.n89, ms.2, e10, Int.add_sub_cancel, hR0]
              simp only [List.length_cons, Int.natCast_add, nc1] at q1
              rw [q1]
              simp only [evl, e1]
            · exact Fr.tr (Fr.pI (p := fun a _ => a = 77) Fr.rf rfl) q2
            · simp only [evl, e1]
              exact q3
        · match st, t, hty, hst, c2 with
          | b :: a :: q, _ :: _ :: _, hty, hst, c2 =>
            have hb := tv_rng hty.1
            have ha := tv_rng hty.2.1
            have e1 : stp S x y (S (215 + k)) (b :: a :: q) = op2 (S (215 + k)) a b :: q := by
              unfold stp; rw [if_neg (by omega), if_neg (by omega)]
            rw [e1] at hstep
            have hR0 : hI h 77 ((q.length : Int)).toNat = a := by
              rw [hR, Int.toNat_of_nonneg (by omega)]; exact hst.2.1
            have hR1 : hI h 77 ((q.length : Int) + 1).toNat = b := by
              rw [hR, Int.toNat_of_nonneg (by omega)]; have := hst.1; simpa using this
            obtain ⟨h', q1, q2, q3⟩ := ih (k + 1) (op2 (S (215 + k)) a b :: q) t' (pI h 77 (q.length : Int).toNat (op2 (S (215 + k)) a b)) (up R q.length (op2 (S (215 + k)) a b)) ⟨hm.pI _ _ _, fun j => by rw [hI_pI, if_neg (by omega), ms.2]⟩ (up_row hR (by omega)) ⟨up_same _ _ _, hst.2.2.up (by omega)⟩ hstep (by omega) (by omega) hr hl'
            simp only [List.length_cons] at hlen hl
            refine ⟨h', ?_, ?_, ?_⟩
            · have e10 : (((b :: a :: q).length : Nat) : Int) = (q.length : Int) + 1 + 1 := by simp
              have e11 : (q.length : Int) + 1 + 1 + -1 = (q.length : Int) + 1 := by omega
              simp (disch := omega) only [Mod_isRight_39, Mod_isRight_80, Mod_isRight_109, Mod_isRight_138, Mod_isRight_139, wr_id, ix_id, okx, if_pos, if_neg, Int.toNat_of_nonneg, bak_v, bak_n, wr_b01, wr_bt, b01_or, b01_0, b01_1, lc_lt0, lc_gt0, lc_eq0, wl_wr, wr_wr, wl_id, true_and, and_true, true_or, or_true, not_true_eq_false, not_false_eq_true, nc0, nc1, nc2, nc3, nc4, nc5, nc6, nc7, nc8, nc9, nc10, nc11, nc12, nc13, nc14, nc15, nc16, nc17, nc18, nc19, nc20, nc21, nc22, nc23, nc35, nc47, nc59, nc60, nc61, nc73, nc74, nc214, nc215, nc1115, nc2230, nc3345, if_true, if_false, Int.reduceToNat, hm.k, hm.r1, hm.r2, hm.r3, hm.r4, hm.r15, hm.r16, hm.r19, hm.r23, hm.r24, hm.r25, hm.r26, hm.r29, hm.r30, hm.r31, hm.r33, hm.r34, hm.r35, hm.k73, hm.k74, hm.k75, hm.k76, hm.k77, hm.k78, hm.k79, hm.k80, hm.k81, hm.k82, hm.k83, hm.k84, hm.k85, hm.k86, hm.k87, hm.k88, hm.k89, hm.n73, hm.n74, hm.n75, hm.n76, hm.n77, hm.n78, hm.n79, hm.n80, hm.n81, hm.n82, hm.n83, hm.n84, hm.n85, hm.n86, hm.n87, hm.n88, hm.n89, ms.2, e10, e11, Int.add_sub_cancel, hR0, hR1, m_between]
              simp only [List.length_cons, Int.natCast_add, nc1] at q1
              rw [q1]
              simp only [evl, e1]
            · exact Fr.tr (Fr.pI (p := fun a _ => a = 77) Fr.rf rfl) q2
            · simp only [evl, e1]
              exact q3
      · rw [if_neg hl'] at hr
        cases hr
theorem m_isRight {d : Nat} {h : Hp} {S : Int → Int} (ms : MS h S) (g : Gd S) (lo : LawOk S) {x y : Int} (hx : 0 ≤ x ∧ x < S 1) (hy : 0 ≤ y ∧ y < S 2) : ∃ h', cal (d+2) m_Mod_isRight [.inr (.inr (72)), .inl (x), .inl (y)] (h) = some (.inl (lawV S x y), h') ∧ Fr (fun a _ => a = 77) h h' ∧ (lawV S x y = 0 ∨ lawV S x y = 1) := by
  have hm := ms.1
  have ga := g.a
  have gb := g.b
  unfold lawV
  rcases lo.1 with c | c
  · refine ⟨h, ?_, Fr.rf, by rw [if_pos c]; exact of_eq_true (b01_or _)⟩
    show EX (d+1) m_Mod_isRight 0 [(0, .inr (.inr (72))), (1, .inl (x)), (2, .inl (y))] [] (h) = _
    simp (disch := omega) only [Mod_isRight_0, Mod_isRight_10, Mod_isRight_15, Mod_isRight_19, Mod_isRight_20, wr_id, ix_id, okx, if_pos, if_neg, Int.toNat_of_nonneg, bak_v, bak_n, wr_b01, wr_bt, b01_or, b01_0, b01_1, lc_lt0, lc_gt0, lc_eq0, wl_wr, wr_wr, wl_id, true_and, and_true, true_or, or_true, not_true_eq_false, not_false_eq_true, nc0, nc1, nc2, nc3, nc4, nc5, nc6, nc7, nc8, nc9, nc10, nc11, nc12, nc13, nc14, nc15, nc16, nc17, nc18, nc19, nc20, nc21, nc22, nc23, nc35, nc47, nc59, nc60, nc61, nc73, nc74, nc214, nc215, nc1115, nc2230, nc3345, if_true, if_false, Int.reduceToNat, hm.k, hm.r1, hm.r2, hm.r3, hm.r4, hm.r15, hm.r16, hm.r19, hm.r23, hm.r24, hm.r25, hm.r26, hm.r29, hm.r30, hm.r31, hm.r33, hm.r34, hm.r35, hm.k73, hm.k74, hm.k75, hm.k76, hm.k77, hm.k78, hm.k79, hm.k80, hm.k81, hm.k82, hm.k83, hm.k84, hm.k85, hm.k86, hm.k87, hm.k88, hm.k89, hm.n73, hm.n74, hm.n75, hm.n76, hm.n77, hm.n78, hm.n79, hm.n80, hm.n81, hm.n82, hm.n83, hm.n84, hm.n85, hm.n86, hm.n87, hm.n88, hm.n89, ms.2, c, b01]
    by_cases e : x = y <;> simp [e]
  · obtain ⟨l1, l2, l3⟩ := lo.2 c
    obtain ⟨h', q1, q2, q3⟩ := m_isRight_l (d := d) g l2 hx hy (S 214).toNat 0 [] [] h (fun z => hI h 77 z.toNat) ms (fun j => by simp) trivial trivial (by omega) (by omega) l3 (by simp)
    rw [if_neg (by omega)]
    refine ⟨h', ?_, q2, q3⟩
    show EX (d+1) m_Mod_isRight 0 [(0, .inr (.inr (72))), (1, .inl (x)), (2, .inl (y))] [] (h) = _
    simp (disch := omega) only [Mod_isRight_0, Mod_isRight_21, wr_id, ix_id, okx, if_pos, if_neg, Int.toNat_of_nonneg, bak_v, bak_n, wr_b01, wr_bt, b01_or, b01_0, b01_1, lc_lt0, lc_gt0, lc_eq0, wl_wr, wr_wr, wl_id, true_and, and_true, true_or, or_true, not_true_eq_false, not_false_eq_true, nc0, nc1, nc2, nc3, nc4, nc5, nc6, nc7, nc8, nc9, nc10, nc11, nc12, nc13, nc14, nc15, nc16, nc17, nc18, nc19, nc20, nc21, nc22, nc23, nc35, nc47, nc59, nc60, nc61, nc73, nc74, nc214, nc215, nc1115, nc2230, nc3345, if_true, if_false, Int.reduceToNat, hm.k, hm.r1, hm.r2, hm.r3, hm.r4, hm.r15, hm.r16, hm.r19, hm.r23, hm.r24, hm.r25, hm.r26, hm.r29, hm.r30, hm.r31, hm.r33, hm.r34, hm.r35, hm.k73, hm.k74, hm.k75, hm.k76, hm.k77, hm.k78, hm.k79, hm.k80, hm.k81, hm.k82, hm.k83, hm.k84, hm.k85, hm.k86, hm.k87, hm.k88, hm.k89, hm.n73, hm.n74, hm.n75, hm.n76, hm.n77, hm.n78, hm.n79, hm.n80, hm.n81, hm.n82, hm.n83, hm.n84, hm.n85, hm.n86, hm.n87, hm.n88, hm.n89, ms.2]
    exact q1
