/-! the model reads lines -/
def mrW (h' : Hp) (T : Int → Int) (n : Int) (r : RW2) : Prop := match r with
  | .inl e => MF h' e
  | .inr q => MP h' T n q.1 q.2
theorem MP.rs {h : Hp} {T : Int → Int} {n a : Int} {S : Int → Int} (m : MP h T n a S) : RS h 76 S := ⟨m.1.1.k76, by rw [m.1.1.n76]; omega, by rw [m.1.1.n76]; omega, m.2.2.2.1⟩
theorem pR76 {h : Hp} {z : Nat} {v : Int} : Fr pPs h (pI h 76 z v) := Fr.pI Fr.rf (Or.inl rfl)
theorem m_row_l {d : Nat} {T : Int → Int} {n o : Int} (ho : o = 11 ∨ o = 23) : ∀ (c : Nat) (k a : Int) (S : Int → Int) (h : Hp), c + k = 13 → 0 ≤ k → k ≤ 11 → MP h T n a S → ∃ h' v, EX (d+3) m_Mod_takesRow 2 [(0, .inr (.inr (72))), (1, .inl (o)), (2, .inl (k))] [] (h) = some (.inl v, h') ∧ (match rwP T n o c k a S with | .inl e => MF h' e | .inr q => v = q.2.1 ∧ MP h' T n q.1 q.2.2) ∧ Fr pPs h h' := by
  intro c
  induction c with
  | zero => intro k a S h hc k0 k1; omega
  | succ c ih =>
    intro k a S h hc k0 k1 m
    have hm := m.1.1
    have h11 := m.2.2.1
    have rg := m.rng
    have i21 := m_is (d := d + 2) m (k := 21) (by omega)
    simp only [rwP]
    by_cases c1 : k = 0 ∨ tkK T n a = 21
    · rw [if_pos c1]
      have st : EX (d+3) m_Mod_takesRow 2 [(0, .inr (.inr (72))), (1, .inl (o)), (2, .inl (k))] [] (h) = EX (d+3) m_Mod_takesRow 22 [(0, .inr (.inr (72))), (1, .inl (o)), (2, .inl (k))] [] (h) := by
        rw [Mod_takesRow_2]
        by_cases ck : k = 0
        · simp (disch := omega) only [Mod_takesRow_9, wr_id, ix_id, okx, if_pos, if_neg, Int.toNat_of_nonneg, bak_v, bak_n, wr_b01, wr_bt, b01_or, b01_0, b01_1, lc_lt0, lc_gt0, lc_eq0, wl_wr, wr_wr, wl_id, true_and, and_true, true_or, or_true, not_true_eq_false, not_false_eq_true, nc0, nc1, nc2, nc3, nc4, nc5, nc6, nc7, nc8, nc9, nc10, nc11, nc12, nc13, nc14, nc15, nc16, nc17, nc18, nc19, nc20, nc21, nc22, nc23, nc35, nc47, nc59, nc60, nc61, nc73, nc74, nc214, nc215, nc1115, nc2230, nc3345, if_true, if_false, Int.reduceToNat, hm.k, h11]
        · have b1 : b01 (tkK T n a = 21) = 1 := by unfold b01; rw [if_pos (by omega)]
          rw [b1] at i21
          simp (disch := omega) only [Mod_takesRow_9, Mod_takesRow_13, Mod_takesRow_19, wr_id, ix_id, okx, if_pos, if_neg, Int.toNat_of_nonneg, bak_v, bak_n, wr_b01, wr_bt, b01_or, b01_0, b01_1, lc_lt0, lc_gt0, lc_eq0, wl_wr, wr_wr, wl_id, true_and, and_true, true_or, or_true, not_true_eq_false, not_false_eq_true, nc0, nc1, nc2, nc3, nc4, nc5, nc6, nc7, nc8, nc9, nc10, nc11, nc12, nc13, nc14, nc15, nc16, nc17, nc18, nc19, nc20, nc21, nc22, nc23, nc35, nc47, nc59, nc60, nc61, nc73, nc74, nc214, nc215, nc1115, nc2230, nc3345, if_true, if_false, Int.reduceToNat, hm.k, h11, i21]
      by_cases c2 : k = 11 ∧ tkK T n a = 21 ∧ 1 ≤ tkN T n a ∧ tkN T n a ≤ 99
      · rw [if_pos c2]
        have k10 := m.2.1.2.2.2 c2.2.1
        have nr := tkN_rng (T := T) rg.2.1
        have b1 : b01 (tkK T n a = 21) = 1 := by unfold b01; rw [if_pos (by omega)]
        rw [b1] at i21
        have b2 : b01 (1 ≤ tkN T n a ∧ tkN T n a ≤ 99) = 1 := by unfold b01; rw [if_pos (by omega)]
        obtain ⟨h1, e1, m1, f1⟩ := m_fails (d := d + 2) m (f := 4) (by omega)
        rw [if_neg (by omega)] at m1
        have hm1 := (m.1.ps f1).1
        have et := m_takesF (d := d) hm1 m1 1 99
        obtain ⟨w1, -, -⟩ := id m1
        dsimp only at w1
        refine ⟨h1, 0, ?_, m1, f1⟩
        refine st.trans ?_
        simp (disch := omega) only [Mod_takesRow_22, Mod_takesRow_28, Mod_takesRow_34, Mod_takesRow_37, Mod_takesRow_49, Mod_takesRow_52, Mod_takesRow_57, wr_id, ix_id, okx, if_pos, if_neg, Int.toNat_of_nonneg, bak_v, bak_n, wr_b01, wr_bt, b01_or, b01_0, b01_1, lc_lt0, lc_gt0, lc_eq0, wl_wr, wr_wr, wl_id, true_and, and_true, true_or, or_true, not_true_eq_false, not_false_eq_true, nc0, nc1, nc2, nc3, nc4, nc5, nc6, nc7, nc8, nc9, nc10, nc11, nc12, nc13, nc14, nc15, nc16, nc17, nc18, nc19, nc20, nc21, nc22, nc23, nc35, nc47, nc59, nc60, nc61, nc73, nc74, nc214, nc215, nc1115, nc2230, nc3345, if_true, if_false, Int.reduceToNat, hm.k, i21, k10, m_within, b2, e1, hm1.k, et]
        simp (disch := omega) only [Mod_takesRow_64, Mod_takesRow_72, wr_id, ix_id, okx, if_pos, if_neg, Int.toNat_of_nonneg, bak_v, bak_n, wr_b01, wr_bt, b01_or, b01_0, b01_1, lc_lt0, lc_gt0, lc_eq0, wl_wr, wr_wr, wl_id, true_and, and_true, true_or, or_true, not_true_eq_false, not_false_eq_true, nc0, nc1, nc2, nc3, nc4, nc5, nc6, nc7, nc8, nc9, nc10, nc11, nc12, nc13, nc14, nc15, nc16, nc17, nc18, nc19, nc20, nc21, nc22, nc23, nc35, nc47, nc59, nc60, nc61, nc73, nc74, nc214, nc215, nc1115, nc2230, nc3345, if_true, if_false, Int.reduceToNat, hm1.k, w1]
      · rw [if_neg c2]
        have st2 : EX (d+3) m_Mod_takesRow 22 [(0, .inr (.inr (72))), (1, .inl (o)), (2, .inl (k))] [] (h) = EX (d+3) m_Mod_takesRow 57 [(0, .inr (.inr (72))), (1, .inl (o)), (2, .inl (k))] [] (h) := by
          by_cases ck : k = 11
          · by_cases c21 : tkK T n a = 21
            · have k10 := m.2.1.2.2.2 c21
              have nr := tkN_rng (T := T) rg.2.1
              have b1 : b01 (tkK T n a = 21) = 1 := by unfold b01; rw [if_pos (by omega)]
              rw [b1] at i21
              have b2 : b01 (1 ≤ tkN T n a ∧ tkN T n a ≤ 99) = 0 := by unfold b01; rw [if_neg (fun z => c2 ⟨ck, c21, z⟩)]
              simp (disch := omega) only [Mod_takesRow_22, Mod_takesRow_28, Mod_takesRow_34, Mod_takesRow_37, Mod_takesRow_49, wr_id, ix_id, okx, if_pos, if_neg, Int.toNat_of_nonneg, bak_v, bak_n, wr_b01, wr_bt, b01_or, b01_0, b01_1, lc_lt0, lc_gt0, lc_eq0, wl_wr, wr_wr, wl_id, true_and, and_true, true_or, or_true, not_true_eq_false, not_false_eq_true, nc0, nc1, nc2, nc3, nc4, nc5, nc6, nc7, nc8, nc9, nc10, nc11, nc12, nc13, nc14, nc15, nc16, nc17, nc18, nc19, nc20, nc21, nc22, nc23, nc35, nc47, nc59, nc60, nc61, nc73, nc74, nc214, nc215, nc1115, nc2230, nc3345, if_true, if_false, Int.reduceToNat, hm.k, i21, k10, m_within, b2]
            · have b1 : b01 (tkK T n a = 21) = 0 := by unfold b01; rw [if_neg c21]
              rw [b1] at i21
              simp (disch := omega) only [Mod_takesRow_22, Mod_takesRow_28, Mod_takesRow_34, wr_id, ix_id, okx, if_pos, if_neg, Int.toNat_of_nonneg, bak_v, bak_n, wr_b01, wr_bt, b01_or, b01_0, b01_1, lc_lt0, lc_gt0, lc_eq0, wl_wr, wr_wr, wl_id, true_and, and_true, true_or, or_true, not_true_eq_false, not_false_eq_true, nc0, nc1, nc2, nc3, nc4, nc5, nc6, nc7, nc8, nc9, nc10, nc11, nc12, nc13, nc14, nc15, nc16, nc17, nc18, nc19, nc20, nc21, nc22, nc23, nc35, nc47, nc59, nc60, nc61, nc73, nc74, nc214, nc215, nc1115, nc2230, nc3345, if_true, if_false, Int.reduceToNat, hm.k, i21]
          · simp (disch := omega) only [Mod_takesRow_22, wr_id, ix_id, okx, if_pos, if_neg, Int.toNat_of_nonneg, bak_v, bak_n, wr_b01, wr_bt, b01_or, b01_0, b01_1, lc_lt0, lc_gt0, lc_eq0, wl_wr, wr_wr, wl_id, true_and, and_true, true_or, or_true, not_true_eq_false, not_false_eq_true, nc0, nc1, nc2, nc3, nc4, nc5, nc6, nc7, nc8, nc9, nc10, nc11, nc12, nc13, nc14, nc15, nc16, nc17, nc18, nc19, nc20, nc21, nc22, nc23, nc35, nc47, nc59, nc60, nc61, nc73, nc74, nc214, nc215, nc1115, nc2230, nc3345, if_true, if_false, Int.reduceToNat]
        cases hq : tak T n 1 99 a with
        | inl e =>
          obtain ⟨h1, v, e1, m1, f1⟩ := m_takesN (d := d) m (lo := 1) (hi := 99) (by omega) (by omega) hq
          have hm1 := (m.1.ps f1).1
          obtain ⟨w1, -, w3⟩ := id m1
          refine ⟨h1, 0, ?_, m1, f1⟩
          refine st.trans (st2.trans ?_)
          simp (disch := omega) only [Mod_takesRow_57, wr_id, ix_id, okx, if_pos, if_neg, Int.toNat_of_nonneg, bak_v, bak_n, wr_b01, wr_bt, b01_or, b01_0, b01_1, lc_lt0, lc_gt0, lc_eq0, wl_wr, wr_wr, wl_id, true_and, and_true, true_or, or_true, not_true_eq_false, not_false_eq_true, nc0, nc1, nc2, nc3, nc4, nc5, nc6, nc7, nc8, nc9, nc10, nc11, nc12, nc13, nc14, nc15, nc16, nc17, nc18, nc19, nc20, nc21, nc22, nc23, nc35, nc47, nc59, nc60, nc61, nc73, nc74, nc214, nc215, nc1115, nc2230, nc3345, if_true, if_false, Int.reduceToNat, hm.k, e1]
          simp (disch := omega) only [Mod_takesRow_64, Mod_takesRow_72, wr_id, ix_id, okx, if_pos, if_neg, Int.toNat_of_nonneg, bak_v, bak_n, wr_b01, wr_bt, b01_or, b01_0, b01_1, lc_lt0, lc_gt0, lc_eq0, wl_wr, wr_wr, wl_id, true_and, and_true, true_or, or_true, not_true_eq_false, not_false_eq_true, nc0, nc1, nc2, nc3, nc4, nc5, nc6, nc7, nc8, nc9, nc10, nc11, nc12, nc13, nc14, nc15, nc16, nc17, nc18, nc19, nc20, nc21, nc22, nc23, nc35, nc47, nc59, nc60, nc61, nc73, nc74, nc214, nc215, nc1115, nc2230, nc3345, if_true, if_false, Int.reduceToNat, hm1.k, w1]
        | inr q =>
          obtain ⟨h1, e1, m1, f1⟩ := m_takes (d := d) m (lo := 1) (hi := 99) (by omega) (by omega) (a' := q.1) (v := q.2) hq
          have tk := tak_ok rg.2.1 hq
          have hm1 := m1.1.1
          have h111 := m1.2.2.1
          have m2 := m1.row (z := o + k) (v := q.2) (by omega)
          have k10' : k ≤ 10 := by
            by_cases z : k = 11
            · exact absurd ⟨z, tk.2.2.2.2.1, by omega, by omega⟩ c2
            · omega
          obtain ⟨h3, v, e3, r3, f3⟩ := ih (k + 1) q.1 (up S (o + k) q.2) _ (by omega) (by omega) (by omega) m2
          refine ⟨h3, v, ?_, r3, (f1.tr pR76).tr f3⟩
          refine st.trans (st2.trans ?_)
          simp (disch := omega) only [Mod_takesRow_57, wr_id, ix_id, okx, if_pos, if_neg, Int.toNat_of_nonneg, bak_v, bak_n, wr_b01, wr_bt, b01_or, b01_0, b01_1, lc_lt0, lc_gt0, lc_eq0, wl_wr, wr_wr, wl_id, true_and, and_true, true_or, or_true, not_true_eq_false, not_false_eq_true, nc0, nc1, nc2, nc3, nc4, nc5, nc6, nc7, nc8, nc9, nc10, nc11, nc12, nc13, nc14, nc15, nc16, nc17, nc18, nc19, nc20, nc21, nc22, nc23, nc35, nc47, nc59, nc60, nc61, nc73, nc74, nc214, nc215, nc1115, nc2230, nc3345, if_true, if_false, Int.reduceToNat, hm.k, e1]
          have hm := hm1
          simp (disch := omega) only [Mod_takesRow_64, Mod_takesRow_74, Mod_takesRow_83, wr_id, ix_id, okx, if_pos, if_neg, Int.toNat_of_nonneg, bak_v, bak_n, wr_b01, wr_bt, b01_or, b01_0, b01_1, lc_lt0, lc_gt0, lc_eq0, wl_wr, wr_wr, wl_id, true_and, and_true, true_or, or_true, not_true_eq_false, not_false_eq_true, nc0, nc1, nc2, nc3, nc4, nc5, nc6, nc7, nc8, nc9, nc10, nc11, nc12, nc13, nc14, nc15, nc16, nc17, nc18, nc19, nc20, nc21, nc22, nc23, nc35, nc47, nc59, nc60, nc61, nc73, nc74, nc214, nc215, nc1115, nc2230, nc3345, if_true, if_false, Int.reduceToNat, hm.k, hm.r1, hm.r2, hm.r3, hm.r4, hm.r15, hm.r16, hm.r19, hm.r23, hm.r24, hm.r25, hm.r26, hm.r29, hm.r30, hm.r31, hm.r33, hm.r34, hm.r35, hm.k73, hm.k74, hm.k75, hm.k76, hm.k77, hm.k78, hm.k79, hm.k80, hm.k81, hm.k82, hm.k83, hm.k84, hm.k85, hm.k86, hm.k87, hm.k88, hm.k89, hm.n73, hm.n74, hm.n75, hm.n76, hm.n77, hm.n78, hm.n79, hm.n80, hm.n81, hm.n82, hm.n83, hm.n84, hm.n85, hm.n86, hm.n87, hm.n88, hm.n89, h111]
          exact e3
    · rw [if_neg c1]
      have b1 : b01 (tkK T n a = 21) = 0 := by unfold b01; rw [if_neg (by omega)]
      rw [b1] at i21
      refine ⟨h, k, ?_, ⟨rfl, m⟩, Fr.rf⟩
      rw [Mod_takesRow_2]
      simp (disch := omega) only [Mod_takesRow_9, Mod_takesRow_13, Mod_takesRow_19, Mod_takesRow_89, wr_id, ix_id, okx, if_pos, if_neg, Int.toNat_of_nonneg, bak_v, bak_n, wr_b01, wr_bt, b01_or, b01_0, b01_1, lc_lt0, lc_gt0, lc_eq0, wl_wr, wr_wr, wl_id, true_and, and_true, true_or, or_true, not_true_eq_false, not_false_eq_true, nc0, nc1, nc2, nc3, nc4, nc5, nc6, nc7, nc8, nc9, nc10, nc11, nc12, nc13, nc14, nc15, nc16, nc17, nc18, nc19, nc20, nc21, nc22, nc23, nc35, nc47, nc59, nc60, nc61, nc73, nc74, nc214, nc215, nc1115, nc2230, nc3345, if_true, if_false, Int.reduceToNat, hm.k, h11, i21]
theorem m_takesRow {d : Nat} {T : Int → Int} {n o a : Int} {S : Int → Int} {h : Hp} (ho : o = 11 ∨ o = 23) (m : MP h T n a S) : ∃ h' v, cal (d+4) m_Mod_takesRow [.inr (.inr (72)), .inl (o)] (h) = some (.inl v, h') ∧ (match rwP T n o 13 0 a S with | .inl e => MF h' e | .inr q => v = q.2.1 ∧ MP h' T n q.1 q.2.2) ∧ Fr pPs h h' := by
  obtain ⟨h', v, e, r⟩ := m_row_l (d := d) ho 13 0 a S h (by omega) (by omega) (by omega) m
  refine ⟨h', v, ?_, r⟩
  show EX (d+3) m_Mod_takesRow 0 [(0, .inr (.inr (72))), (1, .inl (o))] [] (h) = _
  rw [Mod_takesRow_0]
  exact e
theorem m_readLaw {d : Nat} {T : Int → Int} {n a : Int} {S : Int → Int} {h : Hp} (m : MP h T n a S) : ∃ h', cal (d+48) m_Mod_readLaw [.inr (.inr (72))] (h) = some (.inl 0, h') ∧ mrW h' T n (lwP T n a S) ∧ Fr pPs h h' := by
  have hm := m.1.1
  obtain ⟨h1, e1, m1, f1⟩ := m_nextP (d := d + 45) m
  have hm1 := m1.1.1
  have rg1 := m1.rng
  unfold lwP
  by_cases c : tkK T n (nx T n a) = 26
  · rw [if_pos c]
    obtain ⟨h2, e2, m2, f2⟩ := m_eats (d := d + 44) m1 (k := 26) (by omega) c
    have hm2 := m2.1.1
    have m3 := m2.row (z := 214) (v := 0) (by omega)
    have hm3 := m3.1.1
    obtain ⟨h4, e4, r4, f4⟩ := m_law (d := d) (T := T) (n := n) 43 0 0 (by omega) (by omega) (by omega) (by omega) (by omega) (nx T n (nx T n a)) _ (up S 214 0) m3 (by rw [up_same]; omega) (by rw [up_same]; have := m2.rng; omega)
    rw [show mth 0 = m_Mod_readTruth from rfl] at e4
    have st : cal (d+48) m_Mod_readLaw [.inr (.inr (72))] (h) = EX (d+47) m_Mod_readLaw 32 [(0, .inr (.inr (72)))] [] (h4) := by
      show EX (d+47) m_Mod_readLaw 0 [(0, .inr (.inr (72)))] [] (h) = _
      simp (disch := omega) only [Mod_readLaw_0, Mod_readLaw_4, Mod_readLaw_10, wr_id, ix_id, okx, if_pos, if_neg, Int.toNat_of_nonneg, bak_v, bak_n, wr_b01, wr_bt, b01_or, b01_0, b01_1, lc_lt0, lc_gt0, lc_eq0, wl_wr, wr_wr, wl_id, true_and, and_true, true_or, or_true, not_true_eq_false, not_false_eq_true, nc0, nc1, nc2, nc3, nc4, nc5, nc6, nc7, nc8, nc9, nc10, nc11, nc12, nc13, nc14, nc15, nc16, nc17, nc18, nc19, nc20, nc21, nc22, nc23, nc35, nc47, nc59, nc60, nc61, nc73, nc74, nc214, nc215, nc1115, nc2230, nc3345, if_true, if_false, Int.reduceToNat, hm.k, hm1.k, e1, e2]
      have hm := hm2
      simp (disch := omega) only [Mod_readLaw_18, wr_id, ix_id, okx, if_pos, if_neg, Int.toNat_of_nonneg, bak_v, bak_n, wr_b01, wr_bt, b01_or, b01_0, b01_1, lc_lt0, lc_gt0, lc_eq0, wl_wr, wr_wr, wl_id, true_and, and_true, true_or, or_true, not_true_eq_false, not_false_eq_true, nc0, nc1, nc2, nc3, nc4, nc5, nc6, nc7, nc8, nc9, nc10, nc11, nc12, nc13, nc14, nc15, nc16, nc17, nc18, nc19, nc20, nc21, nc22, nc23, nc35, nc47, nc59, nc60, nc61, nc73, nc74, nc214, nc215, nc1115, nc2230, nc3345, if_true, if_false, Int.reduceToNat, hm.k, hm.r1, hm.r2, hm.r3, hm.r4, hm.r15, hm.r16, hm.r19, hm.r23, hm.r24, hm.r25, hm.r26, hm.r29, hm.r30, hm.r31, hm.r33, hm.r34, hm.r35, hm.k73, hm.k74, hm.k75, hm.k76, hm.k77, hm.k78, hm.k79, hm.k80, hm.k81, hm.k82, hm.k83, hm.k84, hm.k85, hm.k86, hm.k87, hm.k88, hm.k89, hm.n73, hm.n74, hm.n75, hm.n76, hm.n77, hm.n78, hm.n79, hm.n80, hm.n81, hm.n82, hm.n83, hm.n84, hm.n85, hm.n86, hm.n87, hm.n88, hm.n89]
      have e4' : cal (d+47) m_Mod_readTruth [.inr (.inr (72)), .inl (0)] (pI h2 76 214 0) = some (.inl 0, h4) := e4
      simp (disch := omega) only [Mod_readLaw_27, wr_id, ix_id, okx, if_pos, if_neg, Int.toNat_of_nonneg, bak_v, bak_n, wr_b01, wr_bt, b01_or, b01_0, b01_1, lc_lt0, lc_gt0, lc_eq0, wl_wr, wr_wr, wl_id, true_and, and_true, true_or, or_true, not_true_eq_false, not_false_eq_true, nc0, nc1, nc2, nc3, nc4, nc5, nc6, nc7, nc8, nc9, nc10, nc11, nc12, nc13, nc14, nc15, nc16, nc17, nc18, nc19, nc20, nc21, nc22, nc23, nc35, nc47, nc59, nc60, nc61, nc73, nc74, nc214, nc215, nc1115, nc2230, nc3345, if_true, if_false, Int.reduceToNat, sK_pI, hm2.k, e4']
    have ff := ((f1.tr f2).tr pR76).tr f4
    cases hq : prt T n 43 0 0 (nx T n (nx T n a)) with
    | inl e =>
      rw [hq] at r4
      have r4' : MF h4 e := r4
      have hm4 := (m3.1.ps f4).1
      obtain ⟨w1, -, w3⟩ := id r4'
      refine ⟨h4, ?_, r4', ff⟩
      refine st.trans ?_
      simp (disch := omega) only [Mod_readLaw_32, Mod_readLaw_47, wr_id, ix_id, okx, if_pos, if_neg, Int.toNat_of_nonneg, bak_v, bak_n, wr_b01, wr_bt, b01_or, b01_0, b01_1, lc_lt0, lc_gt0, lc_eq0, wl_wr, wr_wr, wl_id, true_and, and_true, true_or, or_true, not_true_eq_false, not_false_eq_true, nc0, nc1, nc2, nc3, nc4, nc5, nc6, nc7, nc8, nc9, nc10, nc11, nc12, nc13, nc14, nc15, nc16, nc17, nc18, nc19, nc20, nc21, nc22, nc23, nc35, nc47, nc59, nc60, nc61, nc73, nc74, nc214, nc215, nc1115, nc2230, nc3345, if_true, if_false, Int.reduceToNat, hm4.k, w1]
    | inr q =>
      rw [hq] at r4
      have r4' : MP h4 T n q.1 (appC (up S 214 0) q.2) := r4
      have hm4 := r4'.1.1
      have h11 := r4'.2.2.1
      have m5 := r4'.row (z := 9) (v := 1) (by omega)
      refine ⟨_, ?_, m5, ff.tr pR76⟩
      refine st.trans ?_
      have hm := hm4
      simp (disch := omega) only [Mod_readLaw_32, Mod_readLaw_39, Mod_readLaw_47, wr_id, ix_id, okx, if_pos, if_neg, Int.toNat_of_nonneg, bak_v, bak_n, wr_b01, wr_bt, b01_or, b01_0, b01_1, lc_lt0, lc_gt0, lc_eq0, wl_wr, wr_wr, wl_id, true_and, and_true, true_or, or_true, not_true_eq_false, not_false_eq_true, nc0, nc1, nc2, nc3, nc4, nc5, nc6, nc7, nc8, nc9, nc10, nc11, nc12, nc13, nc14, nc15, nc16, nc17, nc18, nc19, nc20, nc21, nc22, nc23, nc35, nc47, nc59, nc60, nc61, nc73, nc74, nc214, nc215, nc1115, nc2230, nc3345, if_true, if_false, Int.reduceToNat, hm.k, hm.r1, hm.r2, hm.r3, hm.r4, hm.r15, hm.r16, hm.r19, hm.r23, hm.r24, hm.r25, hm.r26, hm.r29, hm.r30, hm.r31, hm.r33, hm.r34, hm.r35, hm.k73, hm.k74, hm.k75, hm.k76, hm.k77, hm.k78, hm.k79, hm.k80, hm.k81, hm.k82, hm.k83, hm.k84, hm.k85, hm.k86, hm.k87, hm.k88, hm.k89, hm.n73, hm.n74, hm.n75, hm.n76, hm.n77, hm.n78, hm.n79, hm.n80, hm.n81, hm.n82, hm.n83, hm.n84, hm.n85, hm.n86, hm.n87, hm.n88, hm.n89, h11]
  · rw [if_neg c]
    have e2 := m_eatsN (d := d + 44) m1 (k := 26) (by omega) c
    obtain ⟨h2, e3, m2, f2⟩ := m_fails (d := d + 46) m1 (f := 2) (by omega)
    have x2 := m1.1.ps f2
    have hm2 := x2.1
    have m2' : MF (pI h2 76 214 0) (bd2 T n (nx T n a)) := ⟨by rw [hI_pI, if_neg (by omega)]; exact m2.1, by rw [hI_pI, if_neg (by omega)]; exact m2.2.1, m2.2.2⟩
    have hm3 := (x2.ps (pR76 (z := 214) (v := 0))).1
    have e4 := m_truthF (d := d + 38) hm3 m2' 0
    obtain ⟨w1, -, w3⟩ := id m2'
    refine ⟨pI h2 76 214 0, ?_, m2', (f1.tr f2).tr pR76⟩
    show EX (d+47) m_Mod_readLaw 0 [(0, .inr (.inr (72)))] [] (h) = _
    simp (disch := omega) only [Mod_readLaw_0, Mod_readLaw_4, Mod_readLaw_10, Mod_readLaw_13, wr_id, ix_id, okx, if_pos, if_neg, Int.toNat_of_nonneg, bak_v, bak_n, wr_b01, wr_bt, b01_or, b01_0, b01_1, lc_lt0, lc_gt0, lc_eq0, wl_wr, wr_wr, wl_id, true_and, and_true, true_or, or_true, not_true_eq_false, not_false_eq_true, nc0, nc1, nc2, nc3, nc4, nc5, nc6, nc7, nc8, nc9, nc10, nc11, nc12, nc13, nc14, nc15, nc16, nc17, nc18, nc19, nc20, nc21, nc22, nc23, nc35, nc47, nc59, nc60, nc61, nc73, nc74, nc214, nc215, nc1115, nc2230, nc3345, if_true, if_false, Int.reduceToNat, hm.k, hm1.k, e1, e2, e3]
    have hm := hm2
    simp (disch := omega) only [Mod_readLaw_18, wr_id, ix_id, okx, if_pos, if_neg, Int.toNat_of_nonneg, bak_v, bak_n, wr_b01, wr_bt, b01_or, b01_0, b01_1, lc_lt0, lc_gt0, lc_eq0, wl_wr, wr_wr, wl_id, true_and, and_true, true_or, or_true, not_true_eq_false, not_false_eq_true, nc0, nc1, nc2, nc3, nc4, nc5, nc6, nc7, nc8, nc9, nc10, nc11, nc12, nc13, nc14, nc15, nc16, nc17, nc18, nc19, nc20, nc21, nc22, nc23, nc35, nc47, nc59, nc60, nc61, nc73, nc74, nc214, nc215, nc1115, nc2230, nc3345, if_true, if_false, Int.reduceToNat, hm.k, hm.r1, hm.r2, hm.r3, hm.r4, hm.r15, hm.r16, hm.r19, hm.r23, hm.r24, hm.r25, hm.r26, hm.r29, hm.r30, hm.r31, hm.r33, hm.r34, hm.r35, hm.k73, hm.k74, hm.k75, hm.k76, hm.k77, hm.k78, hm.k79, hm.k80, hm.k81, hm.k82, hm.k83, hm.k84, hm.k85, hm.k86, hm.k87, hm.k88, hm.k89, hm.n73, hm.n74, hm.n75, hm.n76, hm.n77, hm.n78, hm.n79, hm.n80, hm.n81, hm.n82, hm.n83, hm.n84, hm.n85, hm.n86, hm.n87, hm.n88, hm.n89]
    have hm := hm3
    simp (disch := omega) only [Mod_readLaw_27, Mod_readLaw_32, Mod_readLaw_47, wr_id, ix_id, okx, if_pos, if_neg, Int.toNat_of_nonneg, bak_v, bak_n, wr_b01, wr_bt, b01_or, b01_0, b01_1, lc_lt0, lc_gt0, lc_eq0, wl_wr, wr_wr, wl_id, true_and, and_true, true_or, or_true, not_true_eq_false, not_false_eq_true, nc0, nc1, nc2, nc3, nc4, nc5, nc6, nc7, nc8, nc9, nc10, nc11, nc12, nc13, nc14, nc15, nc16, nc17, nc18, nc19, nc20, nc21, nc22, nc23, nc35, nc47, nc59, nc60, nc61, nc73, nc74, nc214, nc215, nc1115, nc2230, nc3345, if_true, if_false, Int.reduceToNat, hm3.k, e4, w1]
theorem m_readChair {d : Nat} {T : Int → Int} {n a : Int} {S : Int → Int} {h : Hp} (m : MP h T n a S) : ∃ h', cal (d+4) m_Mod_readChair [.inr (.inr (72))] (h) = some (.inl 0, h') ∧ mrW h' T n (chP T n a S) ∧ Fr pPs h h' := by
  have hm := m.1.1
  unfold chP
  cases hq1 : tak T n 0 9 a with
  | inl e =>
    obtain ⟨h1, v, e1, m1, f1⟩ := m_takesN (d := d) m (by omega) (by omega) hq1
    have hm1 := (m.1.ps f1).1
    have t2 := m_takesF (d := d) hm1 m1 0 99
    have t3 := m_takesF (d := d) hm1 m1 1 99
    obtain ⟨w1, -, w3⟩ := id m1
    refine ⟨h1, ?_, m1, f1⟩
    show EX (d+3) m_Mod_readChair 0 [(0, .inr (.inr (72)))] [] (h) = _
    simp (disch := omega) only [Mod_readChair_0, Mod_readChair_7, Mod_readChair_15, Mod_readChair_23, Mod_readChair_31, wr_id, ix_id, okx, if_pos, if_neg, Int.toNat_of_nonneg, bak_v, bak_n, wr_b01, wr_bt, b01_or, b01_0, b01_1, lc_lt0, lc_gt0, lc_eq0, wl_wr, wr_wr, wl_id, true_and, and_true, true_or, or_true, not_true_eq_false, not_false_eq_true, nc0, nc1, nc2, nc3, nc4, nc5, nc6, nc7, nc8, nc9, nc10, nc11, nc12, nc13, nc14, nc15, nc16, nc17, nc18, nc19, nc20, nc21, nc22, nc23, nc35, nc47, nc59, nc60, nc61, nc73, nc74, nc214, nc215, nc1115, nc2230, nc3345, if_true, if_false, Int.reduceToNat, hm.k, e1, hm1.k, t2, t3, w1]
  | inr q1 =>
    obtain ⟨h1, e1, m1, f1⟩ := m_takes (d := d) m (by omega) (by omega) (a' := q1.1) (v := q1.2) hq1
    have hm1 := m1.1.1
    dsimp only
    cases hq2 : tak T n 0 99 q1.1 with
    | inl e =>
      obtain ⟨h2, v, e2, m2, f2⟩ := m_takesN (d := d) m1 (by omega) (by omega) hq2
      have hm2 := (m1.1.ps f2).1
      have t3 := m_takesF (d := d) hm2 m2 1 99
      obtain ⟨w1, -, w3⟩ := id m2
      refine ⟨h2, ?_, m2, f1.tr f2⟩
      show EX (d+3) m_Mod_readChair 0 [(0, .inr (.inr (72)))] [] (h) = _
      simp (disch := omega) only [Mod_readChair_0, Mod_readChair_7, Mod_readChair_15, Mod_readChair_23, Mod_readChair_31, wr_id, ix_id, okx, if_pos, if_neg, Int.toNat_of_nonneg, bak_v, bak_n, wr_b01, wr_bt, b01_or, b01_0, b01_1, lc_lt0, lc_gt0, lc_eq0, wl_wr, wr_wr, wl_id, true_and, and_true, true_or, or_true, not_true_eq_false, not_false_eq_true, nc0, nc1, nc2, nc3, nc4, nc5, nc6, nc7, nc8, nc9, nc10, nc11, nc12, nc13, nc14, nc15, nc16, nc17, nc18, nc19, nc20, nc21, nc22, nc23, nc35, nc47, nc59, nc60, nc61, nc73, nc74, nc214, nc215, nc1115, nc2230, nc3345, if_true, if_false, Int.reduceToNat, hm.k, e1, hm1.k, e2, hm2.k, t3, w1]
    | inr q2 =>
      obtain ⟨h2, e2, m2, f2⟩ := m_takes (d := d) m1 (by omega) (by omega) (a' := q2.1) (v := q2.2) hq2
      have hm2 := m2.1.1
      dsimp only
      cases hq3 : tak T n 1 99 q2.1 with
      | inl e =>
        obtain ⟨h3, v, e3, m3, f3⟩ := m_takesN (d := d) m2 (by omega) (by omega) hq3
        have hm3 := (m2.1.ps f3).1
        obtain ⟨w1, -, w3⟩ := id m3
        refine ⟨h3, ?_, m3, (f1.tr f2).tr f3⟩
        show EX (d+3) m_Mod_readChair 0 [(0, .inr (.inr (72)))] [] (h) = _
        simp (disch := omega) only [Mod_readChair_0, Mod_readChair_7, Mod_readChair_15, Mod_readChair_23, Mod_readChair_31, wr_id, ix_id, okx, if_pos, if_neg, Int.toNat_of_nonneg, bak_v, bak_n, wr_b01, wr_bt, b01_or, b01_0, b01_1, lc_lt0, lc_gt0, lc_eq0, wl_wr, wr_wr, wl_id, true_and, and_true, true_or, or_true, not_true_eq_false, not_false_eq_true, nc0, nc1, nc2, nc3, nc4, nc5, nc6, nc7, nc8, nc9, nc10, nc11, nc12, nc13, nc14, nc15, nc16, nc17, nc18, nc19, nc20, nc21, nc22, nc23, nc35, nc47, nc59, nc60, nc61, nc73, nc74, nc214, nc215, nc1115, nc2230, nc3345, if_true, if_false, Int.reduceToNat, hm.k, e1, hm1.k, e2, hm2.k, e3, hm3.k, w1]
      | inr q3 =>
        obtain ⟨h3, e3, m3, f3⟩ := m_takes (d := d) m2 (by omega) (by omega) (a' := q3.1) (v := q3.2) hq3
        have hm3 := m3.1.1
        have h11 := m3.2.2.1
        have m4 := ((m3.row (z := 3) (v := q1.2) (by omega)).row (z := 4) (v := q2.2) (by omega)).row (z := 5) (v := q3.2) (by omega)
        refine ⟨_, ?_, m4, (((f1.tr f2).tr f3).tr pR76).tr (pR76.tr pR76)⟩
        show EX (d+3) m_Mod_readChair 0 [(0, .inr (.inr (72)))] [] (h) = _
        simp (disch := omega) only [Mod_readChair_0, Mod_readChair_7, Mod_readChair_15, wr_id, ix_id, okx, if_pos, if_neg, Int.toNat_of_nonneg, bak_v, bak_n, wr_b01, wr_bt, b01_or, b01_0, b01_1, lc_lt0, lc_gt0, lc_eq0, wl_wr, wr_wr, wl_id, true_and, and_true, true_or, or_true, not_true_eq_false, not_false_eq_true, nc0, nc1, nc2, nc3, nc4, nc5, nc6, nc7, nc8, nc9, nc10, nc11, nc12, nc13, nc14, nc15, nc16, nc17, nc18, nc19, nc20, nc21, nc22, nc23, nc35, nc47, nc59, nc60, nc61, nc73, nc74, nc214, nc215, nc1115, nc2230, nc3345, if_true, if_false, Int.reduceToNat, hm.k, e1, hm1.k, e2, hm2.k, e3]
        have hm := hm3
        simp (disch := omega) only [Mod_readChair_23, Mod_readChair_32, Mod_readChair_39, Mod_readChair_46, Mod_readChair_53, wr_id, ix_id, okx, if_pos, if_neg, Int.toNat_of_nonneg, bak_v, bak_n, wr_b01, wr_bt, b01_or, b01_0, b01_1, lc_lt0, lc_gt0, lc_eq0, wl_wr, wr_wr, wl_id, true_and, and_true, true_or, or_true, not_true_eq_false, not_false_eq_true, nc0, nc1, nc2, nc3, nc4, nc5, nc6, nc7, nc8, nc9, nc10, nc11, nc12, nc13, nc14, nc15, nc16, nc17, nc18, nc19, nc20, nc21, nc22, nc23, nc35, nc47, nc59, nc60, nc61, nc73, nc74, nc214, nc215, nc1115, nc2230, nc3345, if_true, if_false, Int.reduceToNat, hm.k, hm.r1, hm.r2, hm.r3, hm.r4, hm.r15, hm.r16, hm.r19, hm.r23, hm.r24, hm.r25, hm.r26, hm.r29, hm.r30, hm.r31, hm.r33, hm.r34, hm.r35, hm.k73, hm.k74, hm.k75, hm.k76, hm.k77, hm.k78, hm.k79, hm.k80, hm.k81, hm.k82, hm.k83, hm.k84, hm.k85, hm.k86, hm.k87, hm.k88, hm.k89, hm.n73, hm.n74, hm.n75, hm.n76, hm.n77, hm.n78, hm.n79, hm.n80, hm.n81, hm.n82, hm.n83, hm.n84, hm.n85, hm.n86, hm.n87, hm.n88, hm.n89, sK_pI, sN_pI, hR_pI, h11]
theorem m_readSlip {d : Nat} {T : Int → Int} {n a : Int} {S : Int → Int} {h : Hp} (m : MP h T n a S) : ∃ h', cal (d+4) m_Mod_readSlip [.inr (.inr (72))] (h) = some (.inl 0, h') ∧ mrW h' T n (slP T n a S) ∧ Fr pPs h h' := by
  have hm := m.1.1
  unfold slP
  cases hq1 : tak T n 0 9 a with
  | inl e =>
    obtain ⟨h1, v, e1, m1, f1⟩ := m_takesN (d := d) m (by omega) (by omega) hq1
    have hm1 := (m.1.ps f1).1
    have t2 := m_takesF (d := d) hm1 m1 0 999
    obtain ⟨w1, -, w3⟩ := id m1
    refine ⟨h1, ?_, m1, f1⟩
    show EX (d+3) m_Mod_readSlip 0 [(0, .inr (.inr (72)))] [] (h) = _
    simp (disch := omega) only [Mod_readSlip_0, Mod_readSlip_7, Mod_readSlip_16, Mod_readSlip_24, wr_id, ix_id, okx, if_pos, if_neg, Int.toNat_of_nonneg, bak_v, bak_n, wr_b01, wr_bt, b01_or, b01_0, b01_1, lc_lt0, lc_gt0, lc_eq0, wl_wr, wr_wr, wl_id, true_and, and_true, true_or, or_true, not_true_eq_false, not_false_eq_true, nc0, nc1, nc2, nc3, nc4, nc5, nc6, nc7, nc8, nc9, nc10, nc11, nc12, nc13, nc14, nc15, nc16, nc17, nc18, nc19, nc20, nc21, nc22, nc23, nc35, nc47, nc59, nc60, nc61, nc73, nc74, nc214, nc215, nc1115, nc2230, nc3345, if_true, if_false, Int.reduceToNat, hm.k, e1, hm1.k, t2, w1]
  | inr q1 =>
    obtain ⟨h1, e1, m1, f1⟩ := m_takes (d := d) m (by omega) (by omega) (a' := q1.1) (v := q1.2) hq1
    have hm1 := m1.1.1
    dsimp only
    cases hq2 : tak T n 0 999 q1.1 with
    | inl e =>
      obtain ⟨h2, v, e2, m2, f2⟩ := m_takesN (d := d) m1 (by omega) (by omega) hq2
      have hm2 := (m1.1.ps f2).1
      obtain ⟨w1, -, w3⟩ := id m2
      refine ⟨h2, ?_, m2, f1.tr f2⟩
      show EX (d+3) m_Mod_readSlip 0 [(0, .inr (.inr (72)))] [] (h) = _
      simp (disch := omega) only [Mod_readSlip_0, Mod_readSlip_7, Mod_readSlip_16, Mod_readSlip_24, wr_id, ix_id, okx, if_pos, if_neg, Int.toNat_of_nonneg, bak_v, bak_n, wr_b01, wr_bt, b01_or, b01_0, b01_1, lc_lt0, lc_gt0, lc_eq0, wl_wr, wr_wr, wl_id, true_and, and_true, true_or, or_true, not_true_eq_false, not_false_eq_true, nc0, nc1, nc2, nc3, nc4, nc5, nc6, nc7, nc8, nc9, nc10, nc11, nc12, nc13, nc14, nc15, nc16, nc17, nc18, nc19, nc20, nc21, nc22, nc23, nc35, nc47, nc59, nc60, nc61, nc73, nc74, nc214, nc215, nc1115, nc2230, nc3345, if_true, if_false, Int.reduceToNat, hm.k, e1, hm1.k, e2, hm2.k, w1]
    | inr q2 =>
      obtain ⟨h2, e2, m2, f2⟩ := m_takes (d := d) m1 (by omega) (by omega) (a' := q2.1) (v := q2.2) hq2
      have hm2 := m2.1.1
      have h11 := m2.2.2.1
      have m4 := (m2.row (z := 7) (v := q1.2) (by omega)).row (z := 8) (v := q2.2) (by omega)
      refine ⟨_, ?_, m4, ((f1.tr f2).tr pR76).tr pR76⟩
      show EX (d+3) m_Mod_readSlip 0 [(0, .inr (.inr (72)))] [] (h) = _
      simp (disch := omega) only [Mod_readSlip_0, Mod_readSlip_7, wr_id, ix_id, okx, if_pos, if_neg, Int.toNat_of_nonneg, bak_v, bak_n, wr_b01, wr_bt, b01_or, b01_0, b01_1, lc_lt0, lc_gt0, lc_eq0, wl_wr, wr_wr, wl_id, true_and, and_true, true_or, or_true, not_true_eq_false, not_false_eq_true, nc0, nc1, nc2, nc3, nc4, nc5, nc6, nc7, nc8, nc9, nc10, nc11, nc12, nc13, nc14, nc15, nc16, nc17, nc18, nc19, nc20, nc21, nc22, nc23, nc35, nc47, nc59, nc60, nc61, nc73, nc74, nc214, nc215, nc1115, nc2230, nc3345, if_true, if_false, Int.reduceToNat, hm.k, e1, hm1.k, e2]
      have hm := hm2
      simp (disch := omega) only [Mod_readSlip_16, Mod_readSlip_25, Mod_readSlip_33, Mod_readSlip_41, wr_id, ix_id, okx, if_pos, if_neg, Int.toNat_of_nonneg, bak_v, bak_n, wr_b01, wr_bt, b01_or, b01_0, b01_1, lc_lt0, lc_gt0, lc_eq0, wl_wr, wr_wr, wl_id, true_and, and_true, true_or, or_true, not_true_eq_false, not_false_eq_true, nc0, nc1, nc2, nc3, nc4, nc5, nc6, nc7, nc8, nc9, nc10, nc11, nc12, nc13, nc14, nc15, nc16, nc17, nc18, nc19, nc20, nc21, nc22, nc23, nc35, nc47, nc59, nc60, nc61, nc73, nc74, nc214, nc215, nc1115, nc2230, nc3345, if_true, if_false, Int.reduceToNat, hm.k, hm.r1, hm.r2, hm.r3, hm.r4, hm.r15, hm.r16, hm.r19, hm.r23, hm.r24, hm.r25, hm.r26, hm.r29, hm.r30, hm.r31, hm.r33, hm.r34, hm.r35, hm.k73, hm.k74, hm.k75, hm.k76, hm.k77, hm.k78, hm.k79, hm.k80, hm.k81, hm.k82, hm.k83, hm.k84, hm.k85, hm.k86, hm.k87, hm.k88, hm.k89, hm.n73, hm.n74, hm.n75, hm.n76, hm.n77, hm.n78, hm.n79, hm.n80, hm.n81, hm.n82, hm.n83, hm.n84, hm.n85, hm.n86, hm.n87, hm.n88, hm.n89, sK_pI, sN_pI, hR_pI, h11]
theorem m_readMark {d : Nat} {T : Int → Int} {n a many o : Int} {S : Int → Int} {h : Hp} (m : MP h T n a S) (hm' : 0 ≤ many ∧ many ≤ 12) (ho : o = 35 ∨ o = 47) : ∃ h', cal (d+4) m_Mod_readMark [.inr (.inr (72)), .inl (many), .inl (o)] (h) = some (.inl 0, h') ∧ mrW h' T n (mkP T n many o a S) ∧ Fr pPs h h' := by
  have hm := m.1.1
  have rg := m.rng
  unfold mkP
  cases hq1 : tak T n 0 (many - 1) a with
  | inl e =>
    obtain ⟨h1, v, e1, m1, f1⟩ := m_takesN (d := d) m (by omega) (by omega) hq1
    have hm1 := (m.1.ps f1).1
    have t1 := m_eatsF (d := d) hm1 m1 3
    have t2 := m_failsF (d := d + 2) hm1 m1 2
    have t3 := m_takesF (d := d) hm1 m1 0 99
    obtain ⟨w1, -, w3⟩ := id m1
    refine ⟨h1, ?_, m1, f1⟩
    show EX (d+3) m_Mod_readMark 0 [(0, .inr (.inr (72))), (1, .inl (many)), (2, .inl (o))] [] (h) = _
    simp (disch := omega) only [Mod_readMark_0, Mod_readMark_8, Mod_readMark_14, Mod_readMark_17, Mod_readMark_22, Mod_readMark_29, Mod_readMark_48, wr_id, ix_id, okx, if_pos, if_neg, Int.toNat_of_nonneg, bak_v, bak_n, wr_b01, wr_bt, b01_or, b01_0, b01_1, lc_lt0, lc_gt0, lc_eq0, wl_wr, wr_wr, wl_id, true_and, and_true, true_or, or_true, not_true_eq_false, not_false_eq_true, nc0, nc1, nc2, nc3, nc4, nc5, nc6, nc7, nc8, nc9, nc10, nc11, nc12, nc13, nc14, nc15, nc16, nc17, nc18, nc19, nc20, nc21, nc22, nc23, nc35, nc47, nc59, nc60, nc61, nc73, nc74, nc214, nc215, nc1115, nc2230, nc3345, if_true, if_false, Int.reduceToNat, hm.k, e1, hm1.k, t1, t2, t3, w1]
  | inr q1 =>
    obtain ⟨h1, e1, m1, f1⟩ := m_takes (d := d) m (by omega) (by omega) (a' := q1.1) (v := q1.2) hq1
    have tk := tak_ok rg.2.1 hq1
    have hm1 := m1.1.1
    dsimp only
    by_cases c3 : tkK T n q1.1 = 3
    · rw [if_pos c3]
      obtain ⟨h2, e2, m2, f2⟩ := m_eats (d := d) m1 (k := 3) (by omega) c3
      have hm2 := m2.1.1
      cases hq3 : tak T n 0 99 (nx T n q1.1) with
      | inl e =>
        obtain ⟨h3, v, e3, m3, f3⟩ := m_takesN (d := d) m2 (by omega) (by omega) hq3
        have hm3 := (m2.1.ps f3).1
        obtain ⟨w1, -, w3⟩ := id m3
        refine ⟨h3, ?_, m3, (f1.tr f2).tr f3⟩
        show EX (d+3) m_Mod_readMark 0 [(0, .inr (.inr (72))), (1, .inl (many)), (2, .inl (o))] [] (h) = _
        simp (disch := omega) only [Mod_readMark_0, Mod_readMark_8, Mod_readMark_14, Mod_readMark_22, Mod_readMark_29, Mod_readMark_48, wr_id, ix_id, okx, if_pos, if_neg, Int.toNat_of_nonneg, bak_v, bak_n, wr_b01, wr_bt, b01_or, b01_0, b01_1, lc_lt0, lc_gt0, lc_eq0, wl_wr, wr_wr, wl_id, true_and, and_true, true_or, or_true, not_true_eq_false, not_false_eq_true, nc0, nc1, nc2, nc3, nc4, nc5, nc6, nc7, nc8, nc9, nc10, nc11, nc12, nc13, nc14, nc15, nc16, nc17, nc18, nc19, nc20, nc21, nc22, nc23, nc35, nc47, nc59, nc60, nc61, nc73, nc74, nc214, nc215, nc1115, nc2230, nc3345, if_true, if_false, Int.reduceToNat, hm.k, e1, hm1.k, e2, hm2.k, e3, hm3.k, w1]
      | inr q3 =>
        obtain ⟨h3, e3, m3, f3⟩ := m_takes (d := d) m2 (by omega) (by omega) (a' := q3.1) (v := q3.2) hq3
        have hm3 := m3.1.1
        have h11 := m3.2.2.1
        have m4 := m3.row (z := o + q1.2) (v := q3.2) (by omega)
        refine ⟨_, ?_, m4, ((f1.tr f2).tr f3).tr pR76⟩
        show EX (d+3) m_Mod_readMark 0 [(0, .inr (.inr (72))), (1, .inl (many)), (2, .inl (o))] [] (h) = _
        simp (disch := omega) only [Mod_readMark_0, Mod_readMark_8, Mod_readMark_14, Mod_readMark_22, wr_id, ix_id, okx, if_pos, if_neg, Int.toNat_of_nonneg, bak_v, bak_n, wr_b01, wr_bt, b01_or, b01_0, b01_1, lc_lt0, lc_gt0, lc_eq0, wl_wr, wr_wr, wl_id, true_and, and_true, true_or, or_true, not_true_eq_false, not_false_eq_true, nc0, nc1, nc2, nc3, nc4, nc5, nc6, nc7, nc8, nc9, nc10, nc11, nc12, nc13, nc14, nc15, nc16, nc17, nc18, nc19, nc20, nc21, nc22, nc23, nc35, nc47, nc59, nc60, nc61, nc73, nc74, nc214, nc215, nc1115, nc2230, nc3345, if_true, if_false, Int.reduceToNat, hm.k, e1, hm1.k, e2, hm2.k, e3]
        have hm := hm3
        simp (disch := omega) only [Mod_readMark_29, Mod_readMark_38, Mod_readMark_48, wr_id, ix_id, okx, if_pos, if_neg, Int.toNat_of_nonneg, bak_v, bak_n, wr_b01, wr_bt, b01_or, b01_0, b01_1, lc_lt0, lc_gt0, lc_eq0, wl_wr, wr_wr, wl_id, true_and, and_true, true_or, or_true, not_true_eq_false, not_false_eq_true, nc0, nc1, nc2, nc3, nc4, nc5, nc6, nc7, nc8, nc9, nc10, nc11, nc12, nc13, nc14, nc15, nc16, nc17, nc18, nc19, nc20, nc21, nc22, nc23, nc35, nc47, nc59, nc60, nc61, nc73, nc74, nc214, nc215, nc1115, nc2230, nc3345, if_true, if_false, Int.reduceToNat, hm.k, hm.r1, hm.r2, hm.r3, hm.r4, hm.r15, hm.r16, hm.r19, hm.r23, hm.r24, hm.r25, hm.r26, hm.r29, hm.r30, hm.r31, hm.r33, hm.r34, hm.r35, hm.k73, hm.k74, hm.k75, hm.k76, hm.k77, hm.k78, hm.k79, hm.k80, hm.k81, hm.k82, hm.k83, hm.k84, hm.k85, hm.k86, hm.k87, hm.k88, hm.k89, hm.n73, hm.n74, hm.n75, hm.n76, hm.n77, hm.n78, hm.n79, hm.n80, hm.n81, hm.n82, hm.n83, hm.n84, hm.n85, hm.n86, hm.n87, hm.n88, hm.n89, h11]
    · rw [if_neg c3]
      have e2 := m_eatsN (d := d) m1 (k := 3) (by omega) c3
      obtain ⟨h2, e3, m2, f2⟩ := m_fails (d := d + 2) m1 (f := 2) (by omega)
      have hm2 := (m1.1.ps f2).1
      have t3 := m_takesF (d := d) hm2 m2 0 99
      obtain ⟨w1, -, w3⟩ := id m2
      refine ⟨h2, ?_, m2, f1.tr f2⟩
      show EX (d+3) m_Mod_readMark 0 [(0, .inr (.inr (72))), (1, .inl (many)), (2, .inl (o))] [] (h) = _
      simp (disch := omega) only [Mod_readMark_0, Mod_readMark_8, Mod_readMark_14, Mod_readMark_17, Mod_readMark_22, wr_id, ix_id, okx, if_pos, if_neg, Int.toNat_of_nonneg, bak_v, bak_n, wr_b01, wr_bt, b01_or, b01_0, b01_1, lc_lt0, lc_gt0, lc_eq0, wl_wr, wr_wr, wl_id, true_and, and_true, true_or, or_true, not_true_eq_false, not_false_eq_true, nc0, nc1, nc2, nc3, nc4, nc5, nc6, nc7, nc8, nc9, nc10, nc11, nc12, nc13, nc14, nc15, nc16, nc17, nc18, nc19, nc20, nc21, nc22, nc23, nc35, nc47, nc59, nc60, nc61, nc73, nc74, nc214, nc215, nc1115, nc2230, nc3345, if_true, if_false, Int.reduceToNat, hm.k, e1, hm1.k, e2, e3, hm2.k, t3]
      simp (disch := omega) only [Mod_readMark_29, Mod_readMark_48, wr_id, ix_id, okx, if_pos, if_neg, Int.toNat_of_nonneg, bak_v, bak_n, wr_b01, wr_bt, b01_or, b01_0, b01_1, lc_lt0, lc_gt0, lc_eq0, wl_wr, wr_wr, wl_id, true_and, and_true, true_or, or_true, not_true_eq_false, not_false_eq_true, nc0, nc1, nc2, nc3, nc4, nc5, nc6, nc7, nc8, nc9, nc10, nc11, nc12, nc13, nc14, nc15, nc16, nc17, nc18, nc19, nc20, nc21, nc22, nc23, nc35, nc47, nc59, nc60, nc61, nc73, nc74, nc214, nc215, nc1115, nc2230, nc3345, if_true, if_false, Int.reduceToNat, hm2.k, w1]
theorem m_readJoin {d : Nat} {T : Int → Int} {n a : Int} {S : Int → Int} {h : Hp} (m : MP h T n a S) (g : Gd S) (hp : 0 < S 1 ∧ 0 < S 2) : ∃ h', cal (d+4) m_Mod_readJoin [.inr (.inr (72))] (h) = some (.inl 0, h') ∧ mrW h' T n (jnP T n a S) ∧ Fr pPs h h' := by
  have hm := m.1.1
  have rg := m.rng
  have ga := g.a
  have gb := g.b
  have r1 : ∀ {h : Hp} {a : Int}, MP h T n a S → hI h 76 1 = S 1 ∧ hI h 76 2 = S 2 := fun m => ⟨m.2.2.2.1 1, m.2.2.2.1 2⟩
  obtain ⟨s1, s2⟩ := r1 m
  unfold jnP
  cases hq1 : tak T n 0 (S 1 - 1) a with
  | inl e =>
    obtain ⟨h1, v, e1, m1, f1⟩ := m_takesN (d := d) m (by omega) (by omega) hq1
    have x1 := m.1.ps f1
    have hm1 := x1.1
    have t3 := fun hi => m_takesF (d := d) hm1 m1 0 hi
    obtain ⟨w1, -, w3⟩ := id m1
    refine ⟨h1, ?_, m1, f1⟩
    show EX (d+3) m_Mod_readJoin 0 [(0, .inr (.inr (72)))] [] (h) = _
    simp (disch := omega) only [Mod_readJoin_0, wr_id, ix_id, okx, if_pos, if_neg, Int.toNat_of_nonneg, bak_v, bak_n, wr_b01, wr_bt, b01_or, b01_0, b01_1, lc_lt0, lc_gt0, lc_eq0, wl_wr, wr_wr, wl_id, true_and, and_true, true_or, or_true, not_true_eq_false, not_false_eq_true, nc0, nc1, nc2, nc3, nc4, nc5, nc6, nc7, nc8, nc9, nc10, nc11, nc12, nc13, nc14, nc15, nc16, nc17, nc18, nc19, nc20, nc21, nc22, nc23, nc35, nc47, nc59, nc60, nc61, nc73, nc74, nc214, nc215, nc1115, nc2230, nc3345, if_true, if_false, Int.reduceToNat, hm.k, hm.r1, hm.r2, hm.r3, hm.r4, hm.r15, hm.r16, hm.r19, hm.r23, hm.r24, hm.r25, hm.r26, hm.r29, hm.r30, hm.r31, hm.r33, hm.r34, hm.r35, hm.k73, hm.k74, hm.k75, hm.k76, hm.k77, hm.k78, hm.k79, hm.k80, hm.k81, hm.k82, hm.k83, hm.k84, hm.k85, hm.k86, hm.k87, hm.k88, hm.k89, hm.n73, hm.n74, hm.n75, hm.n76, hm.n77, hm.n78, hm.n79, hm.n80, hm.n81, hm.n82, hm.n83, hm.n84, hm.n85, hm.n86, hm.n87, hm.n88, hm.n89, s1, e1]
    have hm := hm1
    simp (disch := omega) only [Mod_readJoin_13, Mod_readJoin_71, Mod_readJoin_84, Mod_readJoin_102, wr_id, ix_id, okx, if_pos, if_neg, Int.toNat_of_nonneg, bak_v, bak_n, wr_b01, wr_bt, b01_or, b01_0, b01_1, lc_lt0, lc_gt0, lc_eq0, wl_wr, wr_wr, wl_id, true_and, and_true, true_or, or_true, not_true_eq_false, not_false_eq_true, nc0, nc1, nc2, nc3, nc4, nc5, nc6, nc7, nc8, nc9, nc10, nc11, nc12, nc13, nc14, nc15, nc16, nc17, nc18, nc19, nc20, nc21, nc22, nc23, nc35, nc47, nc59, nc60, nc61, nc73, nc74, nc214, nc215, nc1115, nc2230, nc3345, if_true, if_false, Int.reduceToNat, hm.k, hm.r1, hm.r2, hm.r3, hm.r4, hm.r15, hm.r16, hm.r19, hm.r23, hm.r24, hm.r25, hm.r26, hm.r29, hm.r30, hm.r31, hm.r33, hm.r34, hm.r35, hm.k73, hm.k74, hm.k75, hm.k76, hm.k77, hm.k78, hm.k79, hm.k80, hm.k81, hm.k82, hm.k83, hm.k84, hm.k85, hm.k86, hm.k87, hm.k88, hm.k89, hm.n73, hm.n74, hm.n75, hm.n76, hm.n77, hm.n78, hm.n79, hm.n80, hm.n81, hm.n82, hm.n83, hm.n84, hm.n85, hm.n86, hm.n87, hm.n88, hm.n89, t3, w1]
  | inr q1 =>
    obtain ⟨h1, e1, m1, f1⟩ := m_takes (d := d) m (by omega) (by omega) (a' := q1.1) (v := q1.2) hq1
    have tk := tak_ok rg.2.1 hq1
    have hm1 := m1.1.1
    have h111 := m1.2.2.1
    obtain ⟨s11, s12⟩ := r1 m1
    have rg1 := m1.rng
    dsimp only
    have st : cal (d+4) m_Mod_readJoin [.inr (.inr (72))] (h) = EX (d+3) m_Mod_readJoin 21 [(0, .inr (.inr (72))), (1, .inl (q1.2))] [] (h1) := by
      show EX (d+3) m_Mod_readJoin 0 [(0, .inr (.inr (72)))] [] (h) = _
      simp (disch := omega) only [Mod_readJoin_0, wr_id, ix_id, okx, if_pos, if_neg, Int.toNat_of_nonneg, bak_v, bak_n, wr_b01, wr_bt, b01_or, b01_0, b01_1, lc_lt0, lc_gt0, lc_eq0, wl_wr, wr_wr, wl_id, true_and, and_true, true_or, or_true, not_true_eq_false, not_false_eq_true, nc0, nc1, nc2, nc3, nc4, nc5, nc6, nc7, nc8, nc9, nc10, nc11, nc12, nc13, nc14, nc15, nc16, nc17, nc18, nc19, nc20, nc21, nc22, nc23, nc35, nc47, nc59, nc60, nc61, nc73, nc74, nc214, nc215, nc1115, nc2230, nc3345, if_true, if_false, Int.reduceToNat, hm.k, hm.r1, hm.r2, hm.r3, hm.r4, hm.r15, hm.r16, hm.r19, hm.r23, hm.r24, hm.r25, hm.r26, hm.r29, hm.r30, hm.r31, hm.r33, hm.r34, hm.r35, hm.k73, hm.k74, hm.k75, hm.k76, hm.k77, hm.k78, hm.k79, hm.k80, hm.k81, hm.k82, hm.k83, hm.k84, hm.k85, hm.k86, hm.k87, hm.k88, hm.k89, hm.n73, hm.n74, hm.n75, hm.n76, hm.n77, hm.n78, hm.n79, hm.n80, hm.n81, hm.n82, hm.n83, hm.n84, hm.n85, hm.n86, hm.n87, hm.n88, hm.n89, s1, e1]
      have hm := hm1
      simp (disch := omega) only [Mod_readJoin_13, wr_id, ix_id, okx, if_pos, if_neg, Int.toNat_of_nonneg, bak_v, bak_n, wr_b01, wr_bt, b01_or, b01_0, b01_1, lc_lt0, lc_gt0, lc_eq0, wl_wr, wr_wr, wl_id, true_and, and_true, true_or, or_true, not_true_eq_false, not_false_eq_true, nc0, nc1, nc2, nc3, nc4, nc5, nc6, nc7, nc8, nc9, nc10, nc11, nc12, nc13, nc14, nc15, nc16, nc17, nc18, nc19, nc20, nc21, nc22, nc23, nc35, nc47, nc59, nc60, nc61, nc73, nc74, nc214, nc215, nc1115, nc2230, nc3345, if_true, if_false, Int.reduceToNat, hm.k, hm.r1, hm.r2, hm.r3, hm.r4, hm.r15, hm.r16, hm.r19, hm.r23, hm.r24, hm.r25, hm.r26, hm.r29, hm.r30, hm.r31, hm.r33, hm.r34, hm.r35, hm.k73, hm.k74, hm.k75, hm.k76, hm.k77, hm.k78, hm.k79, hm.k80, hm.k81, hm.k82, hm.k83, hm.k84, hm.k85, hm.k86, hm.k87, hm.k88, hm.k89, hm.n73, hm.n74, hm.n75, hm.n76, hm.n77, hm.n78, hm.n79, hm.n80, hm.n81, hm.n82, hm.n83, hm.n84, hm.n85, hm.n86, hm.n87, hm.n88, hm.n89, h111]
    have i21 := m_is (d := d + 2) m1 (k := 21) (by omega)
    by_cases c : tkK T n q1.1 = 21 ∧ (¬ (0 ≤ tkN T n q1.1 ∧ tkN T n q1.1 ≤ S 2 - 1) ∨ ¬ whyM S q1.2 (tkN T n q1.1) = 0)
    · rw [if_pos c]
      have k10 := m1.2.1.2.2.2 c.1
      have nr := tkN_rng (T := T) rg1.2.1
      have b1 : b01 (tkK T n q1.1 = 21) = 1 := by unfold b01; rw [if_pos c.1]
      rw [b1] at i21
      obtain ⟨h2, e2, m2, f2⟩ := m_fails (d := d + 2) m1 (f := 3) (by omega)
      rw [if_neg (by omega)] at m2
      have hm2 := (m1.1.ps f2).1
      have t3 := fun hi => m_takesF (d := d) hm2 m2 0 hi
      obtain ⟨w1, -, w3⟩ := id m2
      dsimp only at w1
      have st2 : EX (d+3) m_Mod_readJoin 21 [(0, .inr (.inr (72))), (1, .inl (q1.2))] [] (h1) = EX (d+3) m_Mod_readJoin 71 [(0, .inr (.inr (72))), (1, .inl (q1.2))] [] (h2) := by
        have hm := hm1
        by_cases c2 : 0 ≤ tkN T n q1.1 ∧ tkN T n q1.1 ≤ S 2 - 1
        · have b2 : b01 (0 ≤ tkN T n q1.1 ∧ tkN T n q1.1 ≤ S 2 - 1) = 1 := by unfold b01; rw [if_pos c2]
          have c3 : ¬ whyM S q1.2 (tkN T n q1.1) = 0 := by
            rcases c.2 with z | z
            · exact absurd c2 z
            · exact z
          have wr' := whyM_rng S q1.2 (tkN T n q1.1)
          have ew := m_whyNot (d := d + 1) m1.rs g (x := q1.2) (y := tkN T n q1.1) (by omega) (by omega)
          simp (disch := omega) only [Mod_readJoin_21, Mod_readJoin_27, Mod_readJoin_30, Mod_readJoin_48, Mod_readJoin_51, Mod_readJoin_63, Mod_readJoin_66, wr_id, ix_id, okx, if_pos, if_neg, Int.toNat_of_nonneg, bak_v, bak_n, wr_b01, wr_bt, b01_or, b01_0, b01_1, lc_lt0, lc_gt0, lc_eq0, wl_wr, wr_wr, wl_id, true_and, and_true, true_or, or_true, not_true_eq_false, not_false_eq_true, nc0, nc1, nc2, nc3, nc4, nc5, nc6, nc7, nc8, nc9, nc10, nc11, nc12, nc13, nc14, nc15, nc16, nc17, nc18, nc19, nc20, nc21, nc22, nc23, nc35, nc47, nc59, nc60, nc61, nc73, nc74, nc214, nc215, nc1115, nc2230, nc3345, if_true, if_false, Int.reduceToNat, hm.k, hm.r1, hm.r2, hm.r3, hm.r4, hm.r15, hm.r16, hm.r19, hm.r23, hm.r24, hm.r25, hm.r26, hm.r29, hm.r30, hm.r31, hm.r33, hm.r34, hm.r35, hm.k73, hm.k74, hm.k75, hm.k76, hm.k77, hm.k78, hm.k79, hm.k80, hm.k81, hm.k82, hm.k83, hm.k84, hm.k85, hm.k86, hm.k87, hm.k88, hm.k89, hm.n73, hm.n74, hm.n75, hm.n76, hm.n77, hm.n78, hm.n79, hm.n80, hm.n81, hm.n82, hm.n83, hm.n84, hm.n85, hm.n86, hm.n87, hm.n88, hm.n89, i21, k10, s12, m_within, b2, ew, e2]
        · have b2 : b01 (0 ≤ tkN T n q1.1 ∧ tkN T n q1.1 ≤ S 2 - 1) = 0 := by unfold b01; rw [if_neg c2]
          simp (disch := omega) only [Mod_readJoin_21, Mod_readJoin_27, Mod_readJoin_30, Mod_readJoin_48, Mod_readJoin_66, wr_id, ix_id, okx, if_pos, if_neg, Int.toNat_of_nonneg, bak_v, bak_n, wr_b01, wr_bt, b01_or, b01_0, b01_1, lc_lt0, lc_gt0, lc_eq0, wl_wr, wr_wr, wl_id, true_and, and_true, true_or, or_true, not_true_eq_false, not_false_eq_true, nc0, nc1, nc2, nc3, nc4, nc5, nc6, nc7, nc8, nc9, nc10, nc11, nc12, nc13, nc14, nc15, nc16, nc17, nc18, nc19, nc20, nc21, nc22, nc23, nc35, nc47, nc59, nc60, nc61, nc73, nc74, nc214, nc215, nc1115, nc2230, nc3345, if_true, if_false, Int.reduceToNat, hm.k, hm.r1, hm.r2, hm.r3, hm.r4, hm.r15, hm.r16, hm.r19, hm.r23, hm.r24, hm.r25, hm.r26, hm.r29, hm.r30, hm.r31, hm.r33, hm.r34, hm.r35, hm.k73, hm.k74, hm.k75, hm.k76, hm.k77, hm.k78, hm.k79, hm.k80, hm.k81, hm.k82, hm.k83, hm.k84, hm.k85, hm.k86, hm.k87, hm.k88, hm.k89, hm.n73, hm.n74, hm.n75, hm.n76, hm.n77, hm.n78, hm.n79, hm.n80, hm.n81, hm.n82, hm.n83, hm.n84, hm.n85, hm.n86, hm.n87, hm.n88, hm.n89, i21, k10, s12, m_within, b2, e2]
      refine ⟨h2, ?_, m2, f1.tr f2⟩
      refine st.trans (st2.trans ?_)
      have hm := hm2
      simp (disch := omega) only [Mod_readJoin_71, Mod_readJoin_84, Mod_readJoin_102, wr_id, ix_id, okx, if_pos, if_neg, Int.toNat_of_nonneg, bak_v, bak_n, wr_b01, wr_bt, b01_or, b01_0, b01_1, lc_lt0, lc_gt0, lc_eq0, wl_wr, wr_wr, wl_id, true_and, and_true, true_or, or_true, not_true_eq_false, not_false_eq_true, nc0, nc1, nc2, nc3, nc4, nc5, nc6, nc7, nc8, nc9, nc10, nc11, nc12, nc13, nc14, nc15, nc16, nc17, nc18, nc19, nc20, nc21, nc22, nc23, nc35, nc47, nc59, nc60, nc61, nc73, nc74, nc214, nc215, nc1115, nc2230, nc3345, if_true, if_false, Int.reduceToNat, hm.k, hm.r1, hm.r2, hm.r3, hm.r4, hm.r15, hm.r16, hm.r19, hm.r23, hm.r24, hm.r25, hm.r26, hm.r29, hm.r30, hm.r31, hm.r33, hm.r34, hm.r35, hm.k73, hm.k74, hm.k75, hm.k76, hm.k77, hm.k78, hm.k79, hm.k80, hm.k81, hm.k82, hm.k83, hm.k84, hm.k85, hm.k86, hm.k87, hm.k88, hm.k89, hm.n73, hm.n74, hm.n75, hm.n76, hm.n77, hm.n78, hm.n79, hm.n80, hm.n81, hm.n82, hm.n83, hm.n84, hm.n85, hm.n86, hm.n87, hm.n88, hm.n89, t3, w1]
    · rw [if_neg c]
      have st2 : EX (d+3) m_Mod_readJoin 21 [(0, .inr (.inr (72))), (1, .inl (q1.2))] [] (h1) = EX (d+3) m_Mod_readJoin 71 [(0, .inr (.inr (72))), (1, .inl (q1.2))] [] (h1) := by
        have hm := hm1
        by_cases c21 : tkK T n q1.1 = 21
        · have k10 := m1.2.1.2.2.2 c21
          have nr := tkN_rng (T := T) rg1.2.1
          have b1 : b01 (tkK T n q1.1 = 21) = 1 := by unfold b01; rw [if_pos c21]
          rw [b1] at i21
          have c2 : 0 ≤ tkN T n q1.1 ∧ tkN T n q1.1 ≤ S 2 - 1 := by
            by_cases z : 0 ≤ tkN T n q1.1 ∧ tkN T n q1.1 ≤ S 2 - 1
            · exact z
            · exact absurd ⟨c21, Or.inl z⟩ c
          have c3 : whyM S q1.2 (tkN T n q1.1) = 0 := by
            by_cases z : whyM S q1.2 (tkN T n q1.1) = 0
            · exact z
            · exact absurd ⟨c21, Or.inr z⟩ c
          have b2 : b01 (0 ≤ tkN T n q1.1 ∧ tkN T n q1.1 ≤ S 2 - 1) = 1 := by unfold b01; rw [if_pos c2]
          have ew := m_whyNot (d := d + 1) m1.rs g (x := q1.2) (y := tkN T n q1.1) (by omega) (by omega)
          rw [c3] at ew
          simp (disch := omega) only [Mod_readJoin_21, Mod_readJoin_27, Mod_readJoin_30, Mod_readJoin_48, Mod_readJoin_51, Mod_readJoin_63, wr_id, ix_id, okx, if_pos, if_neg, Int.toNat_of_nonneg, bak_v, bak_n, wr_b01, wr_bt, b01_or, b01_0, b01_1, lc_lt0, lc_gt0, lc_eq0, wl_wr, wr_wr, wl_id, true_and, and_true, true_or, or_true, not_true_eq_false, not_false_eq_true, nc0, nc1, nc2, nc3, nc4, nc5, nc6, nc7, nc8, nc9, nc10, nc11, nc12, nc13, nc14, nc15, nc16, nc17, nc18, nc19, nc20, nc21, nc22, nc23, nc35, nc47, nc59, nc60, nc61, nc73, nc74, nc214, nc215, nc1115, nc2230, nc3345, if_true, if_false, Int.reduceToNat, hm.k, hm.r1, hm.r2, hm.r3, hm.r4, hm.r15, hm.r16, hm.r19, hm.r23, hm.r24, hm.r25, hm.r26, hm.r29, hm.r30, hm.r31, hm.r33, hm.r34, hm.r35, hm.k73, hm.k74, hm.k75, hm.k76, hm.k77, hm.k78, hm.k79, hm.k80, hm.k81, hm.k82, hm.k83, hm.k84, hm.k85, hm.k86, hm.k87, hm.k88, hm.k89, hm.n73, hm.n74, hm.n75, hm.n76, hm.n77, hm.n78, hm.n79, hm.n80, hm.n81, hm.n82, hm.n83, hm.n84, hm.n85, hm.n86, hm.n87, hm.n88, hm.n89, i21, k10, s12, m_within, b2, ew]
        · have b1 : b01 (tkK T n q1.1 = 21) = 0 := by unfold b01; rw [if_neg c21]
          rw [b1] at i21
          simp (disch := omega) only [Mod_readJoin_21, Mod_readJoin_27, wr_id, ix_id, okx, if_pos, if_neg, Int.toNat_of_nonneg, bak_v, bak_n, wr_b01, wr_bt, b01_or, b01_0, b01_1, lc_lt0, lc_gt0, lc_eq0, wl_wr, wr_wr, wl_id, true_and, and_true, true_or, or_true, not_true_eq_false, not_false_eq_true, nc0, nc1, nc2, nc3, nc4, nc5, nc6, nc7, nc8, nc9, nc10, nc11, nc12, nc13, nc14, nc15, nc16, nc17, nc18, nc19, nc20, nc21, nc22, nc23, nc35, nc47, nc59, nc60, nc61, nc73, nc74, nc214, nc215, nc1115, nc2230, nc3345, if_true, if_false, Int.reduceToNat, hm.k, hm.r1, hm.r2, hm.r3, hm.r4, hm.r15, hm.r16, hm.r19, hm.r23, hm.r24, hm.r25, hm.r26, hm.r29, hm.r30, hm.r31, hm.r33, hm.r34, hm.r35, hm.k73, hm.k74, hm.k75, hm.k76, hm.k77, hm.k78, hm.k79, hm.k80, hm.k81, hm.k82, hm.k83, hm.k84, hm.k85, hm.k86, hm.k87, hm.k88, hm.k89, hm.n73, hm.n74, hm.n75, hm.n76, hm.n77, hm.n78, hm.n79, hm.n80, hm.n81, hm.n82, hm.n83, hm.n84, hm.n85, hm.n86, hm.n87, hm.n88, hm.n89, i21]
      cases hq3 : tak T n 0 (S 2 - 1) q1.1 with
      | inl e =>
        obtain ⟨h3, v, e3, m3, f3⟩ := m_takesN (d := d) m1 (by omega) (by omega) hq3
        have hm3 := (m1.1.ps f3).1
        obtain ⟨w1, -, w3⟩ := id m3
        refine ⟨h3, ?_, m3, f1.tr f3⟩
        refine st.trans (st2.trans ?_)
        have hm := hm1
        simp (disch := omega) only [Mod_readJoin_71, wr_id, ix_id, okx, if_pos, if_neg, Int.toNat_of_nonneg, bak_v, bak_n, wr_b01, wr_bt, b01_or, b01_0, b01_1, lc_lt0, lc_gt0, lc_eq0, wl_wr, wr_wr, wl_id, true_and, and_true, true_or, or_true, not_true_eq_false, not_false_eq_true, nc0, nc1, nc2, nc3, nc4, nc5, nc6, nc7, nc8, nc9, nc10, nc11, nc12, nc13, nc14, nc15, nc16, nc17, nc18, nc19, nc20, nc21, nc22, nc23, nc35, nc47, nc59, nc60, nc61, nc73, nc74, nc214, nc215, nc1115, nc2230, nc3345, if_true, if_false, Int.reduceToNat, hm.k, hm.r1, hm.r2, hm.r3, hm.r4, hm.r15, hm.r16, hm.r19, hm.r23, hm.r24, hm.r25, hm.r26, hm.r29, hm.r30, hm.r31, hm.r33, hm.r34, hm.r35, hm.k73, hm.k74, hm.k75, hm.k76, hm.k77, hm.k78, hm.k79, hm.k80, hm.k81, hm.k82, hm.k83, hm.k84, hm.k85, hm.k86, hm.k87, hm.k88, hm.k89, hm.n73, hm.n74, hm.n75, hm.n76, hm.n77, hm.n78, hm.n79, hm.n80, hm.n81, hm.n82, hm.n83, hm.n84, hm.n85, hm.n86, hm.n87, hm.n88, hm.n89, s12, e3]
        simp (disch := omega) only [Mod_readJoin_84, Mod_readJoin_102, wr_id, ix_id, okx, if_pos, if_neg, Int.toNat_of_nonneg, bak_v, bak_n, wr_b01, wr_bt, b01_or, b01_0, b01_1, lc_lt0, lc_gt0, lc_eq0, wl_wr, wr_wr, wl_id, true_and, and_true, true_or, or_true, not_true_eq_false, not_false_eq_true, nc0, nc1, nc2, nc3, nc4, nc5, nc6, nc7, nc8, nc9, nc10, nc11, nc12, nc13, nc14, nc15, nc16, nc17, nc18, nc19, nc20, nc21, nc22, nc23, nc35, nc47, nc59, nc60, nc61, nc73, nc74, nc214, nc215, nc1115, nc2230, nc3345, if_true, if_false, Int.reduceToNat, hm3.k, w1]
      | inr q3 =>
        obtain ⟨h3, e3, m3, f3⟩ := m_takes (d := d) m1 (by omega) (by omega) (a' := q3.1) (v := q3.2) hq3
        have hm3 := m3.1.1
        have h11 := m3.2.2.1
        have m4 := m3.row (z := 61 + q1.2) (v := q3.2) (by omega)
        refine ⟨_, ?_, m4, (f1.tr f3).tr pR76⟩
        refine st.trans (st2.trans ?_)
        have hm := hm1
        simp (disch := omega) only [Mod_readJoin_71, wr_id, ix_id, okx, if_pos, if_neg, Int.toNat_of_nonneg, bak_v, bak_n, wr_b01, wr_bt, b01_or, b01_0, b01_1, lc_lt0, lc_gt0, lc_eq0, wl_wr, wr_wr, wl_id, true_and, and_true, true_or, or_true, not_true_eq_false, not_false_eq_true, nc0, nc1, nc2, nc3, nc4, nc5, nc6, nc7, nc8, nc9, nc10, nc11, nc12, nc13, nc14, nc15, nc16, nc17, nc18, nc19, nc20, nc21, nc22, nc23, nc35, nc47, nc59, nc60, nc61, nc73, nc74, nc214, nc215, nc1115, nc2230, nc3345, if_true, if_false, Int.reduceToNat, hm.k, hm.r1, hm.r2, hm.r3, hm.r4, hm.r15, hm.r16, hm.r19, hm.r23, hm.r24, hm.r25, hm.r26, hm.r29, hm.r30, hm.r31, hm.r33, hm.r34, hm.r35, hm.k73, hm.k74, hm.k75, hm.k76, hm.k77, hm.k78, hm.k79, hm.k80, hm.k81, hm.k82, hm.k83, hm.k84, hm.k85, hm.k86, hm.k87, hm.k88, hm.k89, hm.n73, hm.n74, hm.n75, hm.n76, hm.n77, hm.n78, hm.n79, hm.n80, hm.n81, hm.n82, hm.n83, hm.n84, hm.n85, hm.n86, hm.n87, hm.n88, hm.n89, s12, e3]
        have hm := hm3
        simp (disch := omega) only [Mod_readJoin_84, Mod_readJoin_92, Mod_readJoin_102, wr_id, ix_id, okx, if_pos, if_neg, Int.toNat_of_nonneg, bak_v, bak_n, wr_b01, wr_bt, b01_or, b01_0, b01_1, lc_lt0, lc_gt0, lc_eq0, wl_wr, wr_wr, wl_id, true_and, and_true, true_or, or_true, not_true_eq_false, not_false_eq_true, nc0, nc1, nc2, nc3, nc4, nc5, nc6, nc7, nc8, nc9, nc10, nc11, nc12, nc13, nc14, nc15, nc16, nc17, nc18, nc19, nc20, nc21, nc22, nc23, nc35, nc47, nc59, nc60, nc61, nc73, nc74, nc214, nc215, nc1115, nc2230, nc3345, if_true, if_false, Int.reduceToNat, hm.k, hm.r1, hm.r2, hm.r3, hm.r4, hm.r15, hm.r16, hm.r19, hm.r23, hm.r24, hm.r25, hm.r26, hm.r29, hm.r30, hm.r31, hm.r33, hm.r34, hm.r35, hm.k73, hm.k74, hm.k75, hm.k76, hm.k77, hm.k78, hm.k79, hm.k80, hm.k81, hm.k82, hm.k83, hm.k84, hm.k85, hm.k86, hm.k87, hm.k88, hm.k89, hm.n73, hm.n74, hm.n75, hm.n76, hm.n77, hm.n78, hm.n79, hm.n80, hm.n81, hm.n82, hm.n83, hm.n84, hm.n85, hm.n86, hm.n87, hm.n88, hm.n89, h11]
