/-! average: both sides -/
def mnA (S : Int → Int) (n : Int) : Int := if n < S 1 then n else S 1
def gcA (a b : Int) : Int := ((a.toNat.gcd b.toNat : Nat) : Int)
def ansAvg (S : Int → Int) (n u : Int) : Int := if ¬ (0 ≤ u ∧ u ≤ 1) then -2 else if ¬ (1 ≤ n ∧ n ≤ 12) then -3 else if S 1 = 0 then -5 else if u = 0 then avF S (mnA S n) (mnA S n) (S 1) / gcA (avF S (mnA S n) (mnA S n) (S 1)) (pwK (10 - S 7) (mnA S n)) else pwK (10 - S 7) (mnA S n) / gcA (avF S (mnA S n) (mnA S n) (S 1)) (pwK (10 - S 7) (mnA S n))
theorem pwK_rng {S : Int → Int} (g : Gd S) {k : Int} (hk : 0 ≤ k ∧ k ≤ 12) : 1 ≤ pwK (10 - S 7) k ∧ pwK (10 - S 7) k ≤ 1000000000000 := by
  have g7 := g.1.2.2.2.2.2.2.1
  have a := pwK_pos (c := 10 - S 7) (k := k) (by omega)
  have b := pwK_le (c := 10 - S 7) (k := k) (by omega)
  have c := pwK_12 hk
  omega
theorem gcA_rng {a b : Int} (ha : 0 ≤ a) (hb : 1 ≤ b) : 1 ≤ gcA a b ∧ gcA a b ≤ b := by
  unfold gcA
  have p : 0 < a.toNat.gcd b.toNat := Nat.gcd_pos_of_pos_right _ (by omega)
  have q : a.toNat.gcd b.toNat ≤ b.toNat := Nat.gcd_le_right _ (by omega)
  omega
theorem gcA_sc {a b m : Int} (ha : 0 ≤ a) (hb : 0 ≤ b) (hm : 0 ≤ m) : gcA (a * m) (b * m) = gcA a b * m := by
  unfold gcA
  rw [Int.toNat_mul ha hm, Int.toNat_mul hb hm, Nat.gcd_mul_right, Int.natCast_mul]
  congr 1
  omega
theorem m_common {d : Nat} {h : Hp} {a b : Int} (ha : 0 ≤ a ∧ a ≤ 9223372036854775807) (hb : 0 ≤ b ∧ b ≤ 1000000000000) : cal (d+81) m_Mod_common [.inr (.inl (a)), .inr (.inl (b))] (h) = some (.inr (.inl (gcA a b)), h) := by
  have s : gSt 81 a b := gSt_ok 40 a b ha.1 hb.1 (by omega)
  rw [m_common_f 81 d a b ha (by omega) s, gE_gcd 81 a b ha.1 hb.1 s]
  rfl
theorem c_common {d : Nat} {h : Hp} {a b : Int} (ha : 0 ≤ a ∧ a ≤ 9223372036854775807) (hb : 0 ≤ b ∧ b ≤ 1000000000000) : cal (d+1) m_Reckoner_commonDivisor [.inr (.inl (a)), .inr (.inl (b))] (h) = some (.inr (.inl (gcA a b)), h) := by
  have s : gSt 81 a b := gSt_ok 40 a b ha.1 hb.1 (by omega)
  show EX (d) m_Reckoner_commonDivisor 0 [(0, .inr (.inl (a))), (2, .inr (.inl (b)))] [] (h) = _
  rw [Reckoner_commonDivisor_0, c_common_f (d := d) 81 a b 0 ha (by omega) (by omega) s, gE_gcd 81 a b ha.1 hb.1 s]
  rfl
theorem mm_average {d : Nat} {h : Hp} {S G T rs rm nb : Int → Int} {m fk fp : Int} (mb : MB h S G T rs rm nb m fk fp) (g : Gd S) {n u : Int} (rn : -2147483648 ≤ n ∧ n ≤ 2147483647) (ru : -2147483648 ≤ u ∧ u ≤ 2147483647) : ∃ h', cal (d+82) m_Mod_average [.inr (.inr (72)), .inl (n), .inl (u)] (h) = some (.inr (.inl (ansAvg S n u)), h') ∧ MB h' S G T rs rm nb m fk fp ∧ Fr wQ h h' := by
  have ms0 : MS (pI h 72 0 0) S := mb.1.o (by omega)
  have f0 : Fr wQ h (pI h 72 0 0) := f72 (by omega)
  have hk := mb.1.1.k
  have hm := ms0.1
  have ga := g.a
  have g7 := g.1.2.2.2.2.2.2.1
  refine ⟨pI h 72 0 0, ?_, mb.fr f0 ms0, f0⟩
  show EX (d+81) m_Mod_average 0 [(0, .inr (.inr (72))), (1, .inl (n)), (2, .inl (u))] [] (h) = _
  unfold ansAvg
  by_cases cu : 0 ≤ u ∧ u ≤ 1
  · rw [if_neg (show ¬ ¬ (0 ≤ u ∧ u ≤ 1) by omega)]
    by_cases cn : 1 ≤ n ∧ n ≤ 12
    · rw [if_neg (show ¬ ¬ (1 ≤ n ∧ n ≤ 12) by omega)]
      by_cases c : S 1 = 0
      · rw [if_pos c]
        simp (disch := omega) only [Mod_average_0, Mod_average_5, Mod_average_12, Mod_average_19, Mod_average_28, Mod_average_35, Mod_average_44, wr_id, ix_id, okx, if_pos, if_neg, Int.toNat_of_nonneg, bak_v, bak_n, wr_b01, wr_bt, b01_or, b01_0, b01_1, lc_lt0, lc_gt0, lc_eq0, wl_wr, wr_wr, wl_id, true_and, and_true, true_or, or_true, not_true_eq_false, not_false_eq_true, nc0, nc1, nc2, nc3, nc4, nc5, nc6, nc7, nc8, nc9, nc10, nc11, nc12, nc13, nc14, nc15, nc16, nc17, nc18, nc19, nc20, nc21, nc22, nc23, nc35, nc47, nc59, nc60, nc61, nc73, nc74, nc214, nc215, nc1115, nc2230, nc3345, if_true, if_false, Int.reduceToNat, hk, hm.k, hm.r1, hm.r2, hm.r3, hm.r4, hm.r15, hm.r16, hm.r19, hm.r23, hm.r24, hm.r25, hm.r26, hm.r29, hm.r30, hm.r31, hm.r33, hm.r34, hm.r35, hm.k73, hm.k74, hm.k75, hm.k76, hm.k77, hm.k78, hm.k79, hm.k80, hm.k81, hm.k82, hm.k83, hm.k84, hm.k85, hm.k86, hm.k87, hm.k88, hm.k89, hm.n73, hm.n74, hm.n75, hm.n76, hm.n77, hm.n78, hm.n79, hm.n80, hm.n81, hm.n82, hm.n83, hm.n84, hm.n85, hm.n86, hm.n87, hm.n88, hm.n89, ms0.2, m_within, c]
      · rw [if_neg c]
        have nr : 1 ≤ mnA S n ∧ mnA S n ≤ 12 := by unfold mnA; split <;> omega
        have st : EX (d+81) m_Mod_average 0 [(0, .inr (.inr (72))), (1, .inl (n)), (2, .inl (u))] [] (h) = EX (d+81) m_Mod_average 68 [(0, .inr (.inr (72))), (2, .inl (u))] [.inl (mnA S n)] (pI h 72 0 0) := by
          unfold mnA
          by_cases c1 : n < S 1
          · rw [if_pos c1]
            simp (disch := omega) only [Mod_average_0, Mod_average_5, Mod_average_12, Mod_average_19, Mod_average_28, Mod_average_35, Mod_average_48, Mod_average_58, wr_id, ix_id, okx, if_pos, if_neg, Int.toNat_of_nonneg, bak_v, bak_n, wr_b01, wr_bt, b01_or, b01_0, b01_1, lc_lt0, lc_gt0, lc_eq0, wl_wr, wr_wr, wl_id, true_and, and_true, true_or, or_true, not_true_eq_false, not_false_eq_true, nc0, nc1, nc2, nc3, nc4, nc5, nc6, nc7, nc8, nc9, nc10, nc11, nc12, nc13, nc14, nc15, nc16, nc17, nc18, nc19, nc20, nc21, nc22, nc23, nc35, nc47, nc59, nc60, nc61, nc73, nc74, nc214, nc215, nc1115, nc2230, nc3345, if_true, if_false, Int.reduceToNat, hk, hm.k, hm.r1, hm.r2, hm.r3, hm.r4, hm.r15, hm.r16, hm.r19, hm.r23, hm.r24, hm.r25, hm.r26, hm.r29, hm.r30, hm.r31, hm.r33, hm.r34, hm.r35, hm.k73, hm.k74, hm.k75, hm.k76, hm.k77, hm.k78, hm.k79, hm.k80, hm.k81, hm.k82, hm.k83, hm.k84, hm.k85, hm.k86, hm.k87, hm.k88, hm.k89, hm.n73, hm.n74, hm.n75, hm.n76, hm.n77, hm.n78, hm.n79, hm.n80, hm.n81, hm.n82, hm.n83, hm.n84, hm.n85, hm.n86, hm.n87, hm.n88, hm.n89, ms0.2, m_within]
          · rw [if_neg c1]
            simp (disch := omega) only [Mod_average_0, Mod_average_5, Mod_average_12, Mod_average_19, Mod_average_28, Mod_average_35, Mod_average_48, Mod_average_62, wr_id, ix_id, okx, if_pos, if_neg, Int.toNat_of_nonneg, bak_v, bak_n, wr_b01, wr_bt, b01_or, b01_0, b01_1, lc_lt0, lc_gt0, lc_eq0, wl_wr, wr_wr, wl_id, true_and, and_true, true_or, or_true, not_true_eq_false, not_false_eq_true, nc0, nc1, nc2, nc3, nc4, nc5, nc6, nc7, nc8, nc9, nc10, nc11, nc12, nc13, nc14, nc15, nc16, nc17, nc18, nc19, nc20, nc21, nc22, nc23, nc35, nc47, nc59, nc60, nc61, nc73, nc74, nc214, nc215, nc1115, nc2230, nc3345, if_true, if_false, Int.reduceToNat, hk, hm.k, hm.r1, hm.r2, hm.r3, hm.r4, hm.r15, hm.r16, hm.r19, hm.r23, hm.r24, hm.r25, hm.r26, hm.r29, hm.r30, hm.r31, hm.r33, hm.r34, hm.r35, hm.k73, hm.k74, hm.k75, hm.k76, hm.k77, hm.k78, hm.k79, hm.k80, hm.k81, hm.k82, hm.k83, hm.k84, hm.k85, hm.k86, hm.k87, hm.k88, hm.k89, hm.n73, hm.n74, hm.n75, hm.n76, hm.n77, hm.n78, hm.n79, hm.n80, hm.n81, hm.n82, hm.n83, hm.n84, hm.n85, hm.n86, hm.n87, hm.n88, hm.n89, ms0.2, m_within]
        refine st.trans ?_
        generalize mnA S n = k at *
        have e1 := m_averageBy (d := d + 78) ms0 g (n := k) (w := k) (by omega) (by omega)
        have r1 := avF_rng g (n := k) (w := k) (by omega) (by omega)
        have r2 := pwK_rng g (k := k) (by omega)
        have e2 := m_power (d := d + 80) (h := pI h 72 0 0) (c := 10 - S 7) (n := k) (by omega)
        have e3 := m_common (d := d) (h := pI h 72 0 0) (a := avF S k k (S 1)) (b := pwK (10 - S 7) k) (by omega) (by omega)
        have r3 := gcA_rng r1.1 r2.1
        by_cases c0 : u = 0
        · rw [if_pos c0]
          simp (disch := omega) only [Mod_average_68, Mod_average_75, Mod_average_93, Mod_average_102, Mod_average_108, Mod_average_121, wr_id, ix_id, okx, if_pos, if_neg, Int.toNat_of_nonneg, bak_v, bak_n, wr_b01, wr_bt, b01_or, b01_0, b01_1, lc_lt0, lc_gt0, lc_eq0, wl_wr, wr_wr, wl_id, true_and, and_true, true_or, or_true, not_true_eq_false, not_false_eq_true, nc0, nc1, nc2, nc3, nc4, nc5, nc6, nc7, nc8, nc9, nc10, nc11, nc12, nc13, nc14, nc15, nc16, nc17, nc18, nc19, nc20, nc21, nc22, nc23, nc35, nc47, nc59, nc60, nc61, nc73, nc74, nc214, nc215, nc1115, nc2230, nc3345, if_true, if_false, Int.reduceToNat, hm.k, hm.r1, hm.r2, hm.r3, hm.r4, hm.r15, hm.r16, hm.r19, hm.r23, hm.r24, hm.r25, hm.r26, hm.r29, hm.r30, hm.r31, hm.r33, hm.r34, hm.r35, hm.k73, hm.k74, hm.k75, hm.k76, hm.k77, hm.k78, hm.k79, hm.k80, hm.k81, hm.k82, hm.k83, hm.k84, hm.k85, hm.k86, hm.k87, hm.k88, hm.k89, hm.n73, hm.n74, hm.n75, hm.n76, hm.n77, hm.n78, hm.n79, hm.n80, hm.n81, hm.n82, hm.n83, hm.n84, hm.n85, hm.n86, hm.n87, hm.n88, hm.n89, ms0.2, e1, e2, e3, lDiv_e]
        · rw [if_neg c0]
          simp (disch := omega) only [Mod_average_68, Mod_average_75, Mod_average_93, Mod_average_102, Mod_average_116, Mod_average_121, wr_id, ix_id, okx, if_pos, if_neg, Int.toNat_of_nonneg, bak_v, bak_n, wr_b01, wr_bt, b01_or, b01_0, b01_1, lc_lt0, lc_gt0, lc_eq0, wl_wr, wr_wr, wl_id, true_and, and_true, true_or, or_true, not_true_eq_false, not_false_eq_true, nc0, nc1, nc2, nc3, nc4, nc5, nc6, nc7, nc8, nc9, nc10, nc11, nc12, nc13, nc14, nc15, nc16, nc17, nc18, nc19, nc20, nc21, nc22, nc23, nc35, nc47, nc59, nc60, nc61, nc73, nc74, nc214, nc215, nc1115, nc2230, nc3345, if_true, if_false, Int.reduceToNat, hm.k, hm.r1, hm.r2, hm.r3, hm.r4, hm.r15, hm.r16, hm.r19, hm.r23, hm.r24, hm.r25, hm.r26, hm.r29, hm.r30, hm.r31, hm.r33, hm.r34, hm.r35, hm.k73, hm.k74, hm.k75, hm.k76, hm.k77, hm.k78, hm.k79, hm.k80, hm.k81, hm.k82, hm.k83, hm.k84, hm.k85, hm.k86, hm.k87, hm.k88, hm.k89, hm.n73, hm.n74, hm.n75, hm.n76, hm.n77, hm.n78, hm.n79, hm.n80, hm.n81, hm.n82, hm.n83, hm.n84, hm.n85, hm.n86, hm.n87, hm.n88, hm.n89, ms0.2, e1, e2, e3, lDiv_e]
    · rw [if_pos cn]
      simp (disch := omega) only [Mod_average_0, Mod_average_5, Mod_average_12, Mod_average_19, Mod_average_28, Mod_average_31, wr_id, ix_id, okx, if_pos, if_neg, Int.toNat_of_nonneg, bak_v, bak_n, wr_b01, wr_bt, b01_or, b01_0, b01_1, lc_lt0, lc_gt0, lc_eq0, wl_wr, wr_wr, wl_id, true_and, and_true, true_or, or_true, not_true_eq_false, not_false_eq_true, nc0, nc1, nc2, nc3, nc4, nc5, nc6, nc7, nc8, nc9, nc10, nc11, nc12, nc13, nc14, nc15, nc16, nc17, nc18, nc19, nc20, nc21, nc22, nc23, nc35, nc47, nc59, nc60, nc61, nc73, nc74, nc214, nc215, nc1115, nc2230, nc3345, if_true, if_false, Int.reduceToNat, hk, hm.k, hm.r1, hm.r2, hm.r3, hm.r4, hm.r15, hm.r16, hm.r19, hm.r23, hm.r24, hm.r25, hm.r26, hm.r29, hm.r30, hm.r31, hm.r33, hm.r34, hm.r35, hm.k73, hm.k74, hm.k75, hm.k76, hm.k77, hm.k78, hm.k79, hm.k80, hm.k81, hm.k82, hm.k83, hm.k84, hm.k85, hm.k86, hm.k87, hm.k88, hm.k89, hm.n73, hm.n74, hm.n75, hm.n76, hm.n77, hm.n78, hm.n79, hm.n80, hm.n81, hm.n82, hm.n83, hm.n84, hm.n85, hm.n86, hm.n87, hm.n88, hm.n89, ms0.2, m_within]
  · rw [if_pos cu]
    simp (disch := omega) only [Mod_average_0, Mod_average_5, Mod_average_12, Mod_average_15, wr_id, ix_id, okx, if_pos, if_neg, Int.toNat_of_nonneg, bak_v, bak_n, wr_b01, wr_bt, b01_or, b01_0, b01_1, lc_lt0, lc_gt0, lc_eq0, wl_wr, wr_wr, wl_id, true_and, and_true, true_or, or_true, not_true_eq_false, not_false_eq_true, nc0, nc1, nc2, nc3, nc4, nc5, nc6, nc7, nc8, nc9, nc10, nc11, nc12, nc13, nc14, nc15, nc16, nc17, nc18, nc19, nc20, nc21, nc22, nc23, nc35, nc47, nc59, nc60, nc61, nc73, nc74, nc214, nc215, nc1115, nc2230, nc3345, if_true, if_false, Int.reduceToNat, hk, hm.k, hm.r1, hm.r2, hm.r3, hm.r4, hm.r15, hm.r16, hm.r19, hm.r23, hm.r24, hm.r25, hm.r26, hm.r29, hm.r30, hm.r31, hm.r33, hm.r34, hm.r35, hm.k73, hm.k74, hm.k75, hm.k76, hm.k77, hm.k78, hm.k79, hm.k80, hm.k81, hm.k82, hm.k83, hm.k84, hm.k85, hm.k86, hm.k87, hm.k88, hm.k89, hm.n73, hm.n74, hm.n75, hm.n76, hm.n77, hm.n78, hm.n79, hm.n80, hm.n81, hm.n82, hm.n83, hm.n84, hm.n85, hm.n86, hm.n87, hm.n88, hm.n89, ms0.2, m_within]
theorem avF_mn {S : Int → Int} (g : Gd S) (h1 : ¬ S 1 = 0) {n : Int} (hn : 1 ≤ n ∧ n ≤ 12) : avF S n 12 (S 1) = avF S (mnA S n) 12 (S 1) := by
  have ga := g.a
  unfold mnA
  split
  · rfl
  · by_cases c : n = S 1
    · rw [c]
    · rw [avF_lt (n := n) (by omega) (by omega), avF_s (n := S 1) (r := S 1) (by omega) (by omega), show S 1 - S 1 = 0 by omega, avF_0 (by omega), Int.add_zero]
theorem cc_average {d w : Nat} {h : Hp} {S : Int → Int} (hc : CR h w) (wv : WV h w S) (g : Gd S) {n u : Int} (rn : -2147483648 ≤ n ∧ n ≤ 2147483647) (ru : -2147483648 ≤ u ∧ u ≤ 2147483647) : cal (d+4) m_Hook_average [.inr (.inr (6)), .inl (n), .inl (u)] (h) = some (.inr (.inl (ansAvg S n u)), h) := by
  have hw := wv.1
  have ga := g.a
  have g7 := g.1.2.2.2.2.2.2.1
  show EX (d+3) m_Hook_average 0 [(0, .inr (.inr (6))), (1, .inl (n)), (2, .inl (u))] [] (h) = _
  unfold ansAvg
  by_cases cu : 0 ≤ u ∧ u ≤ 1
  · rw [if_neg (show ¬ ¬ (0 ≤ u ∧ u ≤ 1) by omega)]
    have st : EX (d+3) m_Hook_average 0 [(0, .inr (.inr (6))), (1, .inl (n)), (2, .inl (u))] [] (h) = EX (d+3) m_Hook_average 13 [(0, .inr (.inr (6))), (1, .inl (n)), (2, .inl (u))] [] (h) := by
      by_cases c0 : u = 0
      · simp (disch := omega) only [Hook_average_0, wr_id, ix_id, okx, if_pos, if_neg, Int.toNat_of_nonneg, bak_v, bak_n, wr_b01, wr_bt, b01_or, b01_0, b01_1, lc_lt0, lc_gt0, lc_eq0, wl_wr, wr_wr, wl_id, true_and, and_true, true_or, or_true, not_true_eq_false, not_false_eq_true, nc0, nc1, nc2, nc3, nc4, nc5, nc6, nc7, nc8, nc9, nc10, nc11, nc12, nc13, nc14, nc15, nc16, nc17, nc18, nc19, nc20, nc21, nc22, nc23, nc35, nc47, nc59, nc60, nc61, nc73, nc74, nc214, nc215, nc1115, nc2230, nc3345, if_true, if_false, Int.reduceToNat]
      · simp (disch := omega) only [Hook_average_0, Hook_average_4, wr_id, ix_id, okx, if_pos, if_neg, Int.toNat_of_nonneg, bak_v, bak_n, wr_b01, wr_bt, b01_or, b01_0, b01_1, lc_lt0, lc_gt0, lc_eq0, wl_wr, wr_wr, wl_id, true_and, and_true, true_or, or_true, not_true_eq_false, not_false_eq_true, nc0, nc1, nc2, nc3, nc4, nc5, nc6, nc7, nc8, nc9, nc10, nc11, nc12, nc13, nc14, nc15, nc16, nc17, nc18, nc19, nc20, nc21, nc22, nc23, nc35, nc47, nc59, nc60, nc61, nc73, nc74, nc214, nc215, nc1115, nc2230, nc3345, if_true, if_false, Int.reduceToNat]
    refine st.trans ?_
    by_cases cn : 1 ≤ n ∧ n ≤ 12
    · rw [if_neg (show ¬ ¬ (1 ≤ n ∧ n ≤ 12) by omega)]
      by_cases c : S 1 = 0
      · rw [if_pos c]
        simp (disch := omega) only [Hook_average_13, Hook_average_18, Hook_average_28, Hook_average_38, wr_id, ix_id, okx, if_pos, if_neg, Int.toNat_of_nonneg, bak_v, bak_n, wr_b01, wr_bt, b01_or, b01_0, b01_1, lc_lt0, lc_gt0, lc_eq0, wl_wr, wr_wr, wl_id, true_and, and_true, true_or, or_true, not_true_eq_false, not_false_eq_true, nc0, nc1, nc2, nc3, nc4, nc5, nc6, nc7, nc8, nc9, nc10, nc11, nc12, nc13, nc14, nc15, nc16, nc17, nc18, nc19, nc20, nc21, nc22, nc23, nc35, nc47, nc59, nc60, nc61, nc73, nc74, nc214, nc215, nc1115, nc2230, nc3345, if_true, if_false, Int.reduceToNat, hc.k6, hc.r5, hc.r6, hc.r0, hc.r2, hc.r7, hc.r8, hc.r9, hc.r10, hc.r11, hc.r12, hc.r13, hc.r14, hc.r15, hc.r16, hc.r17, hc.r18, hc.r8_0, hc.r8_1, hc.r11_0, hc.r11_1, hc.r60_0, hc.r60_1, hc.r60_4, hc.r64_0, hc.r64_3, hc.r64_4, hc.r68_0, hc.r41_0, hc.r41_1, hc.r42_0, hc.r42_1, hc.k7, hc.k8, hc.k9, hc.k11, hc.k12, hc.k13, hc.k32, hc.k41, hc.k42, hc.k43, hc.k60, hc.k61, hc.k62, hc.k63, hc.k64, hc.k65, hc.k66, hc.k67, hc.k68, hc.k69, hc.k70, hc.k71, hc.n6, hc.n7, hc.n8, hc.n9, hc.n11, hc.n12, hc.n13, hc.n32, hc.n41, hc.n42, hc.n43, hc.n60, hc.n61, hc.n62, hc.n63, hc.n64, hc.n65, hc.n66, hc.n67, hc.n68, hc.n69, hc.n70, hc.n71, hw.k, hw.r0, hw.r1, hw.r2, hw.r3, hw.r4, hw.k1, hw.k2, hw.k3, hw.k4, hw.k5, hw.n1, hw.n2, hw.n3, hw.n4, hw.n5, wv.f5, wv.f6, wv.f7, wv.f8, wv.f9, wv.f10, wv.f11, wv.f12, wv.f13, wv.f14, wv.pk, wv.qk, wv.hk, wv.rk, c]
      · rw [if_neg c]
        have nr : 1 ≤ mnA S n ∧ mnA S n ≤ 12 := by unfold mnA; split <;> omega
        have e1 := c_averageUpper (d := d) wv g (n := n) cn
        have em := avF_mn g c cn
        rw [em] at e1
        generalize mnA S n = k at *
        have sc := avF_sc (S := S) (n := k) (w := k) (r := S 1) (by omega) (by omega)
        have p2 : pwK (10 - S 7) 12 = pwK (10 - S 7) k * pwK (10 - S 7) (12 - k) := by
          rw [← pwK_add (by omega) (by omega), show k + (12 - k) = 12 by omega]
        have r1 := avF_rng g (n := k) (w := 12) (by omega) (by omega)
        have r0 := avF_rng g (n := k) (w := k) (by omega) (by omega)
        have r2 := pwK_rng g (k := 12) (by omega)
        have r4 := pwK_rng g (k := k) (by omega)
        have r5 := pwK_rng g (k := 12 - k) (by omega)
        have e2 := c_averageLower (d := d + 1) wv g
        have e3 := c_common (d := d + 2) (h := h) (a := avF S k 12 (S 1)) (b := pwK (10 - S 7) 12) (by omega) (by omega)
        have r3 := gcA_rng r1.1 r2.1
        have gs : gcA (avF S k 12 (S 1)) (pwK (10 - S 7) 12) = gcA (avF S k k (S 1)) (pwK (10 - S 7) k) * pwK (10 - S 7) (12 - k) := by
          rw [sc, p2, gcA_sc r0.1 (by omega) (by omega)]
        by_cases c0 : u = 0
        · rw [if_pos c0]
          simp (disch := omega) only [Hook_average_13, Hook_average_18, Hook_average_28, Hook_average_42, Hook_average_50, Hook_average_58, Hook_average_66, Hook_average_77, Hook_average_81, Hook_average_93, wr_id, ix_id, okx, if_pos, if_neg, Int.toNat_of_nonneg, bak_v, bak_n, wr_b01, wr_bt, b01_or, b01_0, b01_1, lc_lt0, lc_gt0, lc_eq0, wl_wr, wr_wr, wl_id, true_and, and_true, true_or, or_true, not_true_eq_false, not_false_eq_true, nc0, nc1, nc2, nc3, nc4, nc5, nc6, nc7, nc8, nc9, nc10, nc11, nc12, nc13, nc14, nc15, nc16, nc17, nc18, nc19, nc20, nc21, nc22, nc23, nc35, nc47, nc59, nc60, nc61, nc73, nc74, nc214, nc215, nc1115, nc2230, nc3345, if_true, if_false, Int.reduceToNat, hc.k6, hc.r5, hc.r6, hc.r0, hc.r2, hc.r7, hc.r8, hc.r9, hc.r10, hc.r11, hc.r12, hc.r13, hc.r14, hc.r15, hc.r16, hc.r17, hc.r18, hc.r8_0, hc.r8_1, hc.r11_0, hc.r11_1, hc.r60_0, hc.r60_1, hc.r60_4, hc.r64_0, hc.r64_3, hc.r64_4, hc.r68_0, hc.r41_0, hc.r41_1, hc.r42_0, hc.r42_1, hc.k7, hc.k8, hc.k9, hc.k11, hc.k12, hc.k13, hc.k32, hc.k41, hc.k42, hc.k43, hc.k60, hc.k61, hc.k62, hc.k63, hc.k64, hc.k65, hc.k66, hc.k67, hc.k68, hc.k69, hc.k70, hc.k71, hc.n6, hc.n7, hc.n8, hc.n9, hc.n11, hc.n12, hc.n13, hc.n32, hc.n41, hc.n42, hc.n43, hc.n60, hc.n61, hc.n62, hc.n63, hc.n64, hc.n65, hc.n66, hc.n67, hc.n68, hc.n69, hc.n70, hc.n71, hw.k, hw.r0, hw.r1, hw.r2, hw.r3, hw.r4, hw.k1, hw.k2, hw.k3, hw.k4, hw.k5, hw.n1, hw.n2, hw.n3, hw.n4, hw.n5, wv.f5, wv.f6, wv.f7, wv.f8, wv.f9, wv.f10, wv.f11, wv.f12, wv.f13, wv.f14, wv.pk, wv.qk, wv.hk, wv.rk, e1, e2, e3, lDiv_e]
          rw [gs, sc, Int.mul_ediv_mul_of_pos_left _ _ (by omega)]
        · rw [if_neg c0]
          simp (disch := omega) only [Hook_average_13, Hook_average_18, Hook_average_28, Hook_average_42, Hook_average_50, Hook_average_58, Hook_average_66, Hook_average_77, Hook_average_88, Hook_average_93, wr_id, ix_id, okx, if_pos, if_neg, Int.toNat_of_nonneg, bak_v, bak_n, wr_b01, wr_bt, b01_or, b01_0, b01_1, lc_lt0, lc_gt0, lc_eq0, wl_wr, wr_wr, wl_id, true_and, and_true, true_or, or_true, not_true_eq_false, not_false_eq_true, nc0, nc1, nc2, nc3, nc4, nc5, nc6, nc7, nc8, nc9, nc10, nc11, nc12, nc13, nc14, nc15, nc16, nc17, nc18, nc19, nc20, nc21, nc22, nc23, nc35, nc47, nc59, nc60, nc61, nc73, nc74, nc214, nc215, nc1115, nc2230, nc3345, if_true, if_false, Int.reduceToNat, hc.k6, hc.r5, hc.r6, hc.r0, hc.r2, hc.r7, hc.r8, hc.r9, hc.r10, hc.r11, hc.r12, hc.r13, hc.r14, hc.r15, hc.r16, hc.r17, hc.r18, hc.r8_0, hc.r8_1, hc.r11_0, hc.r11_1, hc.r60_0, hc.r60_1, hc.r60_4, hc.r64_0, hc.r64_3, hc.r64_4, hc.r68_0, hc.r41_0, hc.r41_1, hc.r42_0, hc.r42_1, hc.k7, hc.k8, hc.k9, hc.k11, hc.k12, hc.k13, hc.k32, hc.k41, hc.k42, hc.k43, hc.k60, hc.k61, hc.k62, hc.k63, hc.k64, hc.k65, hc.k66, hc.k67, hc.k68, hc.k69, hc.k70, hc.k71, hc.n6, hc.n7, hc.n8, hc.n9, hc.n11, hc.n12, hc.n13, hc.n32, hc.n41, hc.n42, hc.n43, hc.n60, hc.n61, hc.n62, hc.n63, hc.n64, hc.n65, hc.n66, hc.n67, hc.n68, hc.n69, hc.n70, hc.n71, hw.k, hw.r0, hw.r1, hw.r2, hw.r3, hw.r4, hw.k1, hw.k2, hw.k3, hw.k4, hw.k5, hw.n1, hw.n2, hw.n3, hw.n4, hw.n5, wv.f5, wv.f6, wv.f7, wv.f8, wv.f9, wv.f10, wv.f11, wv.f12, wv.f13, wv.f14, wv.pk, wv.qk, wv.hk, wv.rk, e1, e2, e3, lDiv_e]
          rw [gs, p2, Int.mul_ediv_mul_of_pos_left _ _ (by omega)]
    · rw [if_pos cn]
      by_cases c1 : n < 1
      · simp (disch := omega) only [Hook_average_13, Hook_average_24, wr_id, ix_id, okx, if_pos, if_neg, Int.toNat_of_nonneg, bak_v, bak_n, wr_b01, wr_bt, b01_or, b01_0, b01_1, lc_lt0, lc_gt0, lc_eq0, wl_wr, wr_wr, wl_id, true_and, and_true, true_or, or_true, not_true_eq_false, not_false_eq_true, nc0, nc1, nc2, nc3, nc4, nc5, nc6, nc7, nc8, nc9, nc10, nc11, nc12, nc13, nc14, nc15, nc16, nc17, nc18, nc19, nc20, nc21, nc22, nc23, nc35, nc47, nc59, nc60, nc61, nc73, nc74, nc214, nc215, nc1115, nc2230, nc3345, if_true, if_false, Int.reduceToNat]
      · simp (disch := omega) only [Hook_average_13, Hook_average_18, Hook_average_24, wr_id, ix_id, okx, if_pos, if_neg, Int.toNat_of_nonneg, bak_v, bak_n, wr_b01, wr_bt, b01_or, b01_0, b01_1, lc_lt0, lc_gt0, lc_eq0, wl_wr, wr_wr, wl_id, true_and, and_true, true_or, or_true, not_true_eq_false, not_false_eq_true, nc0, nc1, nc2, nc3, nc4, nc5, nc6, nc7, nc8, nc9, nc10, nc11, nc12, nc13, nc14, nc15, nc16, nc17, nc18, nc19, nc20, nc21, nc22, nc23, nc35, nc47, nc59, nc60, nc61, nc73, nc74, nc214, nc215, nc1115, nc2230, nc3345, if_true, if_false, Int.reduceToNat]
  · rw [if_pos cu]
    simp (disch := omega) only [Hook_average_0, Hook_average_4, Hook_average_9, wr_id, ix_id, okx, if_pos, if_neg, Int.toNat_of_nonneg, bak_v, bak_n, wr_b01, wr_bt, b01_or, b01_0, b01_1, lc_lt0, lc_gt0, lc_eq0, wl_wr, wr_wr, wl_id, true_and, and_true, true_or, or_true, not_true_eq_false, not_false_eq_true, nc0, nc1, nc2, nc3, nc4, nc5, nc6, nc7, nc8, nc9, nc10, nc11, nc12, nc13, nc14, nc15, nc16, nc17, nc18, nc19, nc20, nc21, nc22, nc23, nc35, nc47, nc59, nc60, nc61, nc73, nc74, nc214, nc215, nc1115, nc2230, nc3345, if_true, if_false, Int.reduceToNat]
