/-! the model: whyNot whole, nextJoined, sagOf, small ones -/
theorem m_whyNot {d a : Nat} {h : Hp} {S : Int → Int} (hs : RS h a S) (g : Gd S) {x y : Int} (rx : -2147483648 ≤ x ∧ x ≤ 2147483647) (ry : -2147483648 ≤ y ∧ y ≤ 2147483647) : cal (d+2) m_Mod_whyNot [.inr (.inr (a)), .inl (x), .inl (y)] (h) = some (.inl (whyM S x y), h) := by
  have hs0 := hs
  obtain ⟨k1, k2, k3, k4⟩ := hs
  have ga := g.a
  have gb := g.b
  have gk := g.1.2.2.2.2.2.2.2.2.1
  show EX (d+1) m_Mod_whyNot 0 [(0, .inr (.inr (a))), (1, .inl (x)), (2, .inl (y))] [] (h) = _
  unfold whyM
  by_cases hx : 0 ≤ x ∧ x < S 1
  · by_cases hy : 0 ≤ y ∧ y < S 2
    · have gr := g.rg hx.1 (by omega)
      rw [if_neg (by omega)]
      simp (disch := omega) only [Mod_whyNot_0, Mod_whyNot_12, Mod_whyNot_15, Mod_whyNot_27, Mod_whyNot_30, Mod_whyNot_32, Mod_whyNot_42, Mod_whyNot_47, Mod_whyNot_51, Mod_whyNot_60, Mod_whyNot_63, Mod_whyNot_65, wr_id, ix_id, okx, if_pos, if_neg, Int.toNat_of_nonneg, bak_v, bak_n, wr_b01, wr_bt, b01_or, b01_0, b01_1, lc_lt0, lc_gt0, lc_eq0, wl_wr, wr_wr, wl_id, true_and, and_true, true_or, or_true, not_true_eq_false, not_false_eq_true, nc0, nc1, nc2, nc3, nc4, nc5, nc6, nc7, nc8, nc9, nc10, nc11, nc12, nc13, nc14, nc15, nc16, nc17, nc18, nc19, nc20, nc21, nc22, nc23, nc35, nc47, nc59, nc60, nc61, nc73, nc74, nc214, nc215, nc1115, nc2230, nc3345, if_true, if_false, Int.reduceToNat, k4, m_within, m_hookAt hs0 ga.2 ga.1 g.rg', m_isIn]
      by_cases c1 : S (61 + x) = -1
      · rw [if_pos c1]
        have c2 := ff_spec (p := fun k => decide (S (61 + k) = y)) (N := S 1) 0
        have c3 : wr (hookM S y) = hookM S y := wr_id (by unfold hookM; omega) (by unfold hookM; omega)
        rw [c3]
        by_cases c4 : hookM S y = -1
        · rw [if_pos c4]
          rcases bt_01 (S 10) y with e | e
          · have l := m_whyNot_l (d := d + 1) hs0 g hx hy c1 0 (by omega) (by omega) (by omega)
            rw [show min 0 x = 0 by omega, fl_stop (Int.le_refl 0), ff_stop hx.1] at l
            have r2 : ¬ (¬ S (61 + x) = -1 ∨ ¬ hookM S y = -1 ∨ bt (S 10) y = 1) := by omega
            rw [if_pos e, l, if_neg r2]
            by_cases c6 : ff (bad3 S x y) 0 (S 1) = -1
            · have f1 := fl_spec (p := Jn S) x hx.1
              have f2 := ff_spec (p := Jn S) (N := S 1) x
              rw [if_pos c6, if_neg (by omega)]
              by_cases d1 : fl (Jn S) x = -1
              · by_cases d2 : ff (Jn S) x (S 1) = -1
                · simp (disch := omega) only [Mod_whyNot_156, Mod_whyNot_179, Mod_whyNot_207, Mod_whyNot_208, wr_id, ix_id, okx, if_pos, if_neg, Int.toNat_of_nonneg, bak_v, bak_n, wr_b01, wr_bt, b01_or, b01_0, b01_1, lc_lt0, lc_gt0, lc_eq0, wl_wr, wr_wr, wl_id, true_and, and_true, true_or, or_true, not_true_eq_false, not_false_eq_true, nc0, nc1, nc2, nc3, nc4, nc5, nc6, nc7, nc8, nc9, nc10, nc11, nc12, nc13, nc14, nc15, nc16, nc17, nc18, nc19, nc20, nc21, nc22, nc23, nc35, nc47, nc59, nc60, nc61, nc73, nc74, nc214, nc215, nc1115, nc2230, nc3345, if_true, if_false, Int.reduceToNat, d1, d2]
                  simp
                · have gq := g.rg (i := ff (Jn S) x (S 1)) (by omega) (by omega)
                  have sg := g.1.sag (x := x) (r := y) (y := ff (Jn S) x (S 1)) (s := S (61 + ff (Jn S) x (S 1))) (by omega) (by omega) (by omega) (by omega)
                  have jq : ¬ S (61 + ff (Jn S) x (S 1)) = -1 := by
                    rcases f2 with q | q
                    · omega
                    · simpa [Jn] using q.2.2.1
                  simp (disch := omega) only [Mod_whyNot_156, Mod_whyNot_179, Mod_whyNot_185, Mod_whyNot_200, Mod_whyNot_203, Mod_whyNot_207, Mod_whyNot_208, wr_id, ix_id, okx, if_pos, if_neg, Int.toNat_of_nonneg, bak_v, bak_n, wr_b01, wr_bt, b01_or, b01_0, b01_1, lc_lt0, lc_gt0, lc_eq0, wl_wr, wr_wr, wl_id, true_and, and_true, true_or, or_true, not_true_eq_false, not_false_eq_true, nc0, nc1, nc2, nc3, nc4, nc5, nc6, nc7, nc8, nc9, nc10, nc11, nc12, nc13, nc14, nc15, nc16, nc17, nc18, nc19, nc20, nc21, nc22, nc23, nc35, nc47, nc59, nc60, nc61, nc73, nc74, nc214, nc215, nc1115, nc2230, nc3345, if_true, if_false, Int.reduceToNat, d1, k4, m_sag hs0]
                  split <;> simp_all
              · have gp := g.rg (i := fl (Jn S) x) (by omega) (by omega)
                have jp : ¬ S (61 + fl (Jn S) x) = -1 := by
                  rcases f1 with q | q
                  · omega
                  · simpa [Jn] using q.2.2.1
                have sp := g.1.sag (x := fl (Jn S) x) (r := S (61 + fl (Jn S) x)) (y := x) (s := y) (by omega) (by omega) (by omega) (by omega)
                by_cases d2 : ff (Jn S) x (S 1) = -1
                · simp (disch := omega) only [Mod_whyNot_156, Mod_whyNot_161, Mod_whyNot_174, Mod_whyNot_177, Mod_whyNot_179, Mod_whyNot_207, Mod_whyNot_208, wr_id, ix_id, okx, if_pos, if_neg, Int.toNat_of_nonneg, bak_v, bak_n, wr_b01, wr_bt, b01_or, b01_0, b01_1, lc_lt0, lc_gt0, lc_eq0, wl_wr, wr_wr, wl_id, true_and, and_true, true_or, or_true, not_true_eq_false, not_false_eq_true, nc0, nc1, nc2, nc3, nc4, nc5, nc6, nc7, nc8, nc9, nc10, nc11, nc12, nc13, nc14, nc15, nc16, nc17, nc18, nc19, nc20, nc21, nc22, nc23, nc35, nc47, nc59, nc60, nc61, nc73, nc74, nc214, nc215, nc1115, nc2230, nc3345, if_true, if_false, Int.reduceToNat, d2, k4, m_sag hs0]
                  split <;> simp_all
                · have gq := g.rg (i := ff (Jn S) x (S 1)) (by omega) (by omega)
                  have sg := g.1.sag (x := x) (r := y) (y := ff (Jn S) x (S 1)) (s := S (61 + ff (Jn S) x (S 1))) (by omega) (by omega) (by omega) (by omega)
                  have jq : ¬ S (61 + ff (Jn S) x (S 1)) = -1 := by
                    rcases f2 with q | q
                    · omega
                    · simpa [Jn] using q.2.2.1
                  simp (disch := omega) only [Mod_whyNot_156, Mod_whyNot_161, Mod_whyNot_174, Mod_whyNot_177, Mod_whyNot_179, Mod_whyNot_185, Mod_whyNot_200, Mod_whyNot_203, Mod_whyNot_207, Mod_whyNot_208, wr_id, ix_id, okx, if_pos, if_neg, Int.toNat_of_nonneg, bak_v, bak_n, wr_b01, wr_bt, b01_or, b01_0, b01_1, lc_lt0, lc_gt0, lc_eq0, wl_wr, wr_wr, wl_id, true_and, and_true, true_or, or_true, not_true_eq_false, not_false_eq_true, nc0, nc1, nc2, nc3, nc4, nc5, nc6, nc7, nc8, nc9, nc10, nc11, nc12, nc13, nc14, nc15, nc16, nc17, nc18, nc19, nc20, nc21, nc22, nc23, nc35, nc47, nc59, nc60, nc61, nc73, nc74, nc214, nc215, nc1115, nc2230, nc3345, if_true, if_false, Int.reduceToNat, k4, m_sag hs0]
                  by_cases e1 : sagM S (fl (Jn S) x) (S (61 + fl (Jn S) x)) x y < 0
                  · simp [e1, d1]
                  · by_cases e2 : sagM S x y (ff (Jn S) x (S 1)) (S (61 + ff (Jn S) x (S 1))) < 0 <;> simp [e1, e2, d1, d2]
            · rw [if_neg c6, if_pos (by omega)]
          · rw [if_neg (by omega), if_pos (by omega)]
        · rw [if_neg c4, if_pos (by omega)]
      · rw [if_neg c1, if_pos (by omega)]
    · simp (disch := omega) only [Mod_whyNot_0, Mod_whyNot_12, Mod_whyNot_15, Mod_whyNot_27, Mod_whyNot_30, wr_id, ix_id, okx, if_pos, if_neg, Int.toNat_of_nonneg, bak_v, bak_n, wr_b01, wr_bt, b01_or, b01_0, b01_1, lc_lt0, lc_gt0, lc_eq0, wl_wr, wr_wr, wl_id, true_and, and_true, true_or, or_true, not_true_eq_false, not_false_eq_true, nc0, nc1, nc2, nc3, nc4, nc5, nc6, nc7, nc8, nc9, nc10, nc11, nc12, nc13, nc14, nc15, nc16, nc17, nc18, nc19, nc20, nc21, nc22, nc23, nc35, nc47, nc59, nc60, nc61, nc73, nc74, nc214, nc215, nc1115, nc2230, nc3345, if_true, if_false, Int.reduceToNat, k4, m_within]
  · simp (disch := omega) only [Mod_whyNot_0, Mod_whyNot_12, Mod_whyNot_15, Mod_whyNot_27, Mod_whyNot_30, wr_id, ix_id, okx, if_pos, if_neg, Int.toNat_of_nonneg, bak_v, bak_n, wr_b01, wr_bt, b01_or, b01_0, b01_1, lc_lt0, lc_gt0, lc_eq0, wl_wr, wr_wr, wl_id, true_and, and_true, true_or, or_true, not_true_eq_false, not_false_eq_true, nc0, nc1, nc2, nc3, nc4, nc5, nc6, nc7, nc8, nc9, nc10, nc11, nc12, nc13, nc14, nc15, nc16, nc17, nc18, nc19, nc20, nc21, nc22, nc23, nc35, nc47, nc59, nc60, nc61, nc73, nc74, nc214, nc215, nc1115, nc2230, nc3345, if_true, if_false, Int.reduceToNat, k4, m_within]
theorem m_isHook {d : Nat} {h : Hp} {S : Int → Int} (ms : MS h S) (ga : 0 ≤ S 1 ∧ S 1 ≤ 12) {x : Int} (rx : -2147483648 ≤ x ∧ x ≤ 2147483647) : cal (d+2) m_Mod_isHook [.inr (.inr (72)), .inl (x)] (h) = some (.inl (b01 (0 ≤ x ∧ x < S 1)), h) := by
  have hm := ms.1
  show EX (d+1) m_Mod_isHook 0 [(0, .inr (.inr (72))), (1, .inl (x))] [] (h) = _
  simp (disch := omega) only [Mod_isHook_0, Mod_isHook_15, wr_id, ix_id, okx, if_pos, if_neg, Int.toNat_of_nonneg, bak_v, bak_n, wr_b01, wr_bt, b01_or, b01_0, b01_1, lc_lt0, lc_gt0, lc_eq0, wl_wr, wr_wr, wl_id, true_and, and_true, true_or, or_true, not_true_eq_false, not_false_eq_true, nc0, nc1, nc2, nc3, nc4, nc5, nc6, nc7, nc8, nc9, nc10, nc11, nc12, nc13, nc14, nc15, nc16, nc17, nc18, nc19, nc20, nc21, nc22, nc23, nc35, nc47, nc59, nc60, nc61, nc73, nc74, nc214, nc215, nc1115, nc2230, nc3345, if_true, if_false, Int.reduceToNat, hm.k, hm.r1, hm.r2, hm.r3, hm.r4, hm.r15, hm.r16, hm.r19, hm.r23, hm.r24, hm.r25, hm.r26, hm.r29, hm.r30, hm.r31, hm.r33, hm.r34, hm.r35, hm.k73, hm.k74, hm.k75, hm.k76, hm.k77, hm.k78, hm.k79, hm.k80, hm.k81, hm.k82, hm.k83, hm.k84, hm.k85, hm.k86, hm.k87, hm.k88, hm.k89, hm.n73, hm.n74, hm.n75, hm.n76, hm.n77, hm.n78, hm.n79, hm.n80, hm.n81, hm.n82, hm.n83, hm.n84, hm.n85, hm.n86, hm.n87, hm.n88, hm.n89, ms.2, m_within]
  simp only [show (x ≤ S 1 - 1) = (x < S 1) by simp; omega]
theorem m_isRing {d : Nat} {h : Hp} {S : Int → Int} (ms : MS h S) (gb : 0 ≤ S 2 ∧ S 2 ≤ 12) {x : Int} (rx : -9223372036854775808 ≤ x ∧ x ≤ 9223372036854775807) : cal (d+2) m_Mod_isRing [.inr (.inr (72)), .inr (.inl (x))] (h) = some (.inl (b01 (0 ≤ x ∧ x < S 2)), h) := by
  have hm := ms.1
  show EX (d+1) m_Mod_isRing 0 [(0, .inr (.inr (72))), (1, .inr (.inl (x)))] [] (h) = _
  simp (disch := omega) only [Mod_isRing_0, Mod_isRing_14, wr_id, ix_id, okx, if_pos, if_neg, Int.toNat_of_nonneg, bak_v, bak_n, wr_b01, wr_bt, b01_or, b01_0, b01_1, lc_lt0, lc_gt0, lc_eq0, wl_wr, wr_wr, wl_id, true_and, and_true, true_or, or_true, not_true_eq_false, not_false_eq_true, nc0, nc1, nc2, nc3, nc4, nc5, nc6, nc7, nc8, nc9, nc10, nc11, nc12, nc13, nc14, nc15, nc16, nc17, nc18, nc19, nc20, nc21, nc22, nc23, nc35, nc47, nc59, nc60, nc61, nc73, nc74, nc214, nc215, nc1115, nc2230, nc3345, if_true, if_false, Int.reduceToNat, hm.k, hm.r1, hm.r2, hm.r3, hm.r4, hm.r15, hm.r16, hm.r19, hm.r23, hm.r24, hm.r25, hm.r26, hm.r29, hm.r30, hm.r31, hm.r33, hm.r34, hm.r35, hm.k73, hm.k74, hm.k75, hm.k76, hm.k77, hm.k78, hm.k79, hm.k80, hm.k81, hm.k82, hm.k83, hm.k84, hm.k85, hm.k86, hm.k87, hm.k88, hm.k89, hm.n73, hm.n74, hm.n75, hm.n76, hm.n77, hm.n78, hm.n79, hm.n80, hm.n81, hm.n82, hm.n83, hm.n84, hm.n85, hm.n86, hm.n87, hm.n88, hm.n89, ms.2, m_within]
  simp only [show (x ≤ S 2 - 1) = (x < S 2) by simp; omega]
theorem m_nextJoined_l {d : Nat} {h : Hp} {S : Int → Int} (ms : MS h S) (g : Gd S) : ∀ i, 0 ≤ i → i ≤ 13 → EX (d) m_Mod_nextJoined 4 [(0, .inr (.inr (72))), (2, .inl (i))] [] (h) = some (.inl (ff (Jn S) i (S 1)), h) := by
  have hm := ms.1
  have ga := g.a
  have gb := g.b
  refine up_ind (hi := S 1) ?_ ?_
  · intro i hi h0 h1
    rw [Mod_nextJoined_4]
    simp (disch := omega) only [Mod_nextJoined_0, Mod_nextJoined_14, Mod_nextJoined_27, Mod_nextJoined_29, Mod_nextJoined_35, wr_id, ix_id, okx, if_pos, if_neg, Int.toNat_of_nonneg, bak_v, bak_n, wr_b01, wr_bt, b01_or, b01_0, b01_1, lc_lt0, lc_gt0, lc_eq0, wl_wr, wr_wr, wl_id, true_and, and_true, true_or, or_true, not_true_eq_false, not_false_eq_true, nc0, nc1, nc2, nc3, nc4, nc5, nc6, nc7, nc8, nc9, nc10, nc11, nc12, nc13, nc14, nc15, nc16, nc17, nc18, nc19, nc20, nc21, nc22, nc23, nc35, nc47, nc59, nc60, nc61, nc73, nc74, nc214, nc215, nc1115, nc2230, nc3345, if_true, if_false, Int.reduceToNat, hm.k, hm.r1, hm.r2, hm.r3, hm.r4, hm.r15, hm.r16, hm.r19, hm.r23, hm.r24, hm.r25, hm.r26, hm.r29, hm.r30, hm.r31, hm.r33, hm.r34, hm.r35, hm.k73, hm.k74, hm.k75, hm.k76, hm.k77, hm.k78, hm.k79, hm.k80, hm.k81, hm.k82, hm.k83, hm.k84, hm.k85, hm.k86, hm.k87, hm.k88, hm.k89, hm.n73, hm.n74, hm.n75, hm.n76, hm.n77, hm.n78, hm.n79, hm.n80, hm.n81, hm.n82, hm.n83, hm.n84, hm.n85, hm.n86, hm.n87, hm.n88, hm.n89, ms.2, ff_stop]
  · intro i hi ih h0 h1
    have gr := g.rg h0 (by omega)
    rw [Mod_nextJoined_4]
    simp (disch := omega) only [Mod_nextJoined_0, Mod_nextJoined_14, Mod_nextJoined_27, Mod_nextJoined_29, Mod_nextJoined_35, wr_id, ix_id, okx, if_pos, if_neg, Int.toNat_of_nonneg, bak_v, bak_n, wr_b01, wr_bt, b01_or, b01_0, b01_1, lc_lt0, lc_gt0, lc_eq0, wl_wr, wr_wr, wl_id, true_and, and_true, true_or, or_true, not_true_eq_false, not_false_eq_true, nc0, nc1, nc2, nc3, nc4, nc5, nc6, nc7, nc8, nc9, nc10, nc11, nc12, nc13, nc14, nc15, nc16, nc17, nc18, nc19, nc20, nc21, nc22, nc23, nc35, nc47, nc59, nc60, nc61, nc73, nc74, nc214, nc215, nc1115, nc2230, nc3345, if_true, if_false, Int.reduceToNat, hm.k, hm.r1, hm.r2, hm.r3, hm.r4, hm.r15, hm.r16, hm.r19, hm.r23, hm.r24, hm.r25, hm.r26, hm.r29, hm.r30, hm.r31, hm.r33, hm.r34, hm.r35, hm.k73, hm.k74, hm.k75, hm.k76, hm.k77, hm.k78, hm.k79, hm.k80, hm.k81, hm.k82, hm.k83, hm.k84, hm.k85, hm.k86, hm.k87, hm.k88, hm.k89, hm.n73, hm.n74, hm.n75, hm.n76, hm.n77, hm.n78, hm.n79, hm.n80, hm.n81, hm.n82, hm.n83, hm.n84, hm.n85, hm.n86, hm.n87, hm.n88, hm.n89, ms.2, ff_step hi, ih]
    by_cases c : S (61 + i) = -1 <;> simp [c, Jn]
theorem m_nextJoined {d : Nat} {h : Hp} {S : Int → Int} (ms : MS h S) (g : Gd S) {i : Int} (h0 : -1 ≤ i) (h1 : i ≤ 12) : cal (d+1) m_Mod_nextJoined [.inr (.inr (72)), .inl (i)] (h) = some (.inl (ff (Jn S) (i + 1) (S 1)), h) := by
  show EX (d) m_Mod_nextJoined 0 [(0, .inr (.inr (72))), (1, .inl (i))] [] (h) = _
  rw [Mod_nextJoined_0, m_nextJoined_l ms g _ (by omega) (by omega)]
/-- the sag of hook i, or -1 -/
def sagJ (S : Int → Int) (i : Int) : Int := if S (61 + i) = -1 ∨ ff (Jn S) (i + 1) (S 1) = -1 then -1 else sagM S i (S (61 + i)) (ff (Jn S) (i + 1) (S 1)) (S (61 + ff (Jn S) (i + 1) (S 1)))
theorem nxt_facts {S : Int → Int} (g : Gd S) {i : Int} (h0 : -1 ≤ i) (h1 : i < S 1) (hc : ¬ ff (Jn S) (i + 1) (S 1) = -1) : i + 1 ≤ ff (Jn S) (i + 1) (S 1) ∧ ff (Jn S) (i + 1) (S 1) < S 1 ∧ 0 ≤ S (61 + ff (Jn S) (i + 1) (S 1)) ∧ S (61 + ff (Jn S) (i + 1) (S 1)) < S 2 := by
  have ga := g.a
  rcases ff_spec (p := Jn S) (N := S 1) (i + 1) with q | q
  · omega
  · have := g.rg (i := ff (Jn S) (i + 1) (S 1)) (by omega) (by omega)
    have jq : ¬ S (61 + ff (Jn S) (i + 1) (S 1)) = -1 := by simpa [Jn] using q.2.2.1
    omega
theorem m_sagOf {d : Nat} {h : Hp} {S : Int → Int} (ms : MS h S) (g : Gd S) {i : Int} (h0 : 0 ≤ i) (h1 : i < S 1) : cal (d+2) m_Mod_sagOf [.inr (.inr (72)), .inl (i)] (h) = some (.inl (sagJ S i), h) := by
  have hm := ms.1
  have ga := g.a
  have gb := g.b
  have gr := g.rg h0 (by omega)
  have f2 := ff_spec (p := Jn S) (N := S 1) (i + 1)
  show EX (d+1) m_Mod_sagOf 0 [(0, .inr (.inr (72))), (1, .inl (i))] [] (h) = _
  unfold sagJ
  by_cases c1 : S (61 + i) = -1
  · simp (disch := omega) only [Mod_sagOf_0, Mod_sagOf_5, Mod_sagOf_19, Mod_sagOf_24, Mod_sagOf_28, Mod_sagOf_55, wr_id, ix_id, okx, if_pos, if_neg, Int.toNat_of_nonneg, bak_v, bak_n, wr_b01, wr_bt, b01_or, b01_0, b01_1, lc_lt0, lc_gt0, lc_eq0, wl_wr, wr_wr, wl_id, true_and, and_true, true_or, or_true, not_true_eq_false, not_false_eq_true, nc0, nc1, nc2, nc3, nc4, nc5, nc6, nc7, nc8, nc9, nc10, nc11, nc12, nc13, nc14, nc15, nc16, nc17, nc18, nc19, nc20, nc21, nc22, nc23, nc35, nc47, nc59, nc60, nc61, nc73, nc74, nc214, nc215, nc1115, nc2230, nc3345, if_true, if_false, Int.reduceToNat, hm.k, hm.r1, hm.r2, hm.r3, hm.r4, hm.r15, hm.r16, hm.r19, hm.r23, hm.r24, hm.r25, hm.r26, hm.r29, hm.r30, hm.r31, hm.r33, hm.r34, hm.r35, hm.k73, hm.k74, hm.k75, hm.k76, hm.k77, hm.k78, hm.k79, hm.k80, hm.k81, hm.k82, hm.k83, hm.k84, hm.k85, hm.k86, hm.k87, hm.k88, hm.k89, hm.n73, hm.n74, hm.n75, hm.n76, hm.n77, hm.n78, hm.n79, hm.n80, hm.n81, hm.n82, hm.n83, hm.n84, hm.n85, hm.n86, hm.n87, hm.n88, hm.n89, ms.2, m_nextJoined ms g]
  · by_cases c2 : ff (Jn S) (i + 1) (S 1) = -1
    · simp (disch := omega) only [Mod_sagOf_0, Mod_sagOf_5, Mod_sagOf_19, Mod_sagOf_24, Mod_sagOf_28, Mod_sagOf_55, wr_id, ix_id, okx, if_pos, if_neg, Int.toNat_of_nonneg, bak_v, bak_n, wr_b01, wr_bt, b01_or, b01_0, b01_1, lc_lt0, lc_gt0, lc_eq0, wl_wr, wr_wr, wl_id, true_and, and_true, true_or, or_true, not_true_eq_false, not_false_eq_true, nc0, nc1, nc2, nc3, nc4, nc5, nc6, nc7, nc8, nc9, nc10, nc11, nc12, nc13, nc14, nc15, nc16, nc17, nc18, nc19, nc20, nc21, nc22, nc23, nc35, nc47, nc59, nc60, nc61, nc73, nc74, nc214, nc215, nc1115, nc2230, nc3345, if_true, if_false, Int.reduceToNat, hm.k, hm.r1, hm.r2, hm.r3, hm.r4, hm.r15, hm.r16, hm.r19, hm.r23, hm.r24, hm.r25, hm.r26, hm.r29, hm.r30, hm.r31, hm.r33, hm.r34, hm.r35, hm.k73, hm.k74, hm.k75, hm.k76, hm.k77, hm.k78, hm.k79, hm.k80, hm.k81, hm.k82, hm.k83, hm.k84, hm.k85, hm.k86, hm.k87, hm.k88, hm.k89, hm.n73, hm.n74, hm.n75, hm.n76, hm.n77, hm.n78, hm.n79, hm.n80, hm.n81, hm.n82, hm.n83, hm.n84, hm.n85, hm.n86, hm.n87, hm.n88, hm.n89, ms.2, m_nextJoined ms g]
    · have f3 := nxt_facts g (by omega) h1 c2
      simp (disch := omega) only [Mod_sagOf_0, Mod_sagOf_5, Mod_sagOf_19, Mod_sagOf_24, Mod_sagOf_28, Mod_sagOf_55, wr_id, ix_id, okx, if_pos, if_neg, Int.toNat_of_nonneg, bak_v, bak_n, wr_b01, wr_bt, b01_or, b01_0, b01_1, lc_lt0, lc_gt0, lc_eq0, wl_wr, wr_wr, wl_id, true_and, and_true, true_or, or_true, not_true_eq_false, not_false_eq_true, nc0, nc1, nc2, nc3, nc4, nc5, nc6, nc7, nc8, nc9, nc10, nc11, nc12, nc13, nc14, nc15, nc16, nc17, nc18, nc19, nc20, nc21, nc22, nc23, nc35, nc47, nc59, nc60, nc61, nc73, nc74, nc214, nc215, nc1115, nc2230, nc3345, if_true, if_false, Int.reduceToNat, hm.k, hm.r1, hm.r2, hm.r3, hm.r4, hm.r15, hm.r16, hm.r19, hm.r23, hm.r24, hm.r25, hm.r26, hm.r29, hm.r30, hm.r31, hm.r33, hm.r34, hm.r35, hm.k73, hm.k74, hm.k75, hm.k76, hm.k77, hm.k78, hm.k79, hm.k80, hm.k81, hm.k82, hm.k83, hm.k84, hm.k85, hm.k86, hm.k87, hm.k88, hm.k89, hm.n73, hm.n74, hm.n75, hm.n76, hm.n77, hm.n78, hm.n79, hm.n80, hm.n81, hm.n82, hm.n83, hm.n84, hm.n85, hm.n86, hm.n87, hm.n88, hm.n89, ms.2, m_nextJoined ms g, m_sag ms.rs]
theorem sagJ_rng {S : Int → Int} (g : Gd S) {i : Int} (h0 : 0 ≤ i) (h1 : i < S 1) : -1200 ≤ sagJ S i ∧ sagJ S i ≤ 1200 := by
  unfold sagJ
  have ga := g.a
  have gb := g.b
  have gr := g.rg h0 (by omega)
  by_cases c1 : S (61 + i) = -1
  · rw [if_pos (Or.inl c1)]; omega
  · by_cases c2 : ff (Jn S) (i + 1) (S 1) = -1
    · rw [if_pos (Or.inr c2)]; omega
    · have f3 := nxt_facts g (by omega) h1 c2
      rw [if_neg (by omega)]
      exact g.1.sag (by omega) (by omega) (by omega) (by omega)
