/-! averages: bounds, scaling; bestLook -/
theorem pwK_nn {c k : Int} (hc : 0 ≤ c) : 0 ≤ pwK c k := Int.pow_nonneg hc
theorem pwK_pos {c k : Int} (hc : 1 ≤ c) : 0 < pwK c k := Int.pow_pos (by omega)
theorem pwK_add {c a b : Int} (ha : 0 ≤ a) (hb : 0 ≤ b) : pwK c (a + b) = pwK c a * pwK c b := by
  unfold pwK
  rw [show (a + b).toNat = a.toNat + b.toNat by omega, Int.pow_add]
theorem pwN_le {c : Int} (hc : 0 ≤ c ∧ c ≤ 10) : ∀ k : Nat, c ^ k ≤ 10 ^ k := by
  intro k
  induction k with
  | zero => simp
  | succ k ih =>
    rw [Int.pow_succ, Int.pow_succ]
    exact Int.mul_le_mul ih hc.2 hc.1 (Int.pow_nonneg (by omega))
theorem pwK_le {c k : Int} (hc : 0 ≤ c ∧ c ≤ 10) : pwK c k ≤ pwK 10 k := pwN_le hc _
theorem pwK_12 {k : Int} (h : 0 ≤ k ∧ k ≤ 12) : pwK 10 k ≤ 1000000000000 := by
  have : k = 0 ∨ k = 1 ∨ k = 2 ∨ k = 3 ∨ k = 4 ∨ k = 5 ∨ k = 6 ∨ k = 7 ∨ k = 8 ∨ k = 9 ∨ k = 10 ∨ k = 11 ∨ k = 12 := by omega
  rcases this with e | e | e | e | e | e | e | e | e | e | e | e | e <;> subst e <;> decide
theorem gpU_rng {S : Int → Int} (g : GdW S) {k w : Int} (hk : 0 ≤ k ∧ k ≤ w) (hw : w ≤ 12) : 0 ≤ gpU S k w ∧ gpU S k w ≤ 2187000000000000 := by
  have g5 := g.2.2.2.2.1
  have g7 := g.2.2.2.2.2.2.1
  have g8 := g.2.2.2.2.2.2.2.1
  unfold gpU
  split
  · omega
  · have p1 : 0 ≤ k * S 5 := Int.mul_nonneg hk.1 (by omega)
    have p2 : k * S 5 ≤ 12 * 99 := Int.mul_le_mul (by omega) (by omega) (by omega) (by omega)
    have a1 := pwK_nn (c := 10) (k := k) (by omega)
    have a2 := pwK_nn (c := 10 - S 7) (k := w - k) (by omega)
    have a3 := pwK_le (c := 10 - S 7) (k := w - k) (by omega)
    have a4 : pwK 10 k * pwK (10 - S 7) (w - k) ≤ pwK 10 w := by
      rw [show w = k + (w - k) by omega, pwK_add (by omega) (by omega), show k + (w - k) - k = w - k by omega]
      exact Int.mul_le_mul_of_nonneg_left a3 a1
    have a5 := pwK_12 (k := w) (by omega)
    have a6 : 0 ≤ pwK 10 k * pwK (10 - S 7) (w - k) := Int.mul_nonneg a1 a2
    rw [Int.mul_assoc]
    refine ⟨Int.mul_nonneg (by omega) a6, ?_⟩
    have : (k * S 5 + S 8) * (pwK 10 k * pwK (10 - S 7) (w - k)) ≤ 2187 * 1000000000000 := Int.mul_le_mul (by omega) (by omega) a6 (by omega)
    omega
theorem avF_rng {S : Int → Int} (g : Gd S) {n w : Int} (hn : 1 ≤ n ∧ n ≤ w) (hw : w ≤ 12) : 0 ≤ avF S n w (S 1) ∧ avF S n w (S 1) ≤ 30000000000000000 := by
  have ga := g.a
  have r0 : 0 ≤ S 1 % n := Int.emod_nonneg _ (by omega)
  have r1 : S 1 % n < n := Int.emod_lt_of_pos _ (by omega)
  have q0 : 0 ≤ S 1 / n := Int.ediv_nonneg (by omega) (by omega)
  have q1 : S 1 / n ≤ S 1 := Int.ediv_le_self _ (by omega)
  have a := gpU_rng g.1 (k := n) (w := w) (by omega) hw
  have b := gpU_rng g.1 (k := S 1 % n) (w := w) (by omega) hw
  unfold avF
  have c1 : 0 ≤ S 1 / n * gpU S n w := Int.mul_nonneg q0 a.1
  have c2 : S 1 / n * gpU S n w ≤ 12 * 2187000000000000 := Int.mul_le_mul (by omega) a.2 a.1 (by omega)
  omega
theorem gpU_sc {S : Int → Int} {k w : Int} (hk : 0 ≤ k ∧ k ≤ w) (hw : w ≤ 12) : gpU S k 12 = gpU S k w * pwK (10 - S 7) (12 - w) := by
  unfold gpU
  split
  · rw [Int.zero_mul]
  · rw [show 12 - k = (w - k) + (12 - w) by omega, pwK_add (by omega) (by omega), ← Int.mul_assoc]
theorem avF_sc {S : Int → Int} {n w r : Int} (hn : 1 ≤ n ∧ n ≤ w) (hw : w ≤ 12) : avF S n 12 r = avF S n w r * pwK (10 - S 7) (12 - w) := by
  have r0 : 0 ≤ r % n := Int.emod_nonneg _ (by omega)
  have r1 : r % n < n := Int.emod_lt_of_pos _ (by omega)
  unfold avF
  rw [gpU_sc (k := n) (w := w) (by omega) hw, gpU_sc (k := r % n) (w := w) (by omega) hw, Int.add_mul, Int.mul_assoc]
theorem avF_lt_iff {S : Int → Int} (g : Gd S) {a b w : Int} (ha : 1 ≤ a ∧ a ≤ w) (hb : 1 ≤ b ∧ b ≤ w) (hw : w ≤ 12) {r : Int} : avF S a 12 r < avF S b 12 r ↔ avF S a w r < avF S b w r := by
  have g7 := g.1.2.2.2.2.2.2.1
  have p := pwK_pos (c := 10 - S 7) (k := 12 - w) (by omega)
  rw [avF_sc ha hw, avF_sc hb hw]
  exact Int.mul_lt_mul_right p
/-- the best number at once: from n on, so far b -/
def bsL (S : Int → Int) (n b : Int) : Int := fo (fun n b => if avF S n (S 1) (S 1) < avF S b (S 1) (S 1) then n else b) n (S 1 + 1) b
def ansBest (S : Int → Int) : Int := if S 1 = 0 then -5 else bsL S 2 1
theorem m_best_l {d : Nat} {h : Hp} {S : Int → Int} (ms : MS h S) (g : Gd S) (h1 : 1 ≤ S 1) : ∀ n, 2 ≤ n → n ≤ 13 → ∀ b, (1 ≤ b ∧ b ≤ S 1) → EX (d+3) m_Mod_bestLook 21 [(0, .inr (.inr (72))), (1, .inl (b)), (2, .inl (n))] [] (h) = some (.inl (bsL S n b), h) := by
  have hm := ms.1
  have ga := g.a
  refine up_ind (hi := S 1 + 1) ?_ ?_
  · intro n hn h0 h1 b hb
    unfold bsL
    rw [Mod_bestLook_21, fo_stop hn]
    simp (disch := omega) only [Mod_bestLook_65, wr_id, ix_id, okx, if_pos, if_neg, Int.toNat_of_nonneg, bak_v, bak_n, wr_b01, wr_bt, b01_or, b01_0, b01_1, lc_lt0, lc_gt0, lc_eq0, wl_wr, wr_wr, wl_id, true_and, and_true, true_or, or_true, not_true_eq_false, not_false_eq_true, nc0, nc1, nc2, nc3, nc4, nc5, nc6, nc7, nc8, nc9, nc10, nc11, nc12, nc13, nc14, nc15, nc16, nc17, nc18, nc19, nc20, nc21, nc22, nc23, nc35, nc47, nc59, nc60, nc61, nc73, nc74, nc214, nc215, nc1115, nc2230, nc3345, if_true, if_false, Int.reduceToNat, hm.k, hm.r1, hm.r2, hm.r3, hm.r4, hm.r15, hm.r16, hm.r19, hm.r23, hm.r24, hm.r25, hm.r26, hm.r29, hm.r30, hm.r31, hm.r33, hm.r34, hm.r35, hm.k73, hm.k74, hm.k75, hm.k76, hm.k77, hm.k78, hm.k79, hm.k80, hm.k81, hm.k82, hm.k83, hm.k84, hm.k85, hm.k86, hm.k87, hm.k88, hm.k89, hm.n73, hm.n74, hm.n75, hm.n76, hm.n77, hm.n78, hm.n79, hm.n80, hm.n81, hm.n82, hm.n83, hm.n84, hm.n85, hm.n86, hm.n87, hm.n88, hm.n89, ms.2]
  · intro n hn ih h0 h1 b hb
    have e1 := m_averageBy (d := d) ms g (n := n) (w := S 1) (by omega) (by omega)
    have e2 := m_averageBy (d := d) ms g (n := b) (w := S 1) (by omega) (by omega)
    have r1 := avF_rng g (n := n) (w := S 1) (by omega) (by omega)
    have r2 := avF_rng g (n := b) (w := S 1) (by omega) (by omega)
    unfold bsL
    rw [Mod_bestLook_21, fo_step hn]
    by_cases c : avF S n (S 1) (S 1) < avF S b (S 1) (S 1)
    · rw [if_pos c]
      simp (disch := omega) only [Mod_bestLook_31, Mod_bestLook_42, Mod_bestLook_53, Mod_bestLook_57, Mod_bestLook_59, wr_id, ix_id, okx, if_pos, if_neg, Int.toNat_of_nonneg, bak_v, bak_n, wr_b01, wr_bt, b01_or, b01_0, b01_1, lc_lt0, lc_gt0, lc_eq0, wl_wr, wr_wr, wl_id, true_and, and_true, true_or, or_true, not_true_eq_false, not_false_eq_true, nc0, nc1, nc2, nc3, nc4, nc5, nc6, nc7, nc8, nc9, nc10, nc11, nc12, nc13, nc14, nc15, nc16, nc17, nc18, nc19, nc20, nc21, nc22, nc23, nc35, nc47, nc59, nc60, nc61, nc73, nc74, nc214, nc215, nc1115, nc2230, nc3345, if_true, if_false, Int.reduceToNat, hm.k, hm.r1, hm.r2, hm.r3, hm.r4, hm.r15, hm.r16, hm.r19, hm.r23, hm.r24, hm.r25, hm.r26, hm.r29, hm.r30, hm.r31, hm.r33, hm.r34, hm.r35, hm.k73, hm.k74, hm.k75, hm.k76, hm.k77, hm.k78, hm.k79, hm.k80, hm.k81, hm.k82, hm.k83, hm.k84, hm.k85, hm.k86, hm.k87, hm.k88, hm.k89, hm.n73, hm.n74, hm.n75, hm.n76, hm.n77, hm.n78, hm.n79, hm.n80, hm.n81, hm.n82, hm.n83, hm.n84, hm.n85, hm.n86, hm.n87, hm.n88, hm.n89, ms.2, e1, e2]
      exact ih (by omega) (by omega) n (by omega)
    · rw [if_neg c]
      simp (disch := omega) only [Mod_bestLook_31, Mod_bestLook_42, Mod_bestLook_53, Mod_bestLook_59, wr_id, ix_id, okx, if_pos, if_neg, Int.toNat_of_nonneg, bak_v, bak_n, wr_b01, wr_bt, b01_or, b01_0, b01_1, lc_lt0, lc_gt0, lc_eq0, wl_wr, wr_wr, wl_id, true_and, and_true, true_or, or_true, not_true_eq_false, not_false_eq_true, nc0, nc1, nc2, nc3, nc4, nc5, nc6, nc7, nc8, nc9, nc10, nc11, nc12, nc13, nc14, nc15, nc16, nc17, nc18, nc19, nc20, nc21, nc22, nc23, nc35, nc47, nc59, nc60, nc61, nc73, nc74, nc214, nc215, nc1115, nc2230, nc3345, if_true, if_false, Int.reduceToNat, hm.k, hm.r1, hm.r2, hm.r3, hm.r4, hm.r15, hm.r16, hm.r19, hm.r23, hm.r24, hm.r25, hm.r26, hm.r29, hm.r30, hm.r31, hm.r33, hm.r34, hm.r35, hm.k73, hm.k74, hm.k75, hm.k76, hm.k77, hm.k78, hm.k79, hm.k80, hm.k81, hm.k82, hm.k83, hm.k84, hm.k85, hm.k86, hm.k87, hm.k88, hm.k89, hm.n73, hm.n74, hm.n75, hm.n76, hm.n77, hm.n78, hm.n79, hm.n80, hm.n81, hm.n82, hm.n83, hm.n84, hm.n85, hm.n86, hm.n87, hm.n88, hm.n89, ms.2, e1, e2]
      exact ih (by omega) (by omega) b hb
theorem mm_bestLook {d : Nat} {h : Hp} {S G T rs rm nb : Int → Int} {n fk fp : Int} (mb : MB h S G T rs rm nb n fk fp) (g : Gd S) : ∃ h', cal (d+4) m_Mod_bestLook [.inr (.inr (72))] (h) = some (.inl (ansBest S), h') ∧ MB h' S G T rs rm nb n fk fp ∧ Fr wQ h h' := by
  have ms0 : MS (pI h 72 0 0) S := mb.1.o (by omega)
  have f0 : Fr wQ h (pI h 72 0 0) := f72 (by omega)
  have hk := mb.1.1.k
  have hm := ms0.1
  have ga := g.a
  refine ⟨pI h 72 0 0, ?_, mb.fr f0 ms0, f0⟩
  show EX (d+3) m_Mod_bestLook 0 [(0, .inr (.inr (72)))] [] (h) = _
  unfold ansBest
  by_cases c : S 1 = 0
  · rw [if_pos c]
    simp (disch := omega) only [Mod_bestLook_0, Mod_bestLook_5, Mod_bestLook_14, wr_id, ix_id, okx, if_pos, if_neg, Int.toNat_of_nonneg, bak_v, bak_n, wr_b01, wr_bt, b01_or, b01_0, b01_1, lc_lt0, lc_gt0, lc_eq0, wl_wr, wr_wr, wl_id, true_and, and_true, true_or, or_true, not_true_eq_false, not_false_eq_true, nc0, nc1, nc2, nc3, nc4, nc5, nc6, nc7, nc8, nc9, nc10, nc11, nc12, nc13, nc14, nc15, nc16, nc17, nc18, nc19, nc20, nc21, nc22, nc23, nc35, nc47, nc59, nc60, nc61, nc73, nc74, nc214, nc215, nc1115, nc2230, nc3345, if_true, if_false, Int.reduceToNat, hk, hm.k, hm.r1, hm.r2, hm.r3, hm.r4, hm.r15, hm.r16, hm.r19, hm.r23, hm.r24, hm.r25, hm.r26, hm.r29, hm.r30, hm.r31, hm.r33, hm.r34, hm.r35, hm.k73, hm.k74, hm.k75, hm.k76, hm.k77, hm.k78, hm.k79, hm.k80, hm.k81, hm.k82, hm.k83, hm.k84, hm.k85, hm.k86, hm.k87, hm.k88, hm.k89, hm.n73, hm.n74, hm.n75, hm.n76, hm.n77, hm.n78, hm.n79, hm.n80, hm.n81, hm.n82, hm.n83, hm.n84, hm.n85, hm.n86, hm.n87, hm.n88, hm.n89, ms0.2, c]
  · rw [if_neg c]
    simp (disch := omega) only [Mod_bestLook_0, Mod_bestLook_5, Mod_bestLook_17, wr_id, ix_id, okx, if_pos, if_neg, Int.toNat_of_nonneg, bak_v, bak_n, wr_b01, wr_bt, b01_or, b01_0, b01_1, lc_lt0, lc_gt0, lc_eq0, wl_wr, wr_wr, wl_id, true_and, and_true, true_or, or_true, not_true_eq_false, not_false_eq_true, nc0, nc1, nc2, nc3, nc4, nc5, nc6, nc7, nc8, nc9, nc10, nc11, nc12, nc13, nc14, nc15, nc16, nc17, nc18, nc19, nc20, nc21, nc22, nc23, nc35, nc47, nc59, nc60, nc61, nc73, nc74, nc214, nc215, nc1115, nc2230, nc3345, if_true, if_false, Int.reduceToNat, hk, hm.k, hm.r1, hm.r2, hm.r3, hm.r4, hm.r15, hm.r16, hm.r19, hm.r23, hm.r24, hm.r25, hm.r26, hm.r29, hm.r30, hm.r31, hm.r33, hm.r34, hm.r35, hm.k73, hm.k74, hm.k75, hm.k76, hm.k77, hm.k78, hm.k79, hm.k80, hm.k81, hm.k82, hm.k83, hm.k84, hm.k85, hm.k86, hm.k87, hm.k88, hm.k89, hm.n73, hm.n74, hm.n75, hm.n76, hm.n77, hm.n78, hm.n79, hm.n80, hm.n81, hm.n82, hm.n83, hm.n84, hm.n85, hm.n86, hm.n87, hm.n88, hm.n89, ms0.2]
    exact m_best_l (d := d) ms0 g (by omega) 2 (by omega) (by omega) 1 (by omega)
theorem c_best_l {d w : Nat} {h : Hp} {S : Int → Int} (hc : CR h w) (wv : WV h w S) (g : Gd S) (h1 : 1 ≤ S 1) : ∀ n, 2 ≤ n → n ≤ 13 → ∀ b, (1 ≤ b ∧ b ≤ S 1) → EX (d+3) m_Hook_bestLook 27 [(0, .inr (.inr (6))), (1, .inl (b)), (2, .inr (.inl (avF S b 12 (S 1)))), (4, .inl (n))] [] (h) = some (.inl (bsL S n b), h) := by
  have hw := wv.1
  have ga := g.a
  refine up_ind (hi := S 1 + 1) ?_ ?_
  · intro n hn h0 h1 b hb
    unfold bsL
    rw [Hook_bestLook_27, fo_stop hn]
    simp (disch := omega) only [Hook_bestLook_69, wr_id, ix_id, okx, if_pos, if_neg, Int.toNat_of_nonneg, bak_v, bak_n, wr_b01, wr_bt, b01_or, b01_0, b01_1, lc_lt0, lc_gt0, lc_eq0, wl_wr, wr_wr, wl_id, true_and, and_true, true_or, or_true, not_true_eq_false, not_false_eq_true, nc0, nc1, nc2, nc3, nc4, nc5, nc6, nc7, nc8, nc9, nc10, nc11, nc12, nc13, nc14, nc15, nc16, nc17, nc18, nc19, nc20, nc21, nc22, nc23, nc35, nc47, nc59, nc60, nc61, nc73, nc74, nc214, nc215, nc1115, nc2230, nc3345, if_true, if_false, Int.reduceToNat, hc.k6, hc.r5, hc.r6, hc.r0, hc.r2, hc.r7, hc.r8, hc.r9, hc.r10, hc.r11, hc.r12, hc.r13, hc.r14, hc.r15, hc.r16, hc.r17, hc.r18, hc.r8_0, hc.r8_1, hc.r11_0, hc.r11_1, hc.r60_0, hc.r60_1, hc.r60_4, hc.r64_0, hc.r64_3, hc.r64_4, hc.r68_0, hc.r41_0, hc.r41_1, hc.r42_0, hc.r42_1, hc.k7, hc.k8, hc.k9, hc.k11, hc.k12, hc.k13, hc.k32, hc.k41, hc.k42, hc.k43, hc.k60, hc.k61, hc.k62, hc.k63, hc.k64, hc.k65, hc.k66, hc.k67, hc.k68, hc.k69, hc.k70, hc.k71, hc.n6, hc.n7, hc.n8, hc.n9, hc.n11, hc.n12, hc.n13, hc.n32, hc.n41, hc.n42, hc.n43, hc.n60, hc.n61, hc.n62, hc.n63, hc.n64, hc.n65, hc.n66, hc.n67, hc.n68, hc.n69, hc.n70, hc.n71, hw.k, hw.r0, hw.r1, hw.r2, hw.r3, hw.r4, hw.k1, hw.k2, hw.k3, hw.k4, hw.k5, hw.n1, hw.n2, hw.n3, hw.n4, hw.n5, wv.f5, wv.f6, wv.f7, wv.f8, wv.f9, wv.f10, wv.f11, wv.f12, wv.f13, wv.f14, wv.pk, wv.qk, wv.hk, wv.rk]
  · intro n hn ih h0 h1 b hb
    have e1 := c_averageUpper (d := d) wv g (n := n) (by omega)
    have r1 := avF_rng g (n := n) (w := 12) (by omega) (by omega)
    have r2 := avF_rng g (n := b) (w := 12) (by omega) (by omega)
    have iff1 := avF_lt_iff g (a := n) (b := b) (w := S 1) (by omega) (by omega) (by omega) (r := S 1)
    unfold bsL
    rw [Hook_bestLook_27, fo_step hn]
    by_cases c : avF S n 12 (S 1) < avF S b 12 (S 1)
    · rw [if_pos (iff1.mp c)]
      simp (disch := omega) only [Hook_bestLook_39, Hook_bestLook_48, Hook_bestLook_57, Hook_bestLook_63, wr_id, ix_id, okx, if_pos, if_neg, Int.toNat_of_nonneg, bak_v, bak_n, wr_b01, wr_bt, b01_or, b01_0, b01_1, lc_lt0, lc_gt0, lc_eq0, wl_wr, wr_wr, wl_id, true_and, and_true, true_or, or_true, not_true_eq_false, not_false_eq_true, nc0, nc1, nc2, nc3, nc4, nc5, nc6, nc7, nc8, nc9, nc10, nc11, nc12, nc13, nc14, nc15, nc16, nc17, nc18, nc19, nc20, nc21, nc22, nc23, nc35, nc47, nc59, nc60, nc61, nc73, nc74, nc214, nc215, nc1115, nc2230, nc3345, if_true, if_false, Int.reduceToNat, hc.k6, hc.r5, hc.r6, hc.r0, hc.r2, hc.r7, hc.r8, hc.r9, hc.r10, hc.r11, hc.r12, hc.r13, hc.r14, hc.r15, hc.r16, hc.r17, hc.r18, hc.r8_0, hc.r8_1, hc.r11_0, hc.r11_1, hc.r60_0, hc.r60_1, hc.r60_4, hc.r64_0, hc.r64_3, hc.r64_4, hc.r68_0, hc.r41_0, hc.r41_1, hc.r42_0, hc.r42_1, hc.k7, hc.k8, hc.k9, hc.k11, hc.k12, hc.k13, hc.k32, hc.k41, hc.k42, hc.k43, hc.k60, hc.k61, hc.k62, hc.k63, hc.k64, hc.k65, hc.k66, hc.k67, hc.k68, hc.k69, hc.k70, hc.k71, hc.n6, hc.n7, hc.n8, hc.n9, hc.n11, hc.n12, hc.n13, hc.n32, hc.n41, hc.n42, hc.n43, hc.n60, hc.n61, hc.n62, hc.n63, hc.n64, hc.n65, hc.n66, hc.n67, hc.n68, hc.n69, hc.n70, hc.n71, hw.k, hw.r0, hw.r1, hw.r2, hw.r3, hw.r4, hw.k1, hw.k2, hw.k3, hw.k4, hw.k5, hw.n1, hw.n2, hw.n3, hw.n4, hw.n5, wv.f5, wv.f6, wv.f7, wv.f8, wv.f9, wv.f10, wv.f11, wv.f12, wv.f13, wv.f14, wv.pk, wv.qk, wv.hk, wv.rk, e1]
      exact ih (by omega) (by omega) n (by omega)
    · rw [if_neg (fun q => c (iff1.mpr q))]
      simp (disch := omega) only [Hook_bestLook_39, Hook_bestLook_48, Hook_bestLook_63, wr_id, ix_id, okx, if_pos, if_neg, Int.toNat_of_nonneg, bak_v, bak_n, wr_b01, wr_bt, b01_or, b01_0, b01_1, lc_lt0, lc_gt0, lc_eq0, wl_wr, wr_wr, wl_id, true_and, and_true, true_or, or_true, not_true_eq_false, not_false_eq_true, nc0, nc1, nc2, nc3, nc4, nc5, nc6, nc7, nc8, nc9, nc10, nc11, nc12, nc13, nc14, nc15, nc16, nc17, nc18, nc19, nc20, nc21, nc22, nc23, nc35, nc47, nc59, nc60, nc61, nc73, nc74, nc214, nc215, nc1115, nc2230, nc3345, if_true, if_false, Int.reduceToNat, hc.k6, hc.r5, hc.r6, hc.r0, hc.r2, hc.r7, hc.r8, hc.r9, hc.r10, hc.r11, hc.r12, hc.r13, hc.r14, hc.r15, hc.r16, hc.r17, hc.r18, hc.r8_0, hc.r8_1, hc.r11_0, hc.r11_1, hc.r60_0, hc.r60_1, hc.r60_4, hc.r64_0, hc.r64_3, hc.r64_4, hc.r68_0, hc.r41_0, hc.r41_1, hc.r42_0, hc.r42_1, hc.k7, hc.k8, hc.k9, hc.k11, hc.k12, hc.k13, hc.k32, hc.k41, hc.k42, hc.k43, hc.k60, hc.k61, hc.k62, hc.k63, hc.k64, hc.k65, hc.k66, hc.k67, hc.k68, hc.k69, hc.k70, hc.k71, hc.n6, hc.n7, hc.n8, hc.n9, hc.n11, hc.n12, hc.n13, hc.n32, hc.n41, hc.n42, hc.n43, hc.n60, hc.n61, hc.n62, hc.n63, hc.n64, hc.n65, hc.n66, hc.n67, hc.n68, hc.n69, hc.n70, hc.n71, hw.k, hw.r0, hw.r1, hw.r2, hw.r3, hw.r4, hw.k1, hw.k2, hw.k3, hw.k4, hw.k5, hw.n1, hw.n2, hw.n3, hw.n4, hw.n5, wv.f5, wv.f6, wv.f7, wv.f8, wv.f9, wv.f10, wv.f11, wv.f12, wv.f13, wv.f14, wv.pk, wv.qk, wv.hk, wv.rk, e1]
      exact ih (by omega) (by omega) b hb
theorem cc_bestLook {d w : Nat} {h : Hp} {S : Int → Int} (hc : CR h w) (wv : WV h w S) (g : Gd S) : cal (d+4) m_Hook_bestLook [.inr (.inr (6))] (h) = some (.inl (ansBest S), h) := by
  have hw := wv.1
  have ga := g.a
  show EX (d+3) m_Hook_bestLook 0 [(0, .inr (.inr (6)))] [] (h) = _
  unfold ansBest
  by_cases c : S 1 = 0
  · rw [if_pos c]
    simp (disch := omega) only [Hook_bestLook_0, Hook_bestLook_10, wr_id, ix_id, okx, if_pos, if_neg, Int.toNat_of_nonneg, bak_v, bak_n, wr_b01, wr_bt, b01_or, b01_0, b01_1, lc_lt0, lc_gt0, lc_eq0, wl_wr, wr_wr, wl_id, true_and, and_true, true_or, or_true, not_true_eq_false, not_false_eq_true, nc0, nc1, nc2, nc3, nc4, nc5, nc6, nc7, nc8, nc9, nc10, nc11, nc12, nc13, nc14, nc15, nc16, nc17, nc18, nc19, nc20, nc21, nc22, nc23, nc35, nc47, nc59, nc60, nc61, nc73, nc74, nc214, nc215, nc1115, nc2230, nc3345, if_true, if_false, Int.reduceToNat, hc.k6, hc.r5, hc.r6, hc.r0, hc.r2, hc.r7, hc.r8, hc.r9, hc.r10, hc.r11, hc.r12, hc.r13, hc.r14, hc.r15, hc.r16, hc.r17, hc.r18, hc.r8_0, hc.r8_1, hc.r11_0, hc.r11_1, hc.r60_0, hc.r60_1, hc.r60_4, hc.r64_0, hc.r64_3, hc.r64_4, hc.r68_0, hc.r41_0, hc.r41_1, hc.r42_0, hc.r42_1, hc.k7, hc.k8, hc.k9, hc.k11, hc.k12, hc.k13, hc.k32, hc.k41, hc.k42, hc.k43, hc.k60, hc.k61, hc.k62, hc.k63, hc.k64, hc.k65, hc.k66, hc.k67, hc.k68, hc.k69, hc.k70, hc.k71, hc.n6, hc.n7, hc.n8, hc.n9, hc.n11, hc.n12, hc.n13, hc.n32, hc.n41, hc.n42, hc.n43, hc.n60, hc.n61, hc.n62, hc.n63, hc.n64, hc.n65, hc.n66, hc.n67, hc.n68, hc.n69, hc.n70, hc.n71, hw.k, hw.r0, hw.r1, hw.r2, hw.r3, hw.r4, hw.k1, hw.k2, hw.k3, hw.k4, hw.k5, hw.n1, hw.n2, hw.n3, hw.n4, hw.n5, wv.f5, wv.f6, wv.f7, wv.f8, wv.f9, wv.f10, wv.f11, wv.f12, wv.f13, wv.f14, wv.pk, wv.qk, wv.hk, wv.rk, c]
  · rw [if_neg c]
    have e1 := c_averageUpper (d := d) wv g (n := 1) (by omega)
    simp (disch := omega) only [Hook_bestLook_0, Hook_bestLook_13, Hook_bestLook_23, wr_id, ix_id, okx, if_pos, if_neg, Int.toNat_of_nonneg, bak_v, bak_n, wr_b01, wr_bt, b01_or, b01_0, b01_1, lc_lt0, lc_gt0, lc_eq0, wl_wr, wr_wr, wl_id, true_and, and_true, true_or, or_true, not_true_eq_false, not_false_eq_true, nc0, nc1, nc2, nc3, nc4, nc5, nc6, nc7, nc8, nc9, nc10, nc11, nc12, nc13, nc14, nc15, nc16, nc17, nc18, nc19, nc20, nc21, nc22, nc23, nc35, nc47, nc59, nc60, nc61, nc73, nc74, nc214, nc215, nc1115, nc2230, nc3345, if_true, if_false, Int.reduceToNat, hc.k6, hc.r5, hc.r6, hc.r0, hc.r2, hc.r7, hc.r8, hc.r9, hc.r10, hc.r11, hc.r12, hc.r13, hc.r14, hc.r15, hc.r16, hc.r17, hc.r18, hc.r8_0, hc.r8_1, hc.r11_0, hc.r11_1, hc.r60_0, hc.r60_1, hc.r60_4, hc.r64_0, hc.r64_3, hc.r64_4, hc.r68_0, hc.r41_0, hc.r41_1, hc.r42_0, hc.r42_1, hc.k7, hc.k8, hc.k9, hc.k11, hc.k12, hc.k13, hc.k32, hc.k41, hc.k42, hc.k43, hc.k60, hc.k61, hc.k62, hc.k63, hc.k64, hc.k65, hc.k66, hc.k67, hc.k68, hc.k69, hc.k70, hc.k71, hc.n6, hc.n7, hc.n8, hc.n9, hc.n11, hc.n12, hc.n13, hc.n32, hc.n41, hc.n42, hc.n43, hc.n60, hc.n61, hc.n62, hc.n63, hc.n64, hc.n65, hc.n66, hc.n67, hc.n68, hc.n69, hc.n70, hc.n71, hw.k, hw.r0, hw.r1, hw.r2, hw.r3, hw.r4, hw.k1, hw.k2, hw.k3, hw.k4, hw.k5, hw.n1, hw.n2, hw.n3, hw.n4, hw.n5, wv.f5, wv.f6, wv.f7, wv.f8, wv.f9, wv.f10, wv.f11, wv.f12, wv.f13, wv.f14, wv.pk, wv.qk, wv.hk, wv.rk, e1]
    exact c_best_l (d := d) hc wv g (by omega) 2 (by omega) (by omega) 1 (by omega)
