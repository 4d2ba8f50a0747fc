/-! undoing: pure, the model -/
theorem lAnd_m (y : Int) : lAnd y 4294967295 = y % 4294967296 := by
  unfold lAnd
  have e : (Int64.ofInt y &&& Int64.ofInt 4294967295).toBitVec.toNat = (y % 4294967296).toNat := by
    rw [Int64.toBitVec_and, BitVec.toNat_and]
    have e1 : (Int64.ofInt y).toBitVec.toNat = (y % 18446744073709551616).toNat := BitVec.toNat_ofInt ..
    have e2 : (Int64.ofInt 4294967295).toBitVec.toNat = 2 ^ 32 - 1 := by decide +kernel
    rw [e1, e2, Nat.and_two_pow_sub_one_eq_mod]
    omega
  show (Int64.ofInt y &&& Int64.ofInt 4294967295).toBitVec.toInt = _
  rw [BitVec.toInt_eq_toNat_of_lt (by rw [e]; omega), e]
  omega
theorem bt_la {y k : Int} (h0 : 0 ≤ k) (h1 : k < 32) : bt (lAnd y 4294967295) k = bt y k := by
  rw [lAnd_m]
  obtain ⟨x, rfl⟩ := Int.eq_ofNat_of_zero_le h0
  unfold bt
  exact bt_mod y x 32 (by omega)
/-- hook k can't be unhooked though it is told -/
def unB (S : Int → Int) (set : Int) : Int → Bool := fun k => decide (bt set k = 1 ∧ ¬ ((0 ≤ k ∧ k < S 1) ∧ ¬ S (61 + k) = -1))
def orU (S : Int → Int) (dir i : Int) : Int := if dir = 0 then i else S 1 - 1 - i
def unU (S : Int → Int) (set dir : Int) : Nat → Int → Int → Int → Int
  | 0, _, _, t => t
  | m + 1, i, c, t => if bt set (orU S dir i) = 0 then unU S set dir m (i + 1) c t else unU S set dir m (i + 1) (chF S c (S (61 + orU S dir i))) (t + scA S c (S (61 + orU S dir i)))
def tmU (S : Int → Int) (set dir : Int) : Int := unU S set dir (S 1).toNat 0 (S 59) 0
def ansUnd (S : Int → Int) (set : Int) : Int := if ¬ ff (unB S set) 0 32 = -1 then -3 else if tmU S set 1 < tmU S set 0 then tmU S set 1 else tmU S set 0
theorem unU_rng {S : Int → Int} (gd : Gd S) (set : Int) (ok : ff (unB S set) 0 32 = -1) {dir : Int} : ∀ (m : Nat) (i c t : Int), i + m = S 1 → 0 ≤ i → (0 ≤ c ∧ c ≤ 11) → (0 ≤ t ∧ t ≤ 220 * i) → 0 ≤ unU S set dir m i c t ∧ unU S set dir m i c t ≤ 220 * S 1 := by
  have ga := gd.a
  have gb := gd.b
  intro m
  induction m with
  | zero => intro i c t hi h0 hc ht; simp only [unU]; omega
  | succ m ih =>
    intro i c t hi h0 hc ht
    simp only [unU]
    split
    · exact ih (i + 1) c t (by omega) (by omega) hc (by omega)
    · rename_i q
      have ho : 0 ≤ orU S dir i ∧ orU S dir i < S 1 := by unfold orU; split <;> omega
      have nb : unB S set (orU S dir i) = false := by
        rcases ff_spec (p := unB S set) (N := 32) 0 with z | z
        · exact z.2 _ ho.1 (by omega)
        · omega
      have b1 := bt_01 set (orU S dir i)
      unfold unB at nb
      simp only [decide_eq_false_iff_not] at nb
      have gr := gd.rg (i := orU S dir i) ho.1 (by omega)
      have cr := chF_rng gd.1 (c := c) (r := S (61 + orU S dir i)) hc.1 (by omega)
      have sr := scA_rng gd.1 (c := c) (r := S (61 + orU S dir i)) (by omega) (by omega)
      exact ih (i + 1) _ _ (by omega) (by omega) (by omega) (by omega)
theorem un_ok {S : Int → Int} (gd : Gd S) {set : Int} (ok : ff (unB S set) 0 32 = -1) {k : Int} (hk : 0 ≤ k ∧ k < S 1) (hb : ¬ bt set k = 0) : 0 ≤ S (61 + k) ∧ S (61 + k) ≤ 11 := by
  have ga := gd.a
  have gb := gd.b
  have nb : unB S set k = false := by
    rcases ff_spec (p := unB S set) (N := 32) 0 with z | z
    · exact z.2 _ hk.1 (by omega)
    · omega
  have b1 := bt_01 set k
  unfold unB at nb
  simp only [decide_eq_false_iff_not] at nb
  have gr := gd.rg (i := k) hk.1 (by omega)
  omega
theorem m_un_1 {d : Nat} {h : Hp} {S : Int → Int} (ms : MS h S) (gd : Gd S) {set : Int} (rs : -2147483648 ≤ set ∧ set ≤ 2147483647) : ∀ k, 0 ≤ k → k ≤ 32 → EX (d+2) m_Mod_undoing 7 [(0, .inr (.inr (72))), (1, .inl (set)), (2, .inl (k))] [] (h) = if ff (unB S set) k 32 = -1 then EX (d+2) m_Mod_undoing 56 [(0, .inr (.inr (72))), (1, .inl (set))] [] (h) else some (.inl (-3), h) := by
  have ga := gd.a
  have gb := gd.b
  have hm := ms.1
  refine up_ind (hi := 32) ?_ ?_
  · intro k hk h0 h1
    rw [Mod_undoing_7, ff_stop hk]
    simp (disch := omega) only [wr_id, ix_id, okx, if_pos, if_neg, Int.toNat_of_nonneg, bak_v, bak_n, wr_b01, wr_bt, b01_or, b01_0, b01_1, lc_lt0, lc_gt0, lc_eq0, wl_wr, wr_wr, wl_id, true_and, and_true, true_or, or_true, not_true_eq_false, not_false_eq_true, nc0, nc1, nc2, nc3, nc4, nc5, nc6, nc7, nc8, nc9, nc10, nc11, nc12, nc13, nc14, nc15, nc16, nc17, nc18, nc19, nc20, nc21, nc22, nc23, nc35, nc47, nc59, nc60, nc61, nc73, nc74, nc214, nc215, nc1115, nc2230, nc3345, if_true, if_false, Int.reduceToNat]
  · intro k hk ih h0 h1
    have b1 := bt_01 set k
    have eh := m_isHook (d := d) ms ga (x := k) (by omega)
    rw [Mod_undoing_7, ff_step hk]
    by_cases c : bt set k = 0
    · have nb : ¬ unB S set k = true := by simp [unB, c]
      rw [if_neg nb]
      simp (disch := omega) only [Mod_undoing_13, Mod_undoing_23, Mod_undoing_50, wr_id, ix_id, okx, if_pos, if_neg, Int.toNat_of_nonneg, bak_v, bak_n, wr_b01, wr_bt, b01_or, b01_0, b01_1, lc_lt0, lc_gt0, lc_eq0, wl_wr, wr_wr, wl_id, true_and, and_true, true_or, or_true, not_true_eq_false, not_false_eq_true, nc0, nc1, nc2, nc3, nc4, nc5, nc6, nc7, nc8, nc9, nc10, nc11, nc12, nc13, nc14, nc15, nc16, nc17, nc18, nc19, nc20, nc21, nc22, nc23, nc35, nc47, nc59, nc60, nc61, nc73, nc74, nc214, nc215, nc1115, nc2230, nc3345, if_true, if_false, Int.reduceToNat, hm.k, hm.r1, hm.r2, hm.r3, hm.r4, hm.r15, hm.r16, hm.r19, hm.r23, hm.r24, hm.r25, hm.r26, hm.r29, hm.r30, hm.r31, hm.r33, hm.r34, hm.r35, hm.k73, hm.k74, hm.k75, hm.k76, hm.k77, hm.k78, hm.k79, hm.k80, hm.k81, hm.k82, hm.k83, hm.k84, hm.k85, hm.k86, hm.k87, hm.k88, hm.k89, hm.n73, hm.n74, hm.n75, hm.n76, hm.n77, hm.n78, hm.n79, hm.n80, hm.n81, hm.n82, hm.n83, hm.n84, hm.n85, hm.n86, hm.n87, hm.n88, hm.n89, m_isIn, bt_la, c]
      exact ih (by omega) (by omega)
    · have c1 : bt set k = 1 := by omega
      by_cases c2 : 0 ≤ k ∧ k < S 1
      · have gr := gd.rg (i := k) h0 (by omega)
        by_cases c3 : S (61 + k) = -1
        · have nb : unB S set k = true := by simp [unB, c1, c3]
          rw [if_pos nb, if_neg (show ¬ k = -1 by omega)]
          simp (disch := omega) only [Mod_undoing_13, Mod_undoing_23, Mod_undoing_26, Mod_undoing_31, Mod_undoing_34, Mod_undoing_47, wr_id, ix_id, okx, if_pos, if_neg, Int.toNat_of_nonneg, bak_v, bak_n, wr_b01, wr_bt, b01_or, b01_0, b01_1, lc_lt0, lc_gt0, lc_eq0, wl_wr, wr_wr, wl_id, true_and, and_true, true_or, or_true, not_true_eq_false, not_false_eq_true, nc0, nc1, nc2, nc3, nc4, nc5, nc6, nc7, nc8, nc9, nc10, nc11, nc12, nc13, nc14, nc15, nc16, nc17, nc18, nc19, nc20, nc21, nc22, nc23, nc35, nc47, nc59, nc60, nc61, nc73, nc74, nc214, nc215, nc1115, nc2230, nc3345, if_true, if_false, Int.reduceToNat, hm.k, hm.r1, hm.r2, hm.r3, hm.r4, hm.r15, hm.r16, hm.r19, hm.r23, hm.r24, hm.r25, hm.r26, hm.r29, hm.r30, hm.r31, hm.r33, hm.r34, hm.r35, hm.k73, hm.k74, hm.k75, hm.k76, hm.k77, hm.k78, hm.k79, hm.k80, hm.k81, hm.k82, hm.k83, hm.k84, hm.k85, hm.k86, hm.k87, hm.k88, hm.k89, hm.n73, hm.n74, hm.n75, hm.n76, hm.n77, hm.n78, hm.n79, hm.n80, hm.n81, hm.n82, hm.n83, hm.n84, hm.n85, hm.n86, hm.n87, hm.n88, hm.n89, ms.2, m_isIn, bt_la, c1, eh, c3]
        · have nb : ¬ unB S set k = true := by simp [unB, c3, c2]
          rw [if_neg nb]
          simp (disch := omega) only [Mod_undoing_13, Mod_undoing_23, Mod_undoing_26, Mod_undoing_31, Mod_undoing_34, Mod_undoing_50, wr_id, ix_id, okx, if_pos, if_neg, Int.toNat_of_nonneg, bak_v, bak_n, wr_b01, wr_bt, b01_or, b01_0, b01_1, lc_lt0, lc_gt0, lc_eq0, wl_wr, wr_wr, wl_id, true_and, and_true, true_or, or_true, not_true_eq_false, not_false_eq_true, nc0, nc1, nc2, nc3, nc4, nc5, nc6, nc7, nc8, nc9, nc10, nc11, nc12, nc13, nc14, nc15, nc16, nc17, nc18, nc19, nc20, nc21, nc22, nc23, nc35, nc47, nc59, nc60, nc61, nc73, nc74, nc214, nc215, nc1115, nc2230, nc3345, if_true, if_false, Int.reduceToNat, hm.k, hm.r1, hm.r2, hm.r3, hm.r4, hm.r15, hm.r16, hm.r19, hm.r23, hm.r24, hm.r25, hm.r26, hm.r29, hm.r30, hm.r31, hm.r33, hm.r34, hm.r35, hm.k73, hm.k74, hm.k75, hm.k76, hm.k77, hm.k78, hm.k79, hm.k80, hm.k81, hm.k82, hm.k83, hm.k84, hm.k85, hm.k86, hm.k87, hm.k88, hm.k89, hm.n73, hm.n74, hm.n75, hm.n76, hm.n77, hm.n78, hm.n79, hm.n80, hm.n81, hm.n82, hm.n83, hm.n84, hm.n85, hm.n86, hm.n87, hm.n88, hm.n89, ms.2, m_isIn, bt_la, c1, eh]
          exact ih (by omega) (by omega)
      · have nb : unB S set k = true := by
          unfold unB
          simp only [decide_eq_true_eq]
          exact ⟨c1, fun q => c2 q.1⟩
        rw [if_pos nb, if_neg (show ¬ k = -1 by omega)]
        simp (disch := omega) only [Mod_undoing_13, Mod_undoing_23, Mod_undoing_26, Mod_undoing_31, Mod_undoing_47, wr_id, ix_id, okx, if_pos, if_neg, Int.toNat_of_nonneg, bak_v, bak_n, wr_b01, wr_bt, b01_or, b01_0, b01_1, lc_lt0, lc_gt0, lc_eq0, wl_wr, wr_wr, wl_id, true_and, and_true, true_or, or_true, not_true_eq_false, not_false_eq_true, nc0, nc1, nc2, nc3, nc4, nc5, nc6, nc7, nc8, nc9, nc10, nc11, nc12, nc13, nc14, nc15, nc16, nc17, nc18, nc19, nc20, nc21, nc22, nc23, nc35, nc47, nc59, nc60, nc61, nc73, nc74, nc214, nc215, nc1115, nc2230, nc3345, if_true, if_false, Int.reduceToNat, hm.k, hm.r1, hm.r2, hm.r3, hm.r4, hm.r15, hm.r16, hm.r19, hm.r23, hm.r24, hm.r25, hm.r26, hm.r29, hm.r30, hm.r31, hm.r33, hm.r34, hm.r35, hm.k73, hm.k74, hm.k75, hm.k76, hm.k77, hm.k78, hm.k79, hm.k80, hm.k81, hm.k82, hm.k83, hm.k84, hm.k85, hm.k86, hm.k87, hm.k88, hm.k89, hm.n73, hm.n74, hm.n75, hm.n76, hm.n77, hm.n78, hm.n79, hm.n80, hm.n81, hm.n82, hm.n83, hm.n84, hm.n85, hm.n86, hm.n87, hm.n88, hm.n89, ms.2, m_isIn, bt_la, c1, eh]
theorem chF_ah {S S' : Int → Int} (a : Ah S S') (c r : Int) : chF S' c r = chF S c r := by
  unfold chF
  rw [a 3 (by omega)]
theorem scA_ah {S S' : Int → Int} (a : Ah S S') (c r : Int) : scA S' c r = scA S c r := by
  unfold scA
  rw [chF_ah a, a 4 (by omega), a 5 (by omega)]
theorem m_un_2 {d : Nat} {S : Int → Int} (gd : Gd S) {set : Int} (rs : -2147483648 ≤ set ∧ set ≤ 2147483647) (ok : ff (unB S set) 0 32 = -1) {dir x2 : Int} (hd : dir = 0 ∨ dir = 1) : ∀ (m : Nat) (i c t : Int) (h : Hp) (U : Int → Int), i + m = S 1 → 0 ≤ i → MS h U → Ah S U → U 59 = c → U 60 = S 60 + t → (0 ≤ c ∧ c ≤ 11) → (∀ j, i ≤ j → j < S 1 → U (61 + orU S dir j) = S (61 + orU S dir j)) → ∃ h' V, EX (d+4) m_Mod_undoing 72 [(0, .inr (.inr (72))), (1, .inl (set)), (2, .inl (x2)), (3, .inl (dir)), (4, .inl (i))] [] (h) = EX (d+4) m_Mod_undoing 127 [(0, .inr (.inr (72))), (1, .inl (set)), (2, .inl (x2)), (3, .inl (dir))] [] (h') ∧ MS h' V ∧ Ah S V ∧ V 60 = S 60 + unU S set dir m i c t ∧ Fr (fun a _ => a = 73) h h' := by
  have ga := gd.a
  have gb := gd.b
  intro m
  induction m with
  | zero =>
    intro i c t h U hi h0 ms ah e59 e60 hc hu
    have hm := ms.1
    have u1 := ah 1 (by omega)
    refine ⟨h, U, ?_, ms, ah, e60, Fr.rf⟩
    rw [Mod_undoing_72]
    simp (disch := omega) only [wr_id, ix_id, okx, if_pos, if_neg, Int.toNat_of_nonneg, bak_v, bak_n, wr_b01, wr_bt, b01_or, b01_0, b01_1, lc_lt0, lc_gt0, lc_eq0, wl_wr, wr_wr, wl_id, true_and, and_true, true_or, or_true, not_true_eq_false, not_false_eq_true, nc0, nc1, nc2, nc3, nc4, nc5, nc6, nc7, nc8, nc9, nc10, nc11, nc12, nc13, nc14, nc15, nc16, nc17, nc18, nc19, nc20, nc21, nc22, nc23, nc35, nc47, nc59, nc60, nc61, nc73, nc74, nc214, nc215, nc1115, nc2230, nc3345, if_true, if_false, Int.reduceToNat, hm.k, hm.r1, hm.r2, hm.r3, hm.r4, hm.r15, hm.r16, hm.r19, hm.r23, hm.r24, hm.r25, hm.r26, hm.r29, hm.r30, hm.r31, hm.r33, hm.r34, hm.r35, hm.k73, hm.k74, hm.k75, hm.k76, hm.k77, hm.k78, hm.k79, hm.k80, hm.k81, hm.k82, hm.k83, hm.k84, hm.k85, hm.k86, hm.k87, hm.k88, hm.k89, hm.n73, hm.n74, hm.n75, hm.n76, hm.n77, hm.n78, hm.n79, hm.n80, hm.n81, hm.n82, hm.n83, hm.n84, hm.n85, hm.n86, hm.n87, hm.n88, hm.n89, ms.2, u1]
  | succ m ih =>
    intro i c t h U hi h0 ms ah e59 e60 hc hu
    have hm := ms.1
    have u1 := ah 1 (by omega)
    have ho : 0 ≤ orU S dir i ∧ orU S dir i < S 1 := by unfold orU; split <;> omega
    have e112 : EX (d+4) m_Mod_undoing 72 [(0, .inr (.inr (72))), (1, .inl (set)), (2, .inl (x2)), (3, .inl (dir)), (4, .inl (i))] [] (h) = EX (d+4) m_Mod_undoing 112 [(0, .inr (.inr (72))), (1, .inl (set)), (2, .inl (x2)), (3, .inl (dir)), (4, .inl (i)), (5, .inl (orU S dir i))] [.inl (bt set (orU S dir i))] (h) := by
      rw [Mod_undoing_72]
      unfold orU at ho ⊢
      rcases hd with e | e <;> subst e
      · rw [if_pos (show (0 : Int) = 0 from rfl)] at ho ⊢
        simp (disch := omega) only [Mod_undoing_83, Mod_undoing_87, Mod_undoing_103, wr_id, ix_id, okx, if_pos, if_neg, Int.toNat_of_nonneg, bak_v, bak_n, wr_b01, wr_bt, b01_or, b01_0, b01_1, lc_lt0, lc_gt0, lc_eq0, wl_wr, wr_wr, wl_id, true_and, and_true, true_or, or_true, not_true_eq_false, not_false_eq_true, nc0, nc1, nc2, nc3, nc4, nc5, nc6, nc7, nc8, nc9, nc10, nc11, nc12, nc13, nc14, nc15, nc16, nc17, nc18, nc19, nc20, nc21, nc22, nc23, nc35, nc47, nc59, nc60, nc61, nc73, nc74, nc214, nc215, nc1115, nc2230, nc3345, if_true, if_false, Int.reduceToNat, hm.k, hm.r1, hm.r2, hm.r3, hm.r4, hm.r15, hm.r16, hm.r19, hm.r23, hm.r24, hm.r25, hm.r26, hm.r29, hm.r30, hm.r31, hm.r33, hm.r34, hm.r35, hm.k73, hm.k74, hm.k75, hm.k76, hm.k77, hm.k78, hm.k79, hm.k80, hm.k81, hm.k82, hm.k83, hm.k84, hm.k85, hm.k86, hm.k87, hm.k88, hm.k89, hm.n73, hm.n74, hm.n75, hm.n76, hm.n77, hm.n78, hm.n79, hm.n80, hm.n81, hm.n82, hm.n83, hm.n84, hm.n85, hm.n86, hm.n87, hm.n88, hm.n89, ms.2, u1, m_isIn]
      · rw [if_neg (show ¬ (1 : Int) = 0 by omega)] at ho ⊢
        simp (disch := omega) only [Mod_undoing_83, Mod_undoing_92, Mod_undoing_103, wr_id, ix_id, okx, if_pos, if_neg, Int.toNat_of_nonneg, bak_v, bak_n, wr_b01, wr_bt, b01_or, b01_0, b01_1, lc_lt0, lc_gt0, lc_eq0, wl_wr, wr_wr, wl_id, true_and, and_true, true_or, or_true, not_true_eq_false, not_false_eq_true, nc0, nc1, nc2, nc3, nc4, nc5, nc6, nc7, nc8, nc9, nc10, nc11, nc12, nc13, nc14, nc15, nc16, nc17, nc18, nc19, nc20, nc21, nc22, nc23, nc35, nc47, nc59, nc60, nc61, nc73, nc74, nc214, nc215, nc1115, nc2230, nc3345, if_true, if_false, Int.reduceToNat, hm.k, hm.r1, hm.r2, hm.r3, hm.r4, hm.r15, hm.r16, hm.r19, hm.r23, hm.r24, hm.r25, hm.r26, hm.r29, hm.r30, hm.r31, hm.r33, hm.r34, hm.r35, hm.k73, hm.k74, hm.k75, hm.k76, hm.k77, hm.k78, hm.k79, hm.k80, hm.k81, hm.k82, hm.k83, hm.k84, hm.k85, hm.k86, hm.k87, hm.k88, hm.k89, hm.n73, hm.n74, hm.n75, hm.n76, hm.n77, hm.n78, hm.n79, hm.n80, hm.n81, hm.n82, hm.n83, hm.n84, hm.n85, hm.n86, hm.n87, hm.n88, hm.n89, ms.2, u1, m_isIn]
    simp only [unU]
    by_cases q : bt set (orU S dir i) = 0
    · rw [if_pos q]
      obtain ⟨h', V, e, q1, q2, q3, q4⟩ := ih (i + 1) c t h U (by omega) (by omega) ms ah e59 e60 hc (fun j a b => hu j (by omega) b)
      refine ⟨h', V, ?_, q1, q2, q3, q4⟩
      refine e112.trans ?_
      simp (disch := omega) only [Mod_undoing_112, Mod_undoing_121, wr_id, ix_id, okx, if_pos, if_neg, Int.toNat_of_nonneg, bak_v, bak_n, wr_b01, wr_bt, b01_or, b01_0, b01_1, lc_lt0, lc_gt0, lc_eq0, wl_wr, wr_wr, wl_id, true_and, and_true, true_or, or_true, not_true_eq_false, not_false_eq_true, nc0, nc1, nc2, nc3, nc4, nc5, nc6, nc7, nc8, nc9, nc10, nc11, nc12, nc13, nc14, nc15, nc16, nc17, nc18, nc19, nc20, nc21, nc22, nc23, nc35, nc47, nc59, nc60, nc61, nc73, nc74, nc214, nc215, nc1115, nc2230, nc3345, if_true, if_false, Int.reduceToNat, q]
      exact e
    · rw [if_neg q]
      have b1 := bt_01 set (orU S dir i)
      have rr := un_ok gd ok ho q
      have ru := hu i (by omega) (by omega)
      have cr := chF_rng gd.1 (c := c) (r := S (61 + orU S dir i)) hc.1 (by omega)
      obtain ⟨h1, e1, ms1, f1⟩ := m_unhooks (d := d) ms (ah.ag.gdw gd.1) (by omega) (x := orU S dir i) (by omega) (by omega)
      obtain ⟨h', V, e, q1, q2, q3, q4⟩ := ih (i + 1) (chF S c (S (61 + orU S dir i))) (t + scA S c (S (61 + orU S dir i))) h1 (offS U (orU S dir i)) (by omega) (by omega) ms1 (ah.tr (offS_ah U (by omega))) (by
        unfold offS
        rw [up_ne (by omega), goS_59, e59, ru, chF_ah ah]) (by
        unfold offS
        rw [up_ne (by omega), goS_60, e59, ru, e60, scA_ah ah]
        omega) (by omega) (fun j a b => by
        have hj : ¬ 61 + orU S dir j = 61 + orU S dir i := by unfold orU; split <;> omega
        have hj2 : 0 ≤ orU S dir j := by unfold orU; split <;> omega
        unfold offS
        rw [up_ne hj, goS_o (by omega)]
        exact hu j (by omega) b)
      refine ⟨h', V, ?_, q1, q2, q3, f1.tr q4⟩
      refine e112.trans ?_
      simp (disch := omega) only [Mod_undoing_112, Mod_undoing_115, Mod_undoing_121, wr_id, ix_id, okx, if_pos, if_neg, Int.toNat_of_nonneg, bak_v, bak_n, wr_b01, wr_bt, b01_or, b01_0, b01_1, lc_lt0, lc_gt0, lc_eq0, wl_wr, wr_wr, wl_id, true_and, and_true, true_or, or_true, not_true_eq_false, not_false_eq_true, nc0, nc1, nc2, nc3, nc4, nc5, nc6, nc7, nc8, nc9, nc10, nc11, nc12, nc13, nc14, nc15, nc16, nc17, nc18, nc19, nc20, nc21, nc22, nc23, nc35, nc47, nc59, nc60, nc61, nc73, nc74, nc214, nc215, nc1115, nc2230, nc3345, if_true, if_false, Int.reduceToNat, hm.k, e1]
      exact e
theorem ag_ah {S V : Int → Int} (a : Ah S V) : agS S V = S := by
  funext k
  unfold agS
  split
  · rfl
  · exact a k (by omega)
theorem mm_undoing {d : Nat} {h : Hp} {S G T rs rm nb : Int → Int} {n fk fp : Int} (mb : MB h S G T rs rm nb n fk fp) (gd : Gd S) {set : Int} (rx : -2147483648 ≤ set ∧ set ≤ 2147483647) : ∃ h', cal (d+5) m_Mod_undoing [.inr (.inr (72)), .inl (set)] (h) = some (.inl (ansUnd S set), h') ∧ MB h' S G T rs rm nb n fk fp ∧ Fr wQ h h' := by
  have ga := gd.a
  have gb := gd.b
  have g59 := gd.2.1
  have ms0 : MS (pI h 72 0 0) S := mb.1.o (by omega)
  have f0 : Fr wQ h (pI h 72 0 0) := f72 (by omega)
  have hk := mb.1.1.k
  have hm := ms0.1
  have e1 := m_un_1 (d := d + 2) ms0 gd rx 0 (by omega) (by omega)
  have st : cal (d+5) m_Mod_undoing [.inr (.inr (72)), .inl (set)] (h) = EX (d+4) m_Mod_undoing 7 [(0, .inr (.inr (72))), (1, .inl (set)), (2, .inl (0))] [] (pI h 72 0 0) := by
    show EX (d+4) m_Mod_undoing 0 [(0, .inr (.inr (72))), (1, .inl (set))] [] (h) = _
    simp (disch := omega) only [Mod_undoing_0, Mod_undoing_5, wr_id, ix_id, okx, if_pos, if_neg, Int.toNat_of_nonneg, bak_v, bak_n, wr_b01, wr_bt, b01_or, b01_0, b01_1, lc_lt0, lc_gt0, lc_eq0, wl_wr, wr_wr, wl_id, true_and, and_true, true_or, or_true, not_true_eq_false, not_false_eq_true, nc0, nc1, nc2, nc3, nc4, nc5, nc6, nc7, nc8, nc9, nc10, nc11, nc12, nc13, nc14, nc15, nc16, nc17, nc18, nc19, nc20, nc21, nc22, nc23, nc35, nc47, nc59, nc60, nc61, nc73, nc74, nc214, nc215, nc1115, nc2230, nc3345, if_true, if_false, Int.reduceToNat, hk]
  unfold ansUnd
  by_cases ok : ff (unB S set) 0 32 = -1
  · rw [if_neg (fun q => q ok)]
    rw [if_pos ok] at e1
    have t0 := unU_rng gd set ok (dir := 0) (S 1).toNat 0 (S 59) 0 (by omega) (by omega) (by omega) (by omega)
    have t1 := unU_rng gd set ok (dir := 1) (S 1).toNat 0 (S 59) 0 (by omega) (by omega) (by omega) (by omega)
    have t0' : 0 ≤ tmU S set 0 ∧ tmU S set 0 ≤ 220 * S 1 := t0
    have t1' : 0 ≤ tmU S set 1 ∧ tmU S set 1 ≤ 220 * S 1 := t1
    obtain ⟨h1, k1, kv1, f1⟩ := m_keeps (d := d + 3) ms0
    have ms1 := ms0.q f1 (fun k => by omega)
    obtain ⟨h2, V2, k2, ms2, ah2, e60, f2⟩ := m_un_2 (d := d) gd rx ok (dir := 0) (x2 := 0) (Or.inl rfl) (S 1).toNat 0 (S 59) 0 h1 S (by omega) (by omega) ms1 Ah.rf rfl (by omega) (by omega) (fun j _ _ => rfl)
    have kv2 := kv1.fr f2 (fun k => by omega)
    obtain ⟨h3, k3, ms3, f3⟩ := m_isAgain (d := d + 3) ms2 kv2
    rw [ag_ah ah2] at ms3
    have kv3 := kv2.fr f3 (fun k => by omega)
    obtain ⟨h4, V4, k4, ms4, ah4, e604, f4⟩ := m_un_2 (d := d) gd rx ok (dir := 1) (x2 := tmU S set 0) (Or.inr rfl) (S 1).toNat 0 (S 59) 0 h3 S (by omega) (by omega) ms3 Ah.rf rfl (by omega) (by omega) (fun j _ _ => rfl)
    have kv4 := kv3.fr f4 (fun k => by omega)
    obtain ⟨h5, k5, ms5, f5⟩ := m_isAgain (d := d + 3) ms4 kv4
    rw [ag_ah ah4] at ms5
    have ff' := (((f0.tr (f78 f1)).tr ((f73 f2).tr (f73 f3))).tr (f73 f4)).tr (f73 f5)
    refine ⟨h5, ?_, mb.fr ff' ms5, ff'⟩
    refine st.trans (e1.trans ?_)
    have hm1 := ms1.1
    have hm2 := ms2.1
    have hm3 := ms3.1
    have hm4 := ms4.1
    have q2 : hI h2 78 1 = S 60 := kv2 1 (by omega)
    have q4 : hI h4 78 1 = S 60 := kv4 1 (by omega)
    have x2 : V2 60 - S 60 = tmU S set 0 := by rw [e60]; unfold tmU; omega
    have x4 : V4 60 - S 60 = tmU S set 1 := by rw [e604]; unfold tmU; omega
    simp (disch := omega) only [Mod_undoing_56, Mod_undoing_60, wr_id, ix_id, okx, if_pos, if_neg, Int.toNat_of_nonneg, bak_v, bak_n, wr_b01, wr_bt, b01_or, b01_0, b01_1, lc_lt0, lc_gt0, lc_eq0, wl_wr, wr_wr, wl_id, true_and, and_true, true_or, or_true, not_true_eq_false, not_false_eq_true, nc0, nc1, nc2, nc3, nc4, nc5, nc6, nc7, nc8, nc9, nc10, nc11, nc12, nc13, nc14, nc15, nc16, nc17, nc18, nc19, nc20, nc21, nc22, nc23, nc35, nc47, nc59, nc60, nc61, nc73, nc74, nc214, nc215, nc1115, nc2230, nc3345, if_true, if_false, Int.reduceToNat, hm.k, k1]
    rw [Mod_undoing_64]
    simp (disch := omega) only [Mod_undoing_69, wr_id, ix_id, okx, if_pos, if_neg, Int.toNat_of_nonneg, bak_v, bak_n, wr_b01, wr_bt, b01_or, b01_0, b01_1, lc_lt0, lc_gt0, lc_eq0, wl_wr, wr_wr, wl_id, true_and, and_true, true_or, or_true, not_true_eq_false, not_false_eq_true, nc0, nc1, nc2, nc3, nc4, nc5, nc6, nc7, nc8, nc9, nc10, nc11, nc12, nc13, nc14, nc15, nc16, nc17, nc18, nc19, nc20, nc21, nc22, nc23, nc35, nc47, nc59, nc60, nc61, nc73, nc74, nc214, nc215, nc1115, nc2230, nc3345, if_true, if_false, Int.reduceToNat]
    refine k2.trans ?_
    simp (disch := omega) only [Mod_undoing_127, Mod_undoing_153, Mod_undoing_159, Mod_undoing_164, wr_id, ix_id, okx, if_pos, if_neg, Int.toNat_of_nonneg, bak_v, bak_n, wr_b01, wr_bt, b01_or, b01_0, b01_1, lc_lt0, lc_gt0, lc_eq0, wl_wr, wr_wr, wl_id, true_and, and_true, true_or, or_true, not_true_eq_false, not_false_eq_true, nc0, nc1, nc2, nc3, nc4, nc5, nc6, nc7, nc8, nc9, nc10, nc11, nc12, nc13, nc14, nc15, nc16, nc17, nc18, nc19, nc20, nc21, nc22, nc23, nc35, nc47, nc59, nc60, nc61, nc73, nc74, nc214, nc215, nc1115, nc2230, nc3345, if_true, if_false, Int.reduceToNat, hm2.k, hm2.r1, hm2.r16, hm2.k73, hm2.k78, hm2.n73, hm2.n78, ms2.2, q2, x2, k3]
    rw [Mod_undoing_64]
    simp (disch := omega) only [Mod_undoing_69, wr_id, ix_id, okx, if_pos, if_neg, Int.toNat_of_nonneg, bak_v, bak_n, wr_b01, wr_bt, b01_or, b01_0, b01_1, lc_lt0, lc_gt0, lc_eq0, wl_wr, wr_wr, wl_id, true_and, and_true, true_or, or_true, not_true_eq_false, not_false_eq_true, nc0, nc1, nc2, nc3, nc4, nc5, nc6, nc7, nc8, nc9, nc10, nc11, nc12, nc13, nc14, nc15, nc16, nc17, nc18, nc19, nc20, nc21, nc22, nc23, nc35, nc47, nc59, nc60, nc61, nc73, nc74, nc214, nc215, nc1115, nc2230, nc3345, if_true, if_false, Int.reduceToNat]
    refine k4.trans ?_
    by_cases c : tmU S set 1 < tmU S set 0
    · rw [if_pos c]
      simp (disch := omega) only [Mod_undoing_127, Mod_undoing_147, Mod_undoing_153, Mod_undoing_159, Mod_undoing_164, wr_id, ix_id, okx, if_pos, if_neg, Int.toNat_of_nonneg, bak_v, bak_n, wr_b01, wr_bt, b01_or, b01_0, b01_1, lc_lt0, lc_gt0, lc_eq0, wl_wr, wr_wr, wl_id, true_and, and_true, true_or, or_true, not_true_eq_false, not_false_eq_true, nc0, nc1, nc2, nc3, nc4, nc5, nc6, nc7, nc8, nc9, nc10, nc11, nc12, nc13, nc14, nc15, nc16, nc17, nc18, nc19, nc20, nc21, nc22, nc23, nc35, nc47, nc59, nc60, nc61, nc73, nc74, nc214, nc215, nc1115, nc2230, nc3345, if_true, if_false, Int.reduceToNat, hm4.k, hm4.r1, hm4.r16, hm4.k73, hm4.k78, hm4.n73, hm4.n78, ms4.2, q4, x4, k5]
      rw [Mod_undoing_64]
      simp (disch := omega) only [Mod_undoing_170, wr_id, ix_id, okx, if_pos, if_neg, Int.toNat_of_nonneg, bak_v, bak_n, wr_b01, wr_bt, b01_or, b01_0, b01_1, lc_lt0, lc_gt0, lc_eq0, wl_wr, wr_wr, wl_id, true_and, and_true, true_or, or_true, not_true_eq_false, not_false_eq_true, nc0, nc1, nc2, nc3, nc4, nc5, nc6, nc7, nc8, nc9, nc10, nc11, nc12, nc13, nc14, nc15, nc16, nc17, nc18, nc19, nc20, nc21, nc22, nc23, nc35, nc47, nc59, nc60, nc61, nc73, nc74, nc214, nc215, nc1115, nc2230, nc3345, if_true, if_false, Int.reduceToNat]
    · rw [if_neg c]
      simp (disch := omega) only [Mod_undoing_127, Mod_undoing_147, Mod_undoing_158, Mod_undoing_159, Mod_undoing_164, wr_id, ix_id, okx, if_pos, if_neg, Int.toNat_of_nonneg, bak_v, bak_n, wr_b01, wr_bt, b01_or, b01_0, b01_1, lc_lt0, lc_gt0, lc_eq0, wl_wr, wr_wr, wl_id, true_and, and_true, true_or, or_true, not_true_eq_false, not_false_eq_true, nc0, nc1, nc2, nc3, nc4, nc5, nc6, nc7, nc8, nc9, nc10, nc11, nc12, nc13, nc14, nc15, nc16, nc17, nc18, nc19, nc20, nc21, nc22, nc23, nc35, nc47, nc59, nc60, nc61, nc73, nc74, nc214, nc215, nc1115, nc2230, nc3345, if_true, if_false, Int.reduceToNat, hm4.k, hm4.r1, hm4.r16, hm4.k73, hm4.k78, hm4.n73, hm4.n78, ms4.2, q4, x4, k5]
      rw [Mod_undoing_64]
      simp (disch := omega) only [Mod_undoing_170, wr_id, ix_id, okx, if_pos, if_neg, Int.toNat_of_nonneg, bak_v, bak_n, wr_b01, wr_bt, b01_or, b01_0, b01_1, lc_lt0, lc_gt0, lc_eq0, wl_wr, wr_wr, wl_id, true_and, and_true, true_or, or_true, not_true_eq_false, not_false_eq_true, nc0, nc1, nc2, nc3, nc4, nc5, nc6, nc7, nc8, nc9, nc10, nc11, nc12, nc13, nc14, nc15, nc16, nc17, nc18, nc19, nc20, nc21, nc22, nc23, nc35, nc47, nc59, nc60, nc61, nc73, nc74, nc214, nc215, nc1115, nc2230, nc3345, if_true, if_false, Int.reduceToNat]
  · rw [if_pos ok]
    rw [if_neg ok] at e1
    exact ⟨_, st.trans e1, mb.fr f0 ms0, f0⟩
