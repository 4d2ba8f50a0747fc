/-! the model's calls: evenest, spread -/
theorem fEv {h h' : Hp} (f : Fr pEv h h') : Fr wQ h h' := f.mo (fun a k q => pEv.wq q)
def ansEven (S : Int → Int) (u : Int) : Int := if ¬ ((0 ≤ u ∧ u ≤ 1) ∨ (10 ≤ u ∧ u < 10 + S 1)) then -2 else if u = 0 then eMo S else if u = 1 then eSq S else evR S (u - 10)
theorem mm_evenest {d : Nat} {h : Hp} {S G T rs rm nb : Int → Int} {n fk fp : Int} (mb : MB h S G T rs rm nb n fk fp) (gd : Gd S) (tg : TG rs rm nb) {u : Int} (ru : -2147483648 ≤ u ∧ u ≤ 2147483647) : ∃ h', cal (d+7) m_Mod_evenest [.inr (.inr (72)), .inl (u)] (h) = some (.inl (ansEven S u), h') ∧ MB h' S G T rs rm nb n fk fp ∧ Fr wQ h h' := by
  have ms0 : MS (pI h 72 0 0) S := mb.1.o (by omega)
  have f0 : Fr wQ h (pI h 72 0 0) := f72 (by omega)
  have hk := mb.1.1.k
  have hm := ms0.1
  have mb0 := mb.fr f0 ms0
  have ga := gd.a
  have gb := gd.b
  have fs := fullN_spec S
  have ea := m_asksHook (d := d + 4) ms0 gd ru
  unfold ansEven
  by_cases c : (0 ≤ u ∧ u ≤ 1) ∨ (10 ≤ u ∧ u < 10 + S 1)
  · rw [if_neg (fun q => q c)]
    obtain ⟨h1, e1, ev1, f1⟩ := m_laysEvenest (d := d) ms0 mb0.2.2.2.2.2.2 tg.2 gd
    have ff1 := f0.tr (fEv f1)
    have hm1 := ev1.1.1.1.1
    have e27 := ev1.2.1
    have e28 := ev1.2.2.1
    have es := ev1.2.2.2 (-1) (-1) (by omega) (by omega) (by omega) (by omega) (by omega) (fullN S) fs.1 fs.2.1
    have es' : hI h1 83 (169 * (-1 + 1) + 13 * (-1 + 1) + fullN S).toNat = eSq S := es
    by_cases c0 : u = 0
    · subst c0
      refine ⟨h1, ?_, mb.fr ff1 ev1.1.1.1, ff1⟩
      show EX (d+6) m_Mod_evenest 0 [(0, .inr (.inr (72))), (1, .inl (0))] [] (h) = _
      simp (disch := omega) only [Mod_evenest_0, Mod_evenest_5, Mod_evenest_11, Mod_evenest_17, Mod_evenest_21, Mod_evenest_25, wr_id, ix_id, okx, if_pos, if_neg, Int.toNat_of_nonneg, bak_v, bak_n, wr_b01, wr_bt, b01_or, b01_0, b01_1, lc_lt0, lc_gt0, lc_eq0, wl_wr, wr_wr, wl_id, true_and, and_true, true_or, or_true, not_true_eq_false, not_false_eq_true, nc0, nc1, nc2, nc3, nc4, nc5, nc6, nc7, nc8, nc9, nc10, nc11, nc12, nc13, nc14, nc15, nc16, nc17, nc18, nc19, nc20, nc21, nc22, nc23, nc35, nc47, nc59, nc60, nc61, nc73, nc74, nc214, nc215, nc1115, nc2230, nc3345, if_true, if_false, Int.reduceToNat, hk, hm.k, ea, e1, hm1.k, e28]
    · by_cases c1 : u = 1
      · subst c1
        refine ⟨h1, ?_, mb.fr ff1 ev1.1.1.1, ff1⟩
        show EX (d+6) m_Mod_evenest 0 [(0, .inr (.inr (72))), (1, .inl (1))] [] (h) = _
        simp (disch := omega) only [Mod_evenest_0, Mod_evenest_5, Mod_evenest_11, Mod_evenest_17, Mod_evenest_21, Mod_evenest_30, Mod_evenest_35, Mod_evenest_48, wr_id, ix_id, okx, if_pos, if_neg, Int.toNat_of_nonneg, bak_v, bak_n, wr_b01, wr_bt, b01_or, b01_0, b01_1, lc_lt0, lc_gt0, lc_eq0, wl_wr, wr_wr, wl_id, true_and, and_true, true_or, or_true, not_true_eq_false, not_false_eq_true, nc0, nc1, nc2, nc3, nc4, nc5, nc6, nc7, nc8, nc9, nc10, nc11, nc12, nc13, nc14, nc15, nc16, nc17, nc18, nc19, nc20, nc21, nc22, nc23, nc35, nc47, nc59, nc60, nc61, nc73, nc74, nc214, nc215, nc1115, nc2230, nc3345, if_true, if_false, Int.reduceToNat, hk, hm.k, ea, e1, hm1.k, hm1.r26, hm1.k83, hm1.n83, e27, m_spot, es']
      · obtain ⟨h2, e2, v2, ev2, f2⟩ := m_findsEvenest (d := d + 2) tg.2 gd ev1
        have ff2 := ff1.tr (f2.mo (fun a k q => by unfold wQ; omega))
        have hm2 := ev2.1.1.1.1
        have ez := v2 (u - 10).toNat (by omega)
        rw [Int.toNat_of_nonneg (by omega)] at ez
        refine ⟨h2, ?_, mb.fr ff2 ev2.1.1.1, ff2⟩
        show EX (d+6) m_Mod_evenest 0 [(0, .inr (.inr (72))), (1, .inl (u))] [] (h) = _
        simp (disch := omega) only [Mod_evenest_0, Mod_evenest_5, Mod_evenest_11, Mod_evenest_17, Mod_evenest_21, Mod_evenest_30, Mod_evenest_50, wr_id, ix_id, okx, if_pos, if_neg, Int.toNat_of_nonneg, bak_v, bak_n, wr_b01, wr_bt, b01_or, b01_0, b01_1, lc_lt0, lc_gt0, lc_eq0, wl_wr, wr_wr, wl_id, true_and, and_true, true_or, or_true, not_true_eq_false, not_false_eq_true, nc0, nc1, nc2, nc3, nc4, nc5, nc6, nc7, nc8, nc9, nc10, nc11, nc12, nc13, nc14, nc15, nc16, nc17, nc18, nc19, nc20, nc21, nc22, nc23, nc35, nc47, nc59, nc60, nc61, nc73, nc74, nc214, nc215, nc1115, nc2230, nc3345, if_true, if_false, Int.reduceToNat, hk, hm.k, ea, e1, hm1.k, e2]
        have hm := hm2
        simp (disch := omega) only [Mod_evenest_54, wr_id, ix_id, okx, if_pos, if_neg, Int.toNat_of_nonneg, bak_v, bak_n, wr_b01, wr_bt, b01_or, b01_0, b01_1, lc_lt0, lc_gt0, lc_eq0, wl_wr, wr_wr, wl_id, true_and, and_true, true_or, or_true, not_true_eq_false, not_false_eq_true, nc0, nc1, nc2, nc3, nc4, nc5, nc6, nc7, nc8, nc9, nc10, nc11, nc12, nc13, nc14, nc15, nc16, nc17, nc18, nc19, nc20, nc21, nc22, nc23, nc35, nc47, nc59, nc60, nc61, nc73, nc74, nc214, nc215, nc1115, nc2230, nc3345, if_true, if_false, Int.reduceToNat, hm.k, hm.r1, hm.r2, hm.r3, hm.r4, hm.r15, hm.r16, hm.r19, hm.r23, hm.r24, hm.r25, hm.r26, hm.r29, hm.r30, hm.r31, hm.r33, hm.r34, hm.r35, hm.k73, hm.k74, hm.k75, hm.k76, hm.k77, hm.k78, hm.k79, hm.k80, hm.k81, hm.k82, hm.k83, hm.k84, hm.k85, hm.k86, hm.k87, hm.k88, hm.k89, hm.n73, hm.n74, hm.n75, hm.n76, hm.n77, hm.n78, hm.n79, hm.n80, hm.n81, hm.n82, hm.n83, hm.n84, hm.n85, hm.n86, hm.n87, hm.n88, hm.n89, ez]
  · rw [if_pos c]
    refine ⟨pI h 72 0 0, ?_, mb0, f0⟩
    show EX (d+6) m_Mod_evenest 0 [(0, .inr (.inr (72))), (1, .inl (u))] [] (h) = _
    simp (disch := omega) only [Mod_evenest_0, Mod_evenest_5, Mod_evenest_11, Mod_evenest_14, wr_id, ix_id, okx, if_pos, if_neg, Int.toNat_of_nonneg, bak_v, bak_n, wr_b01, wr_bt, b01_or, b01_0, b01_1, lc_lt0, lc_gt0, lc_eq0, wl_wr, wr_wr, wl_id, true_and, and_true, true_or, or_true, not_true_eq_false, not_false_eq_true, nc0, nc1, nc2, nc3, nc4, nc5, nc6, nc7, nc8, nc9, nc10, nc11, nc12, nc13, nc14, nc15, nc16, nc17, nc18, nc19, nc20, nc21, nc22, nc23, nc35, nc47, nc59, nc60, nc61, nc73, nc74, nc214, nc215, nc1115, nc2230, nc3345, if_true, if_false, Int.reduceToNat, hk, hm.k, ea]
/-! spread -/
theorem hwG_inc (P : Int → Int → Int → Int → Int → Bool) (R : Int) : ∀ (m : Nat) (g x r n : Int), -1 ≤ r → (∀ z, hwG P R z m g x r n = -1 ∨ r < hwG P R z m g x r n) ∧ (∀ i j, g ≤ i → i < j → ¬ hwG P R i m g x r n = -1 → ¬ hwG P R j m g x r n = -1 → hwG P R i m g x r n < hwG P R j m g x r n) := by
  intro m
  induction m with
  | zero => intro g x r n _; exact ⟨fun z => Or.inl rfl, fun i j _ _ h => absurd rfl h⟩
  | succ m ih =>
    intro g x r n hr
    have sp := ff_spec (p := P x r n g) (N := R) (r + 1)
    by_cases cq : ff (P x r n g) (r + 1) R = -1
    · obtain ⟨a, b⟩ := ih (g + 1) x r n hr
      refine ⟨fun z => ?_, fun i j hi hij => ?_⟩
      · simp only [hwG]
        by_cases cz : g = z
        · rw [if_pos cz]; exact Or.inl cq
        · rw [if_neg cz, if_pos cq]; exact a z
      · simp only [hwG]
        have cj : ¬ g = j := by omega
        by_cases ci : g = i
        · rw [if_pos ci]; intro h; exact absurd cq h
        · rw [if_neg ci, if_neg cj, if_pos cq, if_pos cq]
          exact b i j (by omega) hij
    · have sq : r + 1 ≤ ff (P x r n g) (r + 1) R := by omega
      obtain ⟨a, b⟩ := ih (g + 1) g (ff (P x r n g) (r + 1) R) (n - 1) (by omega)
      refine ⟨fun z => ?_, fun i j hi hij => ?_⟩
      · simp only [hwG]
        by_cases cz : g = z
        · rw [if_pos cz]; omega
        · rw [if_neg cz, if_neg cq]
          have := a z
          omega
      · simp only [hwG]
        have cj : ¬ g = j := by omega
        by_cases ci : g = i
        · rw [if_pos ci, if_neg cj, if_neg cq]
          have := a j
          omega
        · rw [if_neg ci, if_neg cj, if_neg cq, if_neg cq]
          exact b i j (by omega) hij
def spS (S : Int → Int) : Int → Int := fun k => if 61 ≤ k ∧ k < 61 + S 1 then evR S (k - 61) else S k
def spN (S : Int → Int) : Int := sm (fun z => b01 (¬ S (61 + z) = evR S z)) 0 (S 1)
def rowSpr (S : Int → Int) : Int → Int := if 0 < spN S then ntS S (spS S) else S
theorem evR_rng {S : Int → Int} (gd : Gd S) (z : Int) : -1 ≤ evR S z ∧ evR S z < S 2 := by
  have gb := gd.b
  have := hwG_rng (PmE S) (S 2) z (S 1).toNat 0 (-1) (-1) (fullN S) (by omega)
  unfold evR
  omega
theorem spS_ah {S : Int → Int} (gd : Gd S) : Ah S (spS S) := fun k h => by
  have ga := gd.a
  unfold spS
  rw [if_neg (by omega)]
theorem Gd_spr {S : Int → Int} (gd : Gd S) : Gd (spS S) := by
  have ga := gd.a
  have gb := gd.b
  have ah := spS_ah gd
  have e1 := ah 1 (by omega)
  have e2 := ah 2 (by omega)
  have e59 : spS S 59 = S 59 := by unfold spS; rw [if_neg (by omega)]
  refine ⟨ah.ag.gdw gd.1, ?_, ?_, ?_⟩
  · rw [e59, e2]; exact gd.2.1
  · intro i h0 h1
    rw [e1, e2]
    have gr := gd.rg h0 h1
    unfold spS
    by_cases c : i < S 1
    · rw [if_pos (by omega)]
      have := evR_rng gd (61 + i - 61)
      omega
    · rw [if_neg (by omega)]; exact gr
  · intro i j h0 hij hj
    rw [e1] at hj
    unfold spS
    rw [if_pos (by omega), if_pos (by omega), show 61 + i - 61 = i by omega, show 61 + j - 61 = j by omega]
    exact (hwG_inc (PmE S) (S 2) (S 1).toNat 0 (-1) (-1) (fullN S) (by omega)).2 i j h0 hij
theorem m_spread_l {d : Nat} {S : Int → Int} (gd : Gd S) : ∀ i, 0 ≤ i → i ≤ S 1 → ∀ h U m, MS h U → (∀ z : Nat, (z : Int) < S 1 → hI h 80 z = evR S z) → (∀ k, U k = if 61 ≤ k ∧ k < 61 + i then evR S (k - 61) else S k) → ∃ h', EX (d) m_Mod_spread 21 [(0, .inr (.inr (72))), (1, .inl (m)), (2, .inl (i))] [] (h) = EX (d) m_Mod_spread 78 [(0, .inr (.inr (72))), (1, .inl (m + sm (fun z => b01 (¬ S (61 + z) = evR S z)) i (S 1)))] [] (h') ∧ MS h' (spS S) ∧ Fr (fun a _ => a = 73) h h' := by
  have ga := gd.a
  have gb := gd.b
  refine up_ind (hi := S 1) ?_ ?_
  · intro i hi h0 h1 h U m ms vf hU
    have hm := ms.1
    have e1 : U 1 = S 1 := by rw [hU, if_neg (by omega)]
    have e : spS S = U := by
      funext k
      rw [hU, show i = S 1 by omega]
      rfl
    refine ⟨h, ?_, by rw [e]; exact ms, Fr.rf⟩
    rw [Mod_spread_21]
    simp (disch := omega) only [wr_id, ix_id, okx, if_pos, if_neg, Int.toNat_of_nonneg, bak_v, bak_n, wr_b01, wr_bt, b01_or, b01_0, b01_1, lc_lt0, lc_gt0, lc_eq0, wl_wr, wr_wr, wl_id, true_and, and_true, true_or, or_true, not_true_eq_false, not_false_eq_true, nc0, nc1, nc2, nc3, nc4, nc5, nc6, nc7, nc8, nc9, nc10, nc11, nc12, nc13, nc14, nc15, nc16, nc17, nc18, nc19, nc20, nc21, nc22, nc23, nc35, nc47, nc59, nc60, nc61, nc73, nc74, nc214, nc215, nc1115, nc2230, nc3345, if_true, if_false, Int.reduceToNat, hm.k, hm.r1, hm.r2, hm.r3, hm.r4, hm.r15, hm.r16, hm.r19, hm.r23, hm.r24, hm.r25, hm.r26, hm.r29, hm.r30, hm.r31, hm.r33, hm.r34, hm.r35, hm.k73, hm.k74, hm.k75, hm.k76, hm.k77, hm.k78, hm.k79, hm.k80, hm.k81, hm.k82, hm.k83, hm.k84, hm.k85, hm.k86, hm.k87, hm.k88, hm.k89, hm.n73, hm.n74, hm.n75, hm.n76, hm.n77, hm.n78, hm.n79, hm.n80, hm.n81, hm.n82, hm.n83, hm.n84, hm.n85, hm.n86, hm.n87, hm.n88, hm.n89, ms.2, e1, sm_stop, Int.add_zero]
  · intro i hi ih h0 h1 h U m ms vf hU
    have hm := ms.1
    have e1 : U 1 = S 1 := by rw [hU, if_neg (by omega)]
    have ei : U (61 + i) = S (61 + i) := by rw [hU, if_neg (by omega)]
    have ef := vf i.toNat (by omega)
    rw [Int.toNat_of_nonneg h0] at ef
    have er := evR_rng gd i
    have gr := gd.rg h0 (by omega)
    obtain ⟨h2, e2, k2, f2⟩ := ih (by omega) (by omega) (pI h 73 (61 + i).toNat (evR S i)) (up U (61 + i) (evR S i)) (m + b01 (¬ S (61 + i) = evR S i)) (ms.up (by omega)) (fun z hz => by rw [hI_pI, if_neg (by omega)]; exact vf z hz) (fun k => by
      by_cases c : k = 61 + i
      · rw [c, up_same, if_pos (by omega), show 61 + i - 61 = i by omega]
      · rw [up_ne c, hU]
        by_cases c2 : 61 ≤ k ∧ k < 61 + i
        · rw [if_pos c2, if_pos (by omega)]
        · rw [if_neg c2, if_neg (by omega)])
    refine ⟨h2, ?_, k2, Fr.tr (Fr.pI Fr.rf (by rfl)) f2⟩
    rw [Mod_spread_21, sm_step hi, ← Int.add_assoc]
    by_cases c : S (61 + i) = evR S i
    · have eb : b01 (¬ S (61 + i) = evR S i) = 0 := by unfold b01; rw [if_neg (fun q => q c)]
      rw [eb] at e2 ⊢
      simp (disch := omega) only [Mod_spread_31, Mod_spread_50, Mod_spread_55, Mod_spread_72, wr_id, ix_id, okx, if_pos, if_neg, Int.toNat_of_nonneg, bak_v, bak_n, wr_b01, wr_bt, b01_or, b01_0, b01_1, lc_lt0, lc_gt0, lc_eq0, wl_wr, wr_wr, wl_id, true_and, and_true, true_or, or_true, not_true_eq_false, not_false_eq_true, nc0, nc1, nc2, nc3, nc4, nc5, nc6, nc7, nc8, nc9, nc10, nc11, nc12, nc13, nc14, nc15, nc16, nc17, nc18, nc19, nc20, nc21, nc22, nc23, nc35, nc47, nc59, nc60, nc61, nc73, nc74, nc214, nc215, nc1115, nc2230, nc3345, if_true, if_false, Int.reduceToNat, hm.k, hm.r1, hm.r2, hm.r3, hm.r4, hm.r15, hm.r16, hm.r19, hm.r23, hm.r24, hm.r25, hm.r26, hm.r29, hm.r30, hm.r31, hm.r33, hm.r34, hm.r35, hm.k73, hm.k74, hm.k75, hm.k76, hm.k77, hm.k78, hm.k79, hm.k80, hm.k81, hm.k82, hm.k83, hm.k84, hm.k85, hm.k86, hm.k87, hm.k88, hm.k89, hm.n73, hm.n74, hm.n75, hm.n76, hm.n77, hm.n78, hm.n79, hm.n80, hm.n81, hm.n82, hm.n83, hm.n84, hm.n85, hm.n86, hm.n87, hm.n88, hm.n89, ms.2, e1, ei, ef]
      exact e2
    · have eb : b01 (¬ S (61 + i) = evR S i) = 1 := by unfold b01; rw [if_pos c]
      rw [eb] at e2 ⊢
      simp (disch := omega) only [Mod_spread_31, Mod_spread_54, Mod_spread_55, Mod_spread_72, wr_id, ix_id, okx, if_pos, if_neg, Int.toNat_of_nonneg, bak_v, bak_n, wr_b01, wr_bt, b01_or, b01_0, b01_1, lc_lt0, lc_gt0, lc_eq0, wl_wr, wr_wr, wl_id, true_and, and_true, true_or, or_true, not_true_eq_false, not_false_eq_true, nc0, nc1, nc2, nc3, nc4, nc5, nc6, nc7, nc8, nc9, nc10, nc11, nc12, nc13, nc14, nc15, nc16, nc17, nc18, nc19, nc20, nc21, nc22, nc23, nc35, nc47, nc59, nc60, nc61, nc73, nc74, nc214, nc215, nc1115, nc2230, nc3345, if_true, if_false, Int.reduceToNat, hm.k, hm.r1, hm.r2, hm.r3, hm.r4, hm.r15, hm.r16, hm.r19, hm.r23, hm.r24, hm.r25, hm.r26, hm.r29, hm.r30, hm.r31, hm.r33, hm.r34, hm.r35, hm.k73, hm.k74, hm.k75, hm.k76, hm.k77, hm.k78, hm.k79, hm.k80, hm.k81, hm.k82, hm.k83, hm.k84, hm.k85, hm.k86, hm.k87, hm.k88, hm.k89, hm.n73, hm.n74, hm.n75, hm.n76, hm.n77, hm.n78, hm.n79, hm.n80, hm.n81, hm.n82, hm.n83, hm.n84, hm.n85, hm.n86, hm.n87, hm.n88, hm.n89, ms.2, e1, ei, ef]
      exact e2
theorem spN_rng {S : Int → Int} (gd : Gd S) : 0 ≤ spN S ∧ spN S ≤ 12 := by
  have ga := gd.a
  have := sm_rng (f := fun z => b01 (¬ S (61 + z) = evR S z)) (N := S 1) (lo := 0) (hi := 1) (by omega) (by omega) 0 (fun j _ _ => by unfold b01; split <;> omega)
  unfold spN
  omega
theorem spN_0 {S : Int → Int} (gd : Gd S) (h : spN S = 0) : spS S = S := by
  have ga := gd.a
  funext k
  unfold spS
  split
  · rename_i c
    have := sm_z (f := fun z => b01 (¬ S (61 + z) = evR S z)) (N := S 1) 0 (fun j _ _ => by unfold b01; split <;> omega) h (k - 61) (by omega) (by omega)
    rw [b01_0] at this
    have e := Decidable.not_not.mp this
    rw [show 61 + (k - 61) = k by omega] at e
    exact e.symm
  · rfl
theorem mm_spread {d : Nat} {h : Hp} {S G T rs rm nb : Int → Int} {n fk fp : Int} (mb : MB h S G T rs rm nb n fk fp) (gd : Gd S) (tg : TG rs rm nb) (h73 : 0 ≤ S 73 ∧ S 73 ≤ 10) : ∃ h', cal (d+7) m_Mod_spread [.inr (.inr (72))] (h) = some (.inl (spN S), h') ∧ MB h' (rowSpr S) G T rs rm nb n fk fp ∧ Fr wQ h h' := by
  have ms0 : MS (pI h 72 0 0) S := mb.1.o (by omega)
  have f0 : Fr wQ h (pI h 72 0 0) := f72 (by omega)
  have hk := mb.1.1.k
  have hm := ms0.1
  have mb0 := mb.fr f0 ms0
  have ga := gd.a
  have sr := spN_rng gd
  obtain ⟨h1, e1, k1, f1⟩ := m_keeps (d := d + 5) ms0
  have ms1 := ms0.q f1 (fun k => by omega)
  have mb1 := mb0.fr (f78 f1) ms1
  obtain ⟨h2, e2, ev2, f2⟩ := m_laysEvenest (d := d) ms1 mb1.2.2.2.2.2.2 tg.2 gd
  obtain ⟨h3, e3, v3, ev3, f3⟩ := m_findsEvenest (d := d + 2) tg.2 gd ev2
  obtain ⟨h4, e4, ms4, f4⟩ := m_spread_l (d := d + 6) gd 0 (by omega) (by omega) h3 S 0 ev3.1.1.1 v3 (fun k => by rw [if_neg (by omega)])
  have k4 : KV h4 S := ((k1.fr f2 (fun k => by unfold pEv; omega)).fr f3 (fun k => by omega)).fr f4 (fun k => by omega)
  have ff4 := (f0.tr (f78 f1)).tr ((fEv f2).tr ((f3.mo (fun a k q => by unfold wQ; omega)).tr (f73 f4)))
  have hm1 := ms1.1
  have hm2 := ev2.1.1.1.1
  have hm4 := ms4.1
  rw [Int.zero_add] at e4
  have e4' : EX (d+6) m_Mod_spread 21 [(0, .inr (.inr (72))), (1, .inl (0)), (2, .inl (0))] [] (h3) = EX (d+6) m_Mod_spread 78 [(0, .inr (.inr (72))), (1, .inl (spN S))] [] (h4) := e4
  have st : EX (d+6) m_Mod_spread 0 [(0, .inr (.inr (72)))] [] (h) = EX (d+6) m_Mod_spread 78 [(0, .inr (.inr (72))), (1, .inl (spN S))] [] (h4) := by
    simp (disch := omega) only [Mod_spread_0, Mod_spread_5, Mod_spread_9, Mod_spread_13, Mod_spread_17, wr_id, ix_id, okx, if_pos, if_neg, Int.toNat_of_nonneg, bak_v, bak_n, wr_b01, wr_bt, b01_or, b01_0, b01_1, lc_lt0, lc_gt0, lc_eq0, wl_wr, wr_wr, wl_id, true_and, and_true, true_or, or_true, not_true_eq_false, not_false_eq_true, nc0, nc1, nc2, nc3, nc4, nc5, nc6, nc7, nc8, nc9, nc10, nc11, nc12, nc13, nc14, nc15, nc16, nc17, nc18, nc19, nc20, nc21, nc22, nc23, nc35, nc47, nc59, nc60, nc61, nc73, nc74, nc214, nc215, nc1115, nc2230, nc3345, if_true, if_false, Int.reduceToNat, hk, hm.k, e1, hm1.k, e2, hm2.k, e3]
    exact e4'
  unfold rowSpr
  by_cases c : 0 < spN S
  · rw [if_pos c]
    obtain ⟨h5, e5, ms5, f5⟩ := m_notes (d := d + 5) ms4 k4 (by rw [spS_ah gd 73 (by omega)]; exact h73)
    have ff5 := ff4.tr (f73 f5)
    refine ⟨h5, ?_, mb.fr ff5 ms5, ff5⟩
    refine st.trans ?_
    simp (disch := omega) only [Mod_spread_78, Mod_spread_82, Mod_spread_86, wr_id, ix_id, okx, if_pos, if_neg, Int.toNat_of_nonneg, bak_v, bak_n, wr_b01, wr_bt, b01_or, b01_0, b01_1, lc_lt0, lc_gt0, lc_eq0, wl_wr, wr_wr, wl_id, true_and, and_true, true_or, or_true, not_true_eq_false, not_false_eq_true, nc0, nc1, nc2, nc3, nc4, nc5, nc6, nc7, nc8, nc9, nc10, nc11, nc12, nc13, nc14, nc15, nc16, nc17, nc18, nc19, nc20, nc21, nc22, nc23, nc35, nc47, nc59, nc60, nc61, nc73, nc74, nc214, nc215, nc1115, nc2230, nc3345, if_true, if_false, Int.reduceToNat, hm4.k, e5]
  · rw [if_neg c]
    rw [spN_0 gd (by omega)] at ms4
    refine ⟨h4, ?_, mb.fr ff4 ms4, ff4⟩
    refine st.trans ?_
    simp (disch := omega) only [Mod_spread_78, Mod_spread_86, wr_id, ix_id, okx, if_pos, if_neg, Int.toNat_of_nonneg, bak_v, bak_n, wr_b01, wr_bt, b01_or, b01_0, b01_1, lc_lt0, lc_gt0, lc_eq0, wl_wr, wr_wr, wl_id, true_and, and_true, true_or, or_true, not_true_eq_false, not_false_eq_true, nc0, nc1, nc2, nc3, nc4, nc5, nc6, nc7, nc8, nc9, nc10, nc11, nc12, nc13, nc14, nc15, nc16, nc17, nc18, nc19, nc20, nc21, nc22, nc23, nc35, nc47, nc59, nc60, nc61, nc73, nc74, nc214, nc215, nc1115, nc2230, nc3345, if_true, if_false, Int.reduceToNat]
