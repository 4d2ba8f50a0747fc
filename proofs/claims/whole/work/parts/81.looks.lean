/-! looks: pure, the model -/
def mxx (a b : Int) : Int := if b < a then a else b
def lkF (c : Int → Int) : Nat → Int → Int → Int
  | 0, _, _ => 0
  | f + 1, i, j => if j ≤ i then 0 else fo (fun k m => mn1 (c k + mxx (lkF c f i k) (lkF c f (k + 1) j)) m) i j (-1)
theorem lkF_0 {c : Int → Int} (f : Nat) {i j : Int} (h : j ≤ i) : lkF c f i j = 0 := by
  cases f with
  | zero => rfl
  | succ f => simp only [lkF]; rw [if_pos h]
theorem lkF_m {c : Int → Int} : ∀ (f f' : Nat) (i j : Int), j - i ≤ f → j - i ≤ f' → lkF c f i j = lkF c f' i j := by
  intro f
  induction f with
  | zero => intro f' i j h1 h2; rw [lkF_0 0 (by omega), lkF_0 f' (by omega)]
  | succ f ih =>
    intro f' i j h1 h2
    cases f' with
    | zero => rw [lkF_0 0 (by omega), lkF_0 (f + 1) (by omega)]
    | succ f' =>
      simp only [lkF]
      by_cases q : j ≤ i
      · rw [if_pos q, if_pos q]
      · rw [if_neg q, if_neg q]
        refine fo_congr i (fun k m k1 k2 => ?_) (-1)
        rw [ih f' i k (by omega) (by omega), ih f' (k + 1) j (by omega) (by omega)]
/-- the worst with places i to j -/
def LK (c : Int → Int) (i j : Int) : Int := lkF c (j - i).toNat i j
def lkP (c : Int → Int) (i j k : Int) : Int := c k + mxx (LK c i k) (LK c (k + 1) j)
theorem LK_0 {c : Int → Int} {i j : Int} (h : j ≤ i) : LK c i j = 0 := lkF_0 _ h
theorem LK_s {c : Int → Int} {i j : Int} (h : i < j) : LK c i j = fo (fun k m => mn1 (lkP c i j k) m) i j (-1) := by
  unfold LK
  rw [show (j - i).toNat = (j - i).toNat - 1 + 1 by omega]
  simp only [lkF]
  rw [if_neg (by omega)]
  refine fo_congr i (fun k m k1 k2 => ?_) (-1)
  unfold lkP LK
  rw [lkF_m ((j - i).toNat - 1) (k - i).toNat i k (by omega) (by omega), lkF_m ((j - i).toNat - 1) (j - (k + 1)).toNat (k + 1) j (by omega) (by omega)]
theorem lkF_rng {c : Int → Int} {N : Int} (hc : ∀ k, 0 ≤ k → k < N → 0 ≤ c k ∧ c k ≤ 999) : ∀ (f : Nat) (i j : Int), 0 ≤ i → j ≤ N → 0 ≤ lkF c f i j ∧ lkF c f i j ≤ 999 * f := by
  intro f
  induction f with
  | zero => intro i j _ _; simp only [lkF]; omega
  | succ f ih =>
    intro i j h0 h1
    simp only [lkF]
    split
    · omega
    · rename_i q
      have pr : ∀ k, i ≤ k → k < j → 0 ≤ c k + mxx (lkF c f i k) (lkF c f (k + 1) j) ∧ c k + mxx (lkF c f i k) (lkF c f (k + 1) j) ≤ 999 * ((f + 1 : Nat) : Int) := fun k k1 k2 => by
        have a := ih i k h0 (by omega)
        have b := ih (k + 1) j (by omega) h1
        have cc := hc k (by omega) (by omega)
        unfold mxx
        split <;> omega
      have a := fo_inv (F := fun k m => mn1 (c k + mxx (lkF c f i k) (lkF c f (k + 1) j)) m) (N := j) (P := fun m => -1 ≤ m ∧ m ≤ 999 * ((f + 1 : Nat) : Int)) i (fun k m k1 k2 hm => by
        have := pr k k1 k2
        unfold mn1
        split <;> omega) (-1) (by omega)
      have b := mo_ne (f := fun k => c k + mxx (lkF c f i k) (lkF c f (k + 1) j)) (N := j) i (-1) (Or.inr ⟨i, by omega, by omega, by have := pr i (by omega) (by omega); omega⟩)
      omega
theorem LK_rng {c : Int → Int} {N : Int} (hc : ∀ k, 0 ≤ k → k < N → 0 ≤ c k ∧ c k ≤ 999) (hN : N ≤ 20) {i j : Int} (h0 : 0 ≤ i) (h1 : j ≤ N) : 0 ≤ LK c i j ∧ LK c i j ≤ 19980 := by
  have := lkF_rng hc (j - i).toNat i j h0 h1
  unfold LK
  omega
theorem lkP_rng {c : Int → Int} {N : Int} (hc : ∀ k, 0 ≤ k → k < N → 0 ≤ c k ∧ c k ≤ 999) (hN : N ≤ 20) {i j k : Int} (h0 : 0 ≤ i) (h1 : j ≤ N) (hk : i ≤ k ∧ k < j) : 0 ≤ lkP c i j k ∧ lkP c i j k ≤ 20979 := by
  have a := LK_rng hc hN (i := i) (j := k) h0 (by omega)
  have b := LK_rng hc hN (i := k + 1) (j := j) (by omega) h1
  have cc := hc k (by omega) (by omega)
  unfold lkP mxx
  split <;> omega
theorem LK_att {c : Int → Int} {i j : Int} (h : i < j) (hn : ¬ LK c i j = -1) : ∃ k, i ≤ k ∧ k < j ∧ lkP c i j k = LK c i j := by
  have e := LK_s (c := c) h
  rcases mo_att (f := lkP c i j) (N := j) i (-1) with q | ⟨k, a, b, q, _⟩
  · exact absurd (e.trans q) hn
  · exact ⟨k, a, b, q.trans e.symm⟩
/-- cost of a look -/
def lkC (nb : Int → Int) (t u : Int) : Int → Int := fun k => if u = 0 then nb (40 * t + k) else 1
/-- the model's table -/
def lkV (h : Hp) (c : Int → Int) (i j : Int) : Prop := hI h 84 (21 * i + j).toNat = LK c i j
theorem m_lookAt {d : Nat} {h : Hp} {rs rm nb : Int → Int} (hm : MR h) (mt : MT h rs rm nb) {t u N : Int} (ht : 0 ≤ t ∧ t < 4) (hN : N ≤ 20) (hc : ∀ k, 0 ≤ k → k < N → 0 ≤ lkC nb t u k ∧ lkC nb t u k ≤ 999) {i k j : Int} (hi : 0 ≤ i ∧ i ≤ k) (hk : k < j ∧ j ≤ N) (hu : u = 0 ∨ u = 1) (v1 : lkV h (lkC nb t u) i k) (v2 : lkV h (lkC nb t u) (k + 1) j) : cal (d+2) m_Mod_lookAt [.inr (.inr (72)), .inl (t), .inl (i), .inl (k), .inl (j), .inl (u)] (h) = some (.inl (lkP (lkC nb t u) i j k), h) := by
  have a := LK_rng hc hN (i := i) (j := k) hi.1 (by omega)
  have b := LK_rng hc hN (i := k + 1) (j := j) (by omega) hk.2
  have cc := hc k (by omega) (by omega)
  have m3 := mt.2.2 (40 * t + k).toNat
  rw [show ((40 * t + k).toNat : Int) = 40 * t + k by omega] at m3
  unfold lkV at v1 v2
  have e21 : cal (d+2) m_Mod_lookAt [.inr (.inr (72)), .inl (t), .inl (i), .inl (k), .inl (j), .inl (u)] (h) = EX (d+1) m_Mod_lookAt 21 [(0, .inr (.inr (72))), (2, .inl (i)), (3, .inl (k)), (4, .inl (j))] [.inl (lkC nb t u k)] (h) := by
    show EX (d+1) m_Mod_lookAt 0 [(0, .inr (.inr (72))), (1, .inl (t)), (2, .inl (i)), (3, .inl (k)), (4, .inl (j)), (5, .inl (u))] [] (h) = _
    unfold lkC
    rcases hu with e | e <;> subst e
    · rw [if_pos (show (0 : Int) = 0 from rfl)]
      simp (disch := omega) only [Mod_lookAt_0, Mod_lookAt_9, wr_id, ix_id, okx, if_pos, if_neg, Int.toNat_of_nonneg, bak_v, bak_n, wr_b01, wr_bt, b01_or, b01_0, b01_1, lc_lt0, lc_gt0, lc_eq0, wl_wr, wr_wr, wl_id, true_and, and_true, true_or, or_true, not_true_eq_false, not_false_eq_true, nc0, nc1, nc2, nc3, nc4, nc5, nc6, nc7, nc8, nc9, nc10, nc11, nc12, nc13, nc14, nc15, nc16, nc17, nc18, nc19, nc20, nc21, nc22, nc23, nc35, nc47, nc59, nc60, nc61, nc73, nc74, nc214, nc215, nc1115, nc2230, nc3345, if_true, if_false, Int.reduceToNat, hm.k, hm.r1, hm.r2, hm.r3, hm.r4, hm.r15, hm.r16, hm.r19, hm.r23, hm.r24, hm.r25, hm.r26, hm.r29, hm.r30, hm.r31, hm.r33, hm.r34, hm.r35, hm.k73, hm.k74, hm.k75, hm.k76, hm.k77, hm.k78, hm.k79, hm.k80, hm.k81, hm.k82, hm.k83, hm.k84, hm.k85, hm.k86, hm.k87, hm.k88, hm.k89, hm.n73, hm.n74, hm.n75, hm.n76, hm.n77, hm.n78, hm.n79, hm.n80, hm.n81, hm.n82, hm.n83, hm.n84, hm.n85, hm.n86, hm.n87, hm.n88, hm.n89, m3]
    · rw [if_neg (show ¬ (1 : Int) = 0 by omega)]
      simp (disch := omega) only [Mod_lookAt_0, Mod_lookAt_5, wr_id, ix_id, okx, if_pos, if_neg, Int.toNat_of_nonneg, bak_v, bak_n, wr_b01, wr_bt, b01_or, b01_0, b01_1, lc_lt0, lc_gt0, lc_eq0, wl_wr, wr_wr, wl_id, true_and, and_true, true_or, or_true, not_true_eq_false, not_false_eq_true, nc0, nc1, nc2, nc3, nc4, nc5, nc6, nc7, nc8, nc9, nc10, nc11, nc12, nc13, nc14, nc15, nc16, nc17, nc18, nc19, nc20, nc21, nc22, nc23, nc35, nc47, nc59, nc60, nc61, nc73, nc74, nc214, nc215, nc1115, nc2230, nc3345, if_true, if_false, Int.reduceToNat, hm.k, hm.r1, hm.r2, hm.r3, hm.r4, hm.r15, hm.r16, hm.r19, hm.r23, hm.r24, hm.r25, hm.r26, hm.r29, hm.r30, hm.r31, hm.r33, hm.r34, hm.r35, hm.k73, hm.k74, hm.k75, hm.k76, hm.k77, hm.k78, hm.k79, hm.k80, hm.k81, hm.k82, hm.k83, hm.k84, hm.k85, hm.k86, hm.k87, hm.k88, hm.k89, hm.n73, hm.n74, hm.n75, hm.n76, hm.n77, hm.n78, hm.n79, hm.n80, hm.n81, hm.n82, hm.n83, hm.n84, hm.n85, hm.n86, hm.n87, hm.n88, hm.n89]
  refine e21.trans ?_
  simp (disch := omega) only [Mod_lookAt_21, Mod_lookAt_49, wr_id, ix_id, okx, if_pos, if_neg, Int.toNat_of_nonneg, bak_v, bak_n, wr_b01, wr_bt, b01_or, b01_0, b01_1, lc_lt0, lc_gt0, lc_eq0, wl_wr, wr_wr, wl_id, true_and, and_true, true_or, or_true, not_true_eq_false, not_false_eq_true, nc0, nc1, nc2, nc3, nc4, nc5, nc6, nc7, nc8, nc9, nc10, nc11, nc12, nc13, nc14, nc15, nc16, nc17, nc18, nc19, nc20, nc21, nc22, nc23, nc35, nc47, nc59, nc60, nc61, nc73, nc74, nc214, nc215, nc1115, nc2230, nc3345, if_true, if_false, Int.reduceToNat, hm.k, hm.r1, hm.r2, hm.r3, hm.r4, hm.r15, hm.r16, hm.r19, hm.r23, hm.r24, hm.r25, hm.r26, hm.r29, hm.r30, hm.r31, hm.r33, hm.r34, hm.r35, hm.k73, hm.k74, hm.k75, hm.k76, hm.k77, hm.k78, hm.k79, hm.k80, hm.k81, hm.k82, hm.k83, hm.k84, hm.k85, hm.k86, hm.k87, hm.k88, hm.k89, hm.n73, hm.n74, hm.n75, hm.n76, hm.n77, hm.n78, hm.n79, hm.n80, hm.n81, hm.n82, hm.n83, hm.n84, hm.n85, hm.n86, hm.n87, hm.n88, hm.n89, v1, v2, m_worse]
  rfl
def p84 (a _k : Nat) : Prop := a = 84
theorem m_lk_1 {d : Nat} {h : Hp} {rs rm nb : Int → Int} (hm : MR h) (mt : MT h rs rm nb) {t u N : Int} (ht : 0 ≤ t ∧ t < 4) (hN : N ≤ 20) (hc : ∀ k, 0 ≤ k → k < N → 0 ≤ lkC nb t u k ∧ lkC nb t u k ≤ 999) (hu : u = 0 ∨ u = 1) {l i : Int} (hi : 0 ≤ i) (hl : 0 ≤ l ∧ i + l ≤ N) (tb : ∀ i j, 0 ≤ i → i ≤ j → j ≤ N → j - i < l → lkV h (lkC nb t u) i j) : ∀ k, i ≤ k → k ≤ 20 → ∀ m, (-1 ≤ m ∧ m ≤ 1000000) → EX (d+2) m_Mod_laysLooks 44 [(0, .inr (.inr (72))), (1, .inl (t)), (2, .inl (u)), (3, .inl (N)), (4, .inl (l)), (5, .inl (i)), (6, .inl (m)), (7, .inl (k))] [] (h) = EX (d+2) m_Mod_laysLooks 99 [(0, .inr (.inr (72))), (1, .inl (t)), (2, .inl (u)), (3, .inl (N)), (4, .inl (l)), (5, .inl (i)), (6, .inl (fo (fun k m => mn1 (lkP (lkC nb t u) i (i + l) k) m) k (i + l) m))] [] (h) := by
  refine up_ind (hi := i + l) ?_ ?_
  · intro k hk h0 h1 m hm0
    rw [Mod_laysLooks_44, fo_stop hk]
    simp (disch := omega) only [wr_id, ix_id, okx, if_pos, if_neg, Int.toNat_of_nonneg, bak_v, bak_n, wr_b01, wr_bt, b01_or, b01_0, b01_1, lc_lt0, lc_gt0, lc_eq0, wl_wr, wr_wr, wl_id, true_and, and_true, true_or, or_true, not_true_eq_false, not_false_eq_true, nc0, nc1, nc2, nc3, nc4, nc5, nc6, nc7, nc8, nc9, nc10, nc11, nc12, nc13, nc14, nc15, nc16, nc17, nc18, nc19, nc20, nc21, nc22, nc23, nc35, nc47, nc59, nc60, nc61, nc73, nc74, nc214, nc215, nc1115, nc2230, nc3345, if_true, if_false, Int.reduceToNat]
  · intro k hk ih h0 h1 m hm0
    have pr := lkP_rng hc hN (i := i) (j := i + l) (k := k) hi hl.2 ⟨h0, hk⟩
    have e := m_lookAt (d := d) hm mt ht hN hc (i := i) (k := k) (j := i + l) ⟨hi, h0⟩ ⟨hk, hl.2⟩ hu (tb i k hi h0 (by omega) (by omega)) (tb (k + 1) (i + l) (by omega) (by omega) hl.2 (by omega))
    rw [Mod_laysLooks_44, fo_step hk]
    have em : mn1 (lkP (lkC nb t u) i (i + l) k) m = if m = -1 ∨ lkP (lkC nb t u) i (i + l) k < m then lkP (lkC nb t u) i (i + l) k else m := by
      unfold mn1
      repeat' split
      all_goals omega
    rw [em]
    generalize lkP (lkC nb t u) i (i + l) k = v at *
    by_cases c1 : m = -1
    · rw [if_pos (show m = -1 ∨ v < m from Or.inl c1)]
      simp (disch := omega) only [Mod_laysLooks_54, Mod_laysLooks_69, Mod_laysLooks_84, Mod_laysLooks_91, wr_id, ix_id, okx, if_pos, if_neg, Int.toNat_of_nonneg, bak_v, bak_n, wr_b01, wr_bt, b01_or, b01_0, b01_1, lc_lt0, lc_gt0, lc_eq0, wl_wr, wr_wr, wl_id, true_and, and_true, true_or, or_true, not_true_eq_false, not_false_eq_true, nc0, nc1, nc2, nc3, nc4, nc5, nc6, nc7, nc8, nc9, nc10, nc11, nc12, nc13, nc14, nc15, nc16, nc17, nc18, nc19, nc20, nc21, nc22, nc23, nc35, nc47, nc59, nc60, nc61, nc73, nc74, nc214, nc215, nc1115, nc2230, nc3345, if_true, if_false, Int.reduceToNat, hm.k, hm.r1, hm.r2, hm.r3, hm.r4, hm.r15, hm.r16, hm.r19, hm.r23, hm.r24, hm.r25, hm.r26, hm.r29, hm.r30, hm.r31, hm.r33, hm.r34, hm.r35, hm.k73, hm.k74, hm.k75, hm.k76, hm.k77, hm.k78, hm.k79, hm.k80, hm.k81, hm.k82, hm.k83, hm.k84, hm.k85, hm.k86, hm.k87, hm.k88, hm.k89, hm.n73, hm.n74, hm.n75, hm.n76, hm.n77, hm.n78, hm.n79, hm.n80, hm.n81, hm.n82, hm.n83, hm.n84, hm.n85, hm.n86, hm.n87, hm.n88, hm.n89, e]
      exact ih (by omega) (by omega) _ (by omega)
    · by_cases c2 : v < m
      · rw [if_pos (show m = -1 ∨ v < m from Or.inr c2)]
        simp (disch := omega) only [Mod_laysLooks_54, Mod_laysLooks_69, Mod_laysLooks_77, Mod_laysLooks_84, Mod_laysLooks_91, wr_id, ix_id, okx, if_pos, if_neg, Int.toNat_of_nonneg, bak_v, bak_n, wr_b01, wr_bt, b01_or, b01_0, b01_1, lc_lt0, lc_gt0, lc_eq0, wl_wr, wr_wr, wl_id, true_and, and_true, true_or, or_true, not_true_eq_false, not_false_eq_true, nc0, nc1, nc2, nc3, nc4, nc5, nc6, nc7, nc8, nc9, nc10, nc11, nc12, nc13, nc14, nc15, nc16, nc17, nc18, nc19, nc20, nc21, nc22, nc23, nc35, nc47, nc59, nc60, nc61, nc73, nc74, nc214, nc215, nc1115, nc2230, nc3345, if_true, if_false, Int.reduceToNat, hm.k, hm.r1, hm.r2, hm.r3, hm.r4, hm.r15, hm.r16, hm.r19, hm.r23, hm.r24, hm.r25, hm.r26, hm.r29, hm.r30, hm.r31, hm.r33, hm.r34, hm.r35, hm.k73, hm.k74, hm.k75, hm.k76, hm.k77, hm.k78, hm.k79, hm.k80, hm.k81, hm.k82, hm.k83, hm.k84, hm.k85, hm.k86, hm.k87, hm.k88, hm.k89, hm.n73, hm.n74, hm.n75, hm.n76, hm.n77, hm.n78, hm.n79, hm.n80, hm.n81, hm.n82, hm.n83, hm.n84, hm.n85, hm.n86, hm.n87, hm.n88, hm.n89, e]
        exact ih (by omega) (by omega) _ (by omega)
      · rw [if_neg (show ¬ (m = -1 ∨ v < m) by omega)]
        simp (disch := omega) only [Mod_laysLooks_54, Mod_laysLooks_69, Mod_laysLooks_77, Mod_laysLooks_89, Mod_laysLooks_91, wr_id, ix_id, okx, if_pos, if_neg, Int.toNat_of_nonneg, bak_v, bak_n, wr_b01, wr_bt, b01_or, b01_0, b01_1, lc_lt0, lc_gt0, lc_eq0, wl_wr, wr_wr, wl_id, true_and, and_true, true_or, or_true, not_true_eq_false, not_false_eq_true, nc0, nc1, nc2, nc3, nc4, nc5, nc6, nc7, nc8, nc9, nc10, nc11, nc12, nc13, nc14, nc15, nc16, nc17, nc18, nc19, nc20, nc21, nc22, nc23, nc35, nc47, nc59, nc60, nc61, nc73, nc74, nc214, nc215, nc1115, nc2230, nc3345, if_true, if_false, Int.reduceToNat, hm.k, hm.r1, hm.r2, hm.r3, hm.r4, hm.r15, hm.r16, hm.r19, hm.r23, hm.r24, hm.r25, hm.r26, hm.r29, hm.r30, hm.r31, hm.r33, hm.r34, hm.r35, hm.k73, hm.k74, hm.k75, hm.k76, hm.k77, hm.k78, hm.k79, hm.k80, hm.k81, hm.k82, hm.k83, hm.k84, hm.k85, hm.k86, hm.k87, hm.k88, hm.k89, hm.n73, hm.n74, hm.n75, hm.n76, hm.n77, hm.n78, hm.n79, hm.n80, hm.n81, hm.n82, hm.n83, hm.n84, hm.n85, hm.n86, hm.n87, hm.n88, hm.n89, e]
        exact ih (by omega) (by omega) _ (by omega)
theorem m_lk_2 {d : Nat} {rs rm nb : Int → Int} {t u N : Int} (ht : 0 ≤ t ∧ t < 4) (hN : 0 ≤ N ∧ N ≤ 20) (hc : ∀ k, 0 ≤ k → k < N → 0 ≤ lkC nb t u k ∧ lkC nb t u k ≤ 999) (hu : u = 0 ∨ u = 1) {l : Int} (hl : 0 ≤ l ∧ l ≤ N) : ∀ i, 0 ≤ i → i ≤ 21 → ∀ h, MR h → MT h rs rm nb → (∀ i j, 0 ≤ i → i ≤ j → j ≤ N → j - i < l → lkV h (lkC nb t u) i j) → (∀ z, 0 ≤ z → z < i → z + l ≤ N → lkV h (lkC nb t u) z (z + l)) → ∃ h', EX (d+2) m_Mod_laysLooks 19 [(0, .inr (.inr (72))), (1, .inl (t)), (2, .inl (u)), (3, .inl (N)), (4, .inl (l)), (5, .inl (i))] [] (h) = EX (d+2) m_Mod_laysLooks 123 [(0, .inr (.inr (72))), (1, .inl (t)), (2, .inl (u)), (3, .inl (N)), (4, .inl (l))] [] (h') ∧ (∀ i j, 0 ≤ i → i ≤ j → j ≤ N → j - i < l + 1 → lkV h' (lkC nb t u) i j) ∧ Fr p84 h h' := by
  refine up_ind (hi := N - l + 1) ?_ ?_
  · intro i hi h0 h1 h hm mt tb tl
    refine ⟨h, ?_, fun z j z0 z1 z2 z3 => ?_, Fr.rf⟩
    · rw [Mod_laysLooks_19]
      simp (disch := omega) only [wr_id, ix_id, okx, if_pos, if_neg, Int.toNat_of_nonneg, bak_v, bak_n, wr_b01, wr_bt, b01_or, b01_0, b01_1, lc_lt0, lc_gt0, lc_eq0, wl_wr, wr_wr, wl_id, true_and, and_true, true_or, or_true, not_true_eq_false, not_false_eq_true, nc0, nc1, nc2, nc3, nc4, nc5, nc6, nc7, nc8, nc9, nc10, nc11, nc12, nc13, nc14, nc15, nc16, nc17, nc18, nc19, nc20, nc21, nc22, nc23, nc35, nc47, nc59, nc60, nc61, nc73, nc74, nc214, nc215, nc1115, nc2230, nc3345, if_true, if_false, Int.reduceToNat]
    · by_cases c : j - z < l
      · exact tb z j z0 z1 z2 c
      · rw [show j = z + l by omega]; exact tl z z0 (by omega) (by omega)
  · intro i hi ih h0 h1 h hm mt tb tl
    have lr := LK_rng hc hN.2 (i := i) (j := i + l) h0 (by omega)
    have f0 : Fr p84 h (pI h 84 (21 * i + i + l).toNat (LK (lkC nb t u) i (i + l))) := Fr.pI Fr.rf (by rfl)
    obtain ⟨h2, e2, k2, f2⟩ := ih (by omega) (by omega) _ (hm.fr f0) (mt.fr f0 (fun a k q1 q2 => by unfold p84; omega)) (fun z j z0 z1 z2 z3 => by
      unfold lkV
      rw [hI_pI, if_neg (by omega)]
      exact tb z j z0 z1 z2 z3) (fun z z0 z1 z2 => by
      unfold lkV
      rw [hI_pI]
      by_cases c : z = i
      · subst c
        rw [if_pos ⟨rfl, by congr 1; omega⟩]
      · rw [if_neg (by omega)]
        exact tl z z0 (by omega) z2)
    refine ⟨h2, ?_, k2, f0.tr f2⟩
    have e99 : EX (d+2) m_Mod_laysLooks 99 [(0, .inr (.inr (72))), (1, .inl (t)), (2, .inl (u)), (3, .inl (N)), (4, .inl (l)), (5, .inl (i)), (6, .inl (LK (lkC nb t u) i (i + l)))] [] (h) = EX (d+2) m_Mod_laysLooks 123 [(0, .inr (.inr (72))), (1, .inl (t)), (2, .inl (u)), (3, .inl (N)), (4, .inl (l))] [] (h2) := by
      simp (disch := omega) only [Mod_laysLooks_99, Mod_laysLooks_117, wr_id, ix_id, okx, if_pos, if_neg, Int.toNat_of_nonneg, bak_v, bak_n, wr_b01, wr_bt, b01_or, b01_0, b01_1, lc_lt0, lc_gt0, lc_eq0, wl_wr, wr_wr, wl_id, true_and, and_true, true_or, or_true, not_true_eq_false, not_false_eq_true, nc0, nc1, nc2, nc3, nc4, nc5, nc6, nc7, nc8, nc9, nc10, nc11, nc12, nc13, nc14, nc15, nc16, nc17, nc18, nc19, nc20, nc21, nc22, nc23, nc35, nc47, nc59, nc60, nc61, nc73, nc74, nc214, nc215, nc1115, nc2230, nc3345, if_true, if_false, Int.reduceToNat, hm.k, hm.r1, hm.r2, hm.r3, hm.r4, hm.r15, hm.r16, hm.r19, hm.r23, hm.r24, hm.r25, hm.r26, hm.r29, hm.r30, hm.r31, hm.r33, hm.r34, hm.r35, hm.k73, hm.k74, hm.k75, hm.k76, hm.k77, hm.k78, hm.k79, hm.k80, hm.k81, hm.k82, hm.k83, hm.k84, hm.k85, hm.k86, hm.k87, hm.k88, hm.k89, hm.n73, hm.n74, hm.n75, hm.n76, hm.n77, hm.n78, hm.n79, hm.n80, hm.n81, hm.n82, hm.n83, hm.n84, hm.n85, hm.n86, hm.n87, hm.n88, hm.n89]
      exact e2
    rw [Mod_laysLooks_19]
    by_cases c : l = 0
    · subst c
      simp (disch := omega) only [Mod_laysLooks_28, Mod_laysLooks_33, Mod_laysLooks_38, wr_id, ix_id, okx, if_pos, if_neg, Int.toNat_of_nonneg, bak_v, bak_n, wr_b01, wr_bt, b01_or, b01_0, b01_1, lc_lt0, lc_gt0, lc_eq0, wl_wr, wr_wr, wl_id, true_and, and_true, true_or, or_true, not_true_eq_false, not_false_eq_true, nc0, nc1, nc2, nc3, nc4, nc5, nc6, nc7, nc8, nc9, nc10, nc11, nc12, nc13, nc14, nc15, nc16, nc17, nc18, nc19, nc20, nc21, nc22, nc23, nc35, nc47, nc59, nc60, nc61, nc73, nc74, nc214, nc215, nc1115, nc2230, nc3345, if_true, if_false, Int.reduceToNat]
      rw [Mod_laysLooks_44]
      rw [LK_0 (c := lkC nb t u) (i := i) (j := i + 0) (by omega)] at e99
      simp (disch := omega) only [wr_id, ix_id, okx, if_pos, if_neg, Int.toNat_of_nonneg, bak_v, bak_n, wr_b01, wr_bt, b01_or, b01_0, b01_1, lc_lt0, lc_gt0, lc_eq0, wl_wr, wr_wr, wl_id, true_and, and_true, true_or, or_true, not_true_eq_false, not_false_eq_true, nc0, nc1, nc2, nc3, nc4, nc5, nc6, nc7, nc8, nc9, nc10, nc11, nc12, nc13, nc14, nc15, nc16, nc17, nc18, nc19, nc20, nc21, nc22, nc23, nc35, nc47, nc59, nc60, nc61, nc73, nc74, nc214, nc215, nc1115, nc2230, nc3345, if_true, if_false, Int.reduceToNat]
      exact e99
    · simp (disch := omega) only [Mod_laysLooks_28, Mod_laysLooks_37, Mod_laysLooks_38, wr_id, ix_id, okx, if_pos, if_neg, Int.toNat_of_nonneg, bak_v, bak_n, wr_b01, wr_bt, b01_or, b01_0, b01_1, lc_lt0, lc_gt0, lc_eq0, wl_wr, wr_wr, wl_id, true_and, and_true, true_or, or_true, not_true_eq_false, not_false_eq_true, nc0, nc1, nc2, nc3, nc4, nc5, nc6, nc7, nc8, nc9, nc10, nc11, nc12, nc13, nc14, nc15, nc16, nc17, nc18, nc19, nc20, nc21, nc22, nc23, nc35, nc47, nc59, nc60, nc61, nc73, nc74, nc214, nc215, nc1115, nc2230, nc3345, if_true, if_false, Int.reduceToNat]
      refine (m_lk_1 (d := d) hm mt ht hN.2 hc hu (l := l) (i := i) h0 (by omega) tb i (by omega) (by omega) (-1) (by omega)).trans ?_
      rw [← LK_s (c := lkC nb t u) (i := i) (j := i + l) (by omega)]
      exact e99
theorem m_lk_3 {d : Nat} {rs rm nb : Int → Int} {t u N : Int} (ht : 0 ≤ t ∧ t < 4) (hN : 0 ≤ N ∧ N ≤ 20) (hc : ∀ k, 0 ≤ k → k < N → 0 ≤ lkC nb t u k ∧ lkC nb t u k ≤ 999) (hu : u = 0 ∨ u = 1) : ∀ l, 0 ≤ l → l ≤ 21 → ∀ h, MR h → MT h rs rm nb → (∀ i j, 0 ≤ i → i ≤ j → j ≤ N → j - i < l → lkV h (lkC nb t u) i j) → ∃ h', EX (d+2) m_Mod_laysLooks 10 [(0, .inr (.inr (72))), (1, .inl (t)), (2, .inl (u)), (3, .inl (N)), (4, .inl (l))] [] (h) = some (.inl 0, h') ∧ (∀ i j, 0 ≤ i → i ≤ j → j ≤ N → lkV h' (lkC nb t u) i j) ∧ Fr p84 h h' := by
  refine up_ind (hi := N + 1) ?_ ?_
  · intro l hl h0 h1 h hm mt tb
    refine ⟨h, ?_, fun i j i0 i1 i2 => tb i j i0 i1 i2 (by omega), Fr.rf⟩
    rw [Mod_laysLooks_10]
    simp (disch := omega) only [Mod_laysLooks_129, wr_id, ix_id, okx, if_pos, if_neg, Int.toNat_of_nonneg, bak_v, bak_n, wr_b01, wr_bt, b01_or, b01_0, b01_1, lc_lt0, lc_gt0, lc_eq0, wl_wr, wr_wr, wl_id, true_and, and_true, true_or, or_true, not_true_eq_false, not_false_eq_true, nc0, nc1, nc2, nc3, nc4, nc5, nc6, nc7, nc8, nc9, nc10, nc11, nc12, nc13, nc14, nc15, nc16, nc17, nc18, nc19, nc20, nc21, nc22, nc23, nc35, nc47, nc59, nc60, nc61, nc73, nc74, nc214, nc215, nc1115, nc2230, nc3345, if_true, if_false, Int.reduceToNat]
  · intro l hl ih h0 h1 h hm mt tb
    obtain ⟨h1', e1, k1, f1⟩ := m_lk_2 (d := d) (rs := rs) (rm := rm) ht hN hc hu (l := l) (by omega) 0 (by omega) (by omega) h hm mt tb (fun z z0 z1 _ => by omega)
    obtain ⟨h2, e2, k2, f2⟩ := ih (by omega) (by omega) h1' (hm.fr f1) (mt.fr f1 (fun a k q1 q2 => by unfold p84; omega)) k1
    refine ⟨h2, ?_, k2, f1.tr f2⟩
    rw [Mod_laysLooks_10]
    simp (disch := omega) only [Mod_laysLooks_16, wr_id, ix_id, okx, if_pos, if_neg, Int.toNat_of_nonneg, bak_v, bak_n, wr_b01, wr_bt, b01_or, b01_0, b01_1, lc_lt0, lc_gt0, lc_eq0, wl_wr, wr_wr, wl_id, true_and, and_true, true_or, or_true, not_true_eq_false, not_false_eq_true, nc0, nc1, nc2, nc3, nc4, nc5, nc6, nc7, nc8, nc9, nc10, nc11, nc12, nc13, nc14, nc15, nc16, nc17, nc18, nc19, nc20, nc21, nc22, nc23, nc35, nc47, nc59, nc60, nc61, nc73, nc74, nc214, nc215, nc1115, nc2230, nc3345, if_true, if_false, Int.reduceToNat]
    refine e1.trans ?_
    rw [Mod_laysLooks_123]
    exact e2
theorem m_laysLooks {d : Nat} {h : Hp} {rs rm nb : Int → Int} (hm : MR h) (mt : MT h rs rm nb) {t u : Int} (ht : 0 ≤ t ∧ t < 4) (hN : 0 ≤ rm t ∧ rm t ≤ 20) (hc : ∀ k, 0 ≤ k → k < rm t → 0 ≤ lkC nb t u k ∧ lkC nb t u k ≤ 999) (hu : u = 0 ∨ u = 1) : ∃ h', cal (d+3) m_Mod_laysLooks [.inr (.inr (72)), .inl (t), .inl (u)] (h) = some (.inl 0, h') ∧ (∀ i j, 0 ≤ i → i ≤ j → j ≤ rm t → lkV h' (lkC nb t u) i j) ∧ Fr p84 h h' := by
  obtain ⟨h', e, k, f⟩ := m_lk_3 (d := d) (rs := rs) (rm := rm) ht hN hc hu 0 (by omega) (by omega) h hm mt (fun i j _ _ _ _ => by omega)
  refine ⟨h', ?_, k, f⟩
  have m2 := mt.2.1 t.toNat
  rw [show (t.toNat : Int) = t by omega] at m2
  show EX (d+2) m_Mod_laysLooks 0 [(0, .inr (.inr (72))), (1, .inl (t)), (2, .inl (u))] [] (h) = _
  simp (disch := omega) only [Mod_laysLooks_0, wr_id, ix_id, okx, if_pos, if_neg, Int.toNat_of_nonneg, bak_v, bak_n, wr_b01, wr_bt, b01_or, b01_0, b01_1, lc_lt0, lc_gt0, lc_eq0, wl_wr, wr_wr, wl_id, true_and, and_true, true_or, or_true, not_true_eq_false, not_false_eq_true, nc0, nc1, nc2, nc3, nc4, nc5, nc6, nc7, nc8, nc9, nc10, nc11, nc12, nc13, nc14, nc15, nc16, nc17, nc18, nc19, nc20, nc21, nc22, nc23, nc35, nc47, nc59, nc60, nc61, nc73, nc74, nc214, nc215, nc1115, nc2230, nc3345, if_true, if_false, Int.reduceToNat, hm.k, hm.r1, hm.r2, hm.r3, hm.r4, hm.r15, hm.r16, hm.r19, hm.r23, hm.r24, hm.r25, hm.r26, hm.r29, hm.r30, hm.r31, hm.r33, hm.r34, hm.r35, hm.k73, hm.k74, hm.k75, hm.k76, hm.k77, hm.k78, hm.k79, hm.k80, hm.k81, hm.k82, hm.k83, hm.k84, hm.k85, hm.k86, hm.k87, hm.k88, hm.k89, hm.n73, hm.n74, hm.n75, hm.n76, hm.n77, hm.n78, hm.n79, hm.n80, hm.n81, hm.n82, hm.n83, hm.n84, hm.n85, hm.n86, hm.n87, hm.n88, hm.n89, m2]
  exact e
