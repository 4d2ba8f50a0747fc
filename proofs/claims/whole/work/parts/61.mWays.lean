/-! the model: laysWays -/
/-- slots of the row of hook x at ring r -/
def pRw (x r : Int) (a k : Nat) : Prop := a = 79 ∧ 169 * (x + 1) + 13 * (r + 1) ≤ (k : Int) ∧ (k : Int) < 169 * (x + 1) + 13 * (r + 1) + 13
/-- the row of hook x at ring r holds acc -/
def rowV (h : Hp) (x r : Int) (acc : Int → Int) : Prop := ∀ m, 0 ≤ m → m ≤ 12 → hL h 79 (169 * (x + 1) + 13 * (r + 1) + m).toNat = acc m
theorem rowV.fr {h h' : Hp} {x r y s : Int} {acc : Int → Int} (v : rowV h y s acc) (f : Fr (pRw x r) h h') (hx : -1 ≤ x) (hr : -1 ≤ r ∧ r ≤ 11) (hy : -1 ≤ y) (hs : -1 ≤ s ∧ s ≤ 11) (ne : ¬ (x = y ∧ r = s)) : rowV h' y s acc := by
  intro m m0 m1
  rw [f.L (by unfold pRw; omega)]
  exact v m m0 m1
theorem m_spot {d : Nat} {h : Hp} (x r n : Int) : cal (d+1) m_Mod_spot [.inl (x), .inl (r), .inl (n)] (h) = some (.inl (169 * (x + 1) + 13 * (r + 1) + n), h) := Mod_spot_0 d x r n h
theorem pRw.w6 {x r : Int} : ∀ a k, pRw x r a k → 76 ≤ a ∧ a ≤ 86 := fun a k q => by unfold pRw at q; omega
theorem Vd_rng {x r : Int} (hv : x = -1 ↔ r = -1) : True := trivial
theorem m_ways_A {d : Nat} {S nb : Int → Int} {oh or t : Int} (n64 : N64 nb) (ht : t = -1 ∨ (0 ≤ t ∧ t < 4)) (g : Gd S) {x r : Int} (hx : -1 ≤ x ∧ x ≤ 11) (hr : -1 ≤ r ∧ r ≤ 11) (hr2 : r < S 2) : ∀ n, 0 ≤ n → n ≤ 13 → ∀ h, W6 h S nb oh or t → (∀ m, 0 ≤ m → m < n → hL h 79 (169 * (x + 1) + 13 * (r + 1) + m).toNat = if m = 0 then BB S nb t r else 0) → ∃ h', EX (d+2) m_Mod_laysWays 78 [(0, .inr (.inr (72))), (4, .inl (x)), (5, .inl (r)), (6, .inl (n))] [] (h) = EX (d+2) m_Mod_laysWays 144 [(0, .inr (.inr (72))), (4, .inl (x)), (5, .inl (r))] [] (h') ∧ rowV h' x r (fun m => if m = 0 then BB S nb t r else 0) ∧ Fr (pRw x r) h h' := by
  have gb := g.b
  refine up_ind (hi := 13) ?_ ?_
  · intro n hn h0 h1 h w hk
    refine ⟨h, ?_, fun m m0 m1 => hk m m0 (by omega), Fr.rf⟩
    rw [Mod_laysWays_78]
    simp (disch := omega) only [wr_id, ix_id, okx, if_pos, if_neg, Int.toNat_of_nonneg, bak_v, bak_n, wr_b01, wr_bt, b01_or, b01_0, b01_1, lc_lt0, lc_gt0, lc_eq0, wl_wr, wr_wr, wl_id, true_and, and_true, true_or, or_true, not_true_eq_false, not_false_eq_true, nc0, nc1, nc2, nc3, nc4, nc5, nc6, nc7, nc8, nc9, nc10, nc11, nc12, nc13, nc14, nc15, nc16, nc17, nc18, nc19, nc20, nc21, nc22, nc23, nc35, nc47, nc59, nc60, nc61, nc73, nc74, nc214, nc215, nc1115, nc2230, nc3345, if_true, if_false, Int.reduceToNat]
  · intro n hn ih h0 h1 h w hk
    have hm := w.1.1
    have step : ∀ v, v = (if n = 0 then BB S nb t r else 0) → ∃ h', EX (d+2) m_Mod_laysWays 78 [(0, .inr (.inr (72))), (4, .inl (x)), (5, .inl (r)), (6, .inl (n+1))] [] (pL h 79 (169 * (x + 1) + 13 * (r + 1) + n).toNat v) = EX (d+2) m_Mod_laysWays 144 [(0, .inr (.inr (72))), (4, .inl (x)), (5, .inl (r))] [] (h') ∧ rowV h' x r (fun m => if m = 0 then BB S nb t r else 0) ∧ Fr (pRw x r) h h' := by
      intro v hv
      have f0 : Fr (pRw x r) h (pL h 79 (169 * (x + 1) + 13 * (r + 1) + n).toNat v) := Fr.pL Fr.rf (by unfold pRw; omega)
      obtain ⟨h', e, k1, f1⟩ := ih (by omega) (by omega) _ (w.fr f0 pRw.w6) (fun m m0 m1 => by
        rw [hL_pL]
        by_cases c : m = n
        · rw [if_pos ⟨rfl, by rw [c]⟩, hv, c]
        · rw [if_neg (fun q => c (by have := q.2; omega))]
          exact hk m m0 (by omega))
      exact ⟨h', e, k1, f0.tr f1⟩
    by_cases c : n = 0
    · have es := m_shows (d := d + 1) w n64 ht (a := if r = -1 then 0 else r) (b := S 2 - 1) (v := -2) (by split <;> omega) (by omega) (by omega)
      obtain ⟨h', e, k1, f1⟩ := step (b01 (shB nb t (if r = -1 then 0 else r) (S 2 - 1) (-2) = true)) (by rw [if_pos c]; rfl)
      refine ⟨h', ?_, k1, f1⟩
      rw [Mod_laysWays_78]
      subst c
      by_cases c2 : r = -1
      · rw [if_pos c2] at es e
        simp (disch := omega) only [Mod_laysWays_85, Mod_laysWays_98, Mod_laysWays_103, Mod_laysWays_110, Mod_laysWays_116, Mod_laysWays_129, Mod_laysWays_132, Mod_laysWays_136, Mod_laysWays_137, Mod_laysWays_138, wr_id, ix_id, okx, if_pos, if_neg, Int.toNat_of_nonneg, bak_v, bak_n, wr_b01, wr_bt, b01_or, b01_0, b01_1, lc_lt0, lc_gt0, lc_eq0, wl_wr, wr_wr, wl_id, true_and, and_true, true_or, or_true, not_true_eq_false, not_false_eq_true, nc0, nc1, nc2, nc3, nc4, nc5, nc6, nc7, nc8, nc9, nc10, nc11, nc12, nc13, nc14, nc15, nc16, nc17, nc18, nc19, nc20, nc21, nc22, nc23, nc35, nc47, nc59, nc60, nc61, nc73, nc74, nc214, nc215, nc1115, nc2230, nc3345, if_true, if_false, Int.reduceToNat, hm.k, hm.r1, hm.r2, hm.r3, hm.r4, hm.r15, hm.r16, hm.r19, hm.r23, hm.r24, hm.r25, hm.r26, hm.r29, hm.r30, hm.r31, hm.r33, hm.r34, hm.r35, hm.k73, hm.k74, hm.k75, hm.k76, hm.k77, hm.k78, hm.k79, hm.k80, hm.k81, hm.k82, hm.k83, hm.k84, hm.k85, hm.k86, hm.k87, hm.k88, hm.k89, hm.n73, hm.n74, hm.n75, hm.n76, hm.n77, hm.n78, hm.n79, hm.n80, hm.n81, hm.n82, hm.n83, hm.n84, hm.n85, hm.n86, hm.n87, hm.n88, hm.n89, m_spot, w.1.2, es]
        unfold b01 at e
        by_cases c3 : shB nb t 0 (S 2 - 1) (-2) = true
        · rw [if_pos c3] at e
          simp only [c3, not_true_eq_false, if_false]
          exact e
        · rw [if_neg c3] at e
          simp only [c3, not_false_eq_true, if_true]
          exact e
      · rw [if_neg c2] at es e
        simp (disch := omega) only [Mod_laysWays_85, Mod_laysWays_98, Mod_laysWays_103, Mod_laysWays_114, Mod_laysWays_116, Mod_laysWays_129, Mod_laysWays_132, Mod_laysWays_136, Mod_laysWays_137, Mod_laysWays_138, wr_id, ix_id, okx, if_pos, if_neg, Int.toNat_of_nonneg, bak_v, bak_n, wr_b01, wr_bt, b01_or, b01_0, b01_1, lc_lt0, lc_gt0, lc_eq0, wl_wr, wr_wr, wl_id, true_and, and_true, true_or, or_true, not_true_eq_false, not_false_eq_true, nc0, nc1, nc2, nc3, nc4, nc5, nc6, nc7, nc8, nc9, nc10, nc11, nc12, nc13, nc14, nc15, nc16, nc17, nc18, nc19, nc20, nc21, nc22, nc23, nc35, nc47, nc59, nc60, nc61, nc73, nc74, nc214, nc215, nc1115, nc2230, nc3345, if_true, if_false, Int.reduceToNat, hm.k, hm.r1, hm.r2, hm.r3, hm.r4, hm.r15, hm.r16, hm.r19, hm.r23, hm.r24, hm.r25, hm.r26, hm.r29, hm.r30, hm.r31, hm.r33, hm.r34, hm.r35, hm.k73, hm.k74, hm.k75, hm.k76, hm.k77, hm.k78, hm.k79, hm.k80, hm.k81, hm.k82, hm.k83, hm.k84, hm.k85, hm.k86, hm.k87, hm.k88, hm.k89, hm.n73, hm.n74, hm.n75, hm.n76, hm.n77, hm.n78, hm.n79, hm.n80, hm.n81, hm.n82, hm.n83, hm.n84, hm.n85, hm.n86, hm.n87, hm.n88, hm.n89, m_spot, w.1.2, es]
        unfold b01 at e
        by_cases c3 : shB nb t r (S 2 - 1) (-2) = true
        · rw [if_pos c3] at e
          simp only [c3, not_true_eq_false, if_false]
          exact e
        · rw [if_neg c3] at e
          simp only [c3, not_false_eq_true, if_true]
          exact e
    · obtain ⟨h', e, k1, f1⟩ := step 0 (by rw [if_neg c])
      refine ⟨h', ?_, k1, f1⟩
      rw [Mod_laysWays_78]
      simp (disch := omega) only [Mod_laysWays_85, Mod_laysWays_98, Mod_laysWays_136, Mod_laysWays_137, Mod_laysWays_138, wr_id, ix_id, okx, if_pos, if_neg, Int.toNat_of_nonneg, bak_v, bak_n, wr_b01, wr_bt, b01_or, b01_0, b01_1, lc_lt0, lc_gt0, lc_eq0, wl_wr, wr_wr, wl_id, true_and, and_true, true_or, or_true, not_true_eq_false, not_false_eq_true, nc0, nc1, nc2, nc3, nc4, nc5, nc6, nc7, nc8, nc9, nc10, nc11, nc12, nc13, nc14, nc15, nc16, nc17, nc18, nc19, nc20, nc21, nc22, nc23, nc35, nc47, nc59, nc60, nc61, nc73, nc74, nc214, nc215, nc1115, nc2230, nc3345, if_true, if_false, Int.reduceToNat, hm.k, hm.r1, hm.r2, hm.r3, hm.r4, hm.r15, hm.r16, hm.r19, hm.r23, hm.r24, hm.r25, hm.r26, hm.r29, hm.r30, hm.r31, hm.r33, hm.r34, hm.r35, hm.k73, hm.k74, hm.k75, hm.k76, hm.k77, hm.k78, hm.k79, hm.k80, hm.k81, hm.k82, hm.k83, hm.k84, hm.k85, hm.k86, hm.k87, hm.k88, hm.k89, hm.n73, hm.n74, hm.n75, hm.n76, hm.n77, hm.n78, hm.n79, hm.n80, hm.n81, hm.n82, hm.n83, hm.n84, hm.n85, hm.n86, hm.n87, hm.n88, hm.n89, m_spot, e]
theorem m_ways_B {d : Nat} {S nb : Int → Int} {oh or t : Int} {x r y s : Int} (hx : -1 ≤ x ∧ x < y ∧ y ≤ 11) (hr : -1 ≤ r ∧ r < s ∧ s ≤ 11) {acc bcc : Int → Int} : ∀ n, 1 ≤ n → n ≤ 13 → ∀ h, W6 h S nb oh or t → rowV h y s bcc → rowV h x r (fun m => if 1 ≤ m ∧ m < n then acc m + bcc (m - 1) else acc m) → ∃ h', EX (d+2) m_Mod_laysWays 199 [(0, .inr (.inr (72))), (4, .inl (x)), (5, .inl (r)), (6, .inl (y)), (7, .inl (s)), (8, .inl (n))] [] (h) = EX (d+2) m_Mod_laysWays 245 [(0, .inr (.inr (72))), (4, .inl (x)), (5, .inl (r)), (6, .inl (y)), (7, .inl (s))] [] (h') ∧ rowV h' x r (fun m => if 1 ≤ m then acc m + bcc (m - 1) else acc m) ∧ Fr (pRw x r) h h' := by
  refine up_ind (hi := 13) ?_ ?_
  · intro n hn h0 h1 h w vb va
    refine ⟨h, ?_, fun m m0 m1 => ?_, Fr.rf⟩
    · rw [Mod_laysWays_199]
      simp (disch := omega) only [wr_id, ix_id, okx, if_pos, if_neg, Int.toNat_of_nonneg, bak_v, bak_n, wr_b01, wr_bt, b01_or, b01_0, b01_1, lc_lt0, lc_gt0, lc_eq0, wl_wr, wr_wr, wl_id, true_and, and_true, true_or, or_true, not_true_eq_false, not_false_eq_true, nc0, nc1, nc2, nc3, nc4, nc5, nc6, nc7, nc8, nc9, nc10, nc11, nc12, nc13, nc14, nc15, nc16, nc17, nc18, nc19, nc20, nc21, nc22, nc23, nc35, nc47, nc59, nc60, nc61, nc73, nc74, nc214, nc215, nc1115, nc2230, nc3345, if_true, if_false, Int.reduceToNat]
    · rw [va m m0 m1]
      by_cases c : 1 ≤ m
      · simp only [c, true_and, show m < n by omega, if_true]
      · simp only [c, false_and, if_false]
  · intro n hn ih h0 h1 h w vb va
    have hm := w.1.1
    have e1 := va n (by omega) (by omega)
    dsimp only at e1
    rw [if_neg (by omega)] at e1
    have e2 := vb (n - 1) (by omega) (by omega)
    have f0 : Fr (pRw x r) h (pL h 79 (169 * (x + 1) + 13 * (r + 1) + n).toNat (acc n + bcc (n - 1))) := Fr.pL Fr.rf (by unfold pRw; omega)
    obtain ⟨h', e, k1, f1⟩ := ih (by omega) (by omega) _ (w.fr f0 pRw.w6) (vb.fr f0 (by omega) (by omega) (by omega) (by omega) (by omega)) (fun m m0 m1 => by
      rw [hL_pL]
      dsimp only
      by_cases c : m = n
      · rw [if_pos ⟨rfl, by rw [c]⟩, c, if_pos (by omega)]
      · rw [if_neg (fun q => c (by have := q.2; omega)), va m m0 m1]
        dsimp only
        by_cases c2 : 1 ≤ m ∧ m < n
        · rw [if_pos c2, if_pos (by omega)]
        · rw [if_neg c2, if_neg (by omega)])
    refine ⟨h', ?_, k1, f0.tr f1⟩
    rw [Mod_laysWays_199]
    simp (disch := omega) only [Mod_laysWays_206, Mod_laysWays_219, Mod_laysWays_236, Mod_laysWays_239, wr_id, ix_id, okx, if_pos, if_neg, Int.toNat_of_nonneg, bak_v, bak_n, wr_b01, wr_bt, b01_or, b01_0, b01_1, lc_lt0, lc_gt0, lc_eq0, wl_wr, wr_wr, wl_id, true_and, and_true, true_or, or_true, not_true_eq_false, not_false_eq_true, nc0, nc1, nc2, nc3, nc4, nc5, nc6, nc7, nc8, nc9, nc10, nc11, nc12, nc13, nc14, nc15, nc16, nc17, nc18, nc19, nc20, nc21, nc22, nc23, nc35, nc47, nc59, nc60, nc61, nc73, nc74, nc214, nc215, nc1115, nc2230, nc3345, if_true, if_false, Int.reduceToNat, hm.k, hm.r1, hm.r2, hm.r3, hm.r4, hm.r15, hm.r16, hm.r19, hm.r23, hm.r24, hm.r25, hm.r26, hm.r29, hm.r30, hm.r31, hm.r33, hm.r34, hm.r35, hm.k73, hm.k74, hm.k75, hm.k76, hm.k77, hm.k78, hm.k79, hm.k80, hm.k81, hm.k82, hm.k83, hm.k84, hm.k85, hm.k86, hm.k87, hm.k88, hm.k89, hm.n73, hm.n74, hm.n75, hm.n76, hm.n77, hm.n78, hm.n79, hm.n80, hm.n81, hm.n82, hm.n83, hm.n84, hm.n85, hm.n86, hm.n87, hm.n88, hm.n89, m_spot, e1, e2, e]
/-- the rows of hook y are right -/
def tabY (h : Hp) (F : Int → Int → Int → Int → Bool) (B : Int → Int) (N R y : Int) : Prop := ∀ s, -1 ≤ s → s < R → (y = -1 ↔ s = -1) → rowV h y s (fun m => cnt F B N R m.toNat y s)
theorem tabY.fr {h h' : Hp} {F : Int → Int → Int → Int → Bool} {B : Int → Int} {N R x r y : Int} (v : tabY h F B N R y) (f : Fr (pRw x r) h h') (hx : -1 ≤ x) (hr : -1 ≤ r ∧ r ≤ 11) (hy : x < y) (hR : R ≤ 12) : tabY h' F B N R y := fun s h1 h2 h3 => (v s h1 h2 h3).fr f hx hr (by omega) (by omega) (by omega)
theorem m_ways_C {d : Nat} {S nb : Int → Int} {oh or t : Int} (n64 : N64 nb) (ht : t = -1 ∨ (0 ≤ t ∧ t < 4)) (ho : -1 ≤ oh ∧ oh ≤ 12) (hor : -1 ≤ or ∧ or ≤ 12) (g : Gd S) {x r y : Int} (hx : -1 ≤ x ∧ x < y ∧ y < S 1) (hr : -1 ≤ r ∧ r < S 2) (hxr : x = -1 ↔ r = -1) : ∀ s, r + 1 ≤ s → s ≤ 12 → ∀ h acc, W6 h S nb oh or t → tabY h (FF S nb oh or t) (BB S nb t) (S 1) (S 2) y → rowV h x r acc → ∃ h', EX (d+2) m_Mod_laysWays 167 [(0, .inr (.inr (72))), (4, .inl (x)), (5, .inl (r)), (6, .inl (y)), (7, .inl (s))] [] (h) = EX (d+2) m_Mod_laysWays 251 [(0, .inr (.inr (72))), (4, .inl (x)), (5, .inl (r)), (6, .inl (y))] [] (h') ∧ rowV h' x r (fun m => if 1 ≤ m then acc m + sm (fun s => if FF S nb oh or t x r y s = true then cnt (FF S nb oh or t) (BB S nb t) (S 1) (S 2) (m - 1).toNat y s else 0) s (S 2) else acc m) ∧ Fr (pRw x r) h h' := by
  have ga := g.a
  have gb := g.b
  refine up_ind (hi := S 2) ?_ ?_
  · intro s hs h0 h1 h acc w tb va
    have hm := w.1.1
    refine ⟨h, ?_, fun m m0 m1 => ?_, Fr.rf⟩
    · rw [Mod_laysWays_167]
      simp (disch := omega) only [wr_id, ix_id, okx, if_pos, if_neg, Int.toNat_of_nonneg, bak_v, bak_n, wr_b01, wr_bt, b01_or, b01_0, b01_1, lc_lt0, lc_gt0, lc_eq0, wl_wr, wr_wr, wl_id, true_and, and_true, true_or, or_true, not_true_eq_false, not_false_eq_true, nc0, nc1, nc2, nc3, nc4, nc5, nc6, nc7, nc8, nc9, nc10, nc11, nc12, nc13, nc14, nc15, nc16, nc17, nc18, nc19, nc20, nc21, nc22, nc23, nc35, nc47, nc59, nc60, nc61, nc73, nc74, nc214, nc215, nc1115, nc2230, nc3345, if_true, if_false, Int.reduceToNat, hm.k, hm.r1, hm.r2, hm.r3, hm.r4, hm.r15, hm.r16, hm.r19, hm.r23, hm.r24, hm.r25, hm.r26, hm.r29, hm.r30, hm.r31, hm.r33, hm.r34, hm.r35, hm.k73, hm.k74, hm.k75, hm.k76, hm.k77, hm.k78, hm.k79, hm.k80, hm.k81, hm.k82, hm.k83, hm.k84, hm.k85, hm.k86, hm.k87, hm.k88, hm.k89, hm.n73, hm.n74, hm.n75, hm.n76, hm.n77, hm.n78, hm.n79, hm.n80, hm.n81, hm.n82, hm.n83, hm.n84, hm.n85, hm.n86, hm.n87, hm.n88, hm.n89, w.1.2]
    · rw [va m m0 m1]
      dsimp only
      rw [sm_stop hs, Int.add_zero]
      simp
  · intro s hs ih h0 h1 h acc w tb va
    have hm := w.1.1
    have ef := m_follows (d := d) w n64 ht ho hor g (x := x) (r := r) (y := y) (s := s) hx (by omega) hxr
    by_cases c : FF S nb oh or t x r y s = true
    · obtain ⟨h1', e1, k1, f1⟩ := m_ways_B (d := d) (S := S) (nb := nb) (oh := oh) (or := or) (t := t) (x := x) (r := r) (y := y) (s := s) (acc := acc) (bcc := fun m => cnt (FF S nb oh or t) (BB S nb t) (S 1) (S 2) m.toNat y s) (by omega) (by omega) 1 (by omega) (by omega) h w (tb s (by omega) hs (by omega)) (fun m m0 m1 => by rw [va m m0 m1]; dsimp only; rw [if_neg (by omega)])
      obtain ⟨h2, e2, k2, f2⟩ := ih (by omega) (by omega) h1' _ (w.fr f1 pRw.w6) (tb.fr f1 (by omega) (by omega) (by omega) (by omega)) k1
      refine ⟨h2, ?_, fun m m0 m1 => ?_, f1.tr f2⟩
      · rw [Mod_laysWays_167]
        have cc : ¬ ¬ FF S nb oh or t x r y s = true := fun q => q c
        simp (disch := omega) only [Mod_laysWays_178, Mod_laysWays_190, Mod_laysWays_193, Mod_laysWays_196, wr_id, ix_id, okx, if_pos, if_neg, Int.toNat_of_nonneg, bak_v, bak_n, wr_b01, wr_bt, b01_or, b01_0, b01_1, lc_lt0, lc_gt0, lc_eq0, wl_wr, wr_wr, wl_id, true_and, and_true, true_or, or_true, not_true_eq_false, not_false_eq_true, nc0, nc1, nc2, nc3, nc4, nc5, nc6, nc7, nc8, nc9, nc10, nc11, nc12, nc13, nc14, nc15, nc16, nc17, nc18, nc19, nc20, nc21, nc22, nc23, nc35, nc47, nc59, nc60, nc61, nc73, nc74, nc214, nc215, nc1115, nc2230, nc3345, if_true, if_false, Int.reduceToNat, hm.k, hm.r1, hm.r2, hm.r3, hm.r4, hm.r15, hm.r16, hm.r19, hm.r23, hm.r24, hm.r25, hm.r26, hm.r29, hm.r30, hm.r31, hm.r33, hm.r34, hm.r35, hm.k73, hm.k74, hm.k75, hm.k76, hm.k77, hm.k78, hm.k79, hm.k80, hm.k81, hm.k82, hm.k83, hm.k84, hm.k85, hm.k86, hm.k87, hm.k88, hm.k89, hm.n73, hm.n74, hm.n75, hm.n76, hm.n77, hm.n78, hm.n79, hm.n80, hm.n81, hm.n82, hm.n83, hm.n84, hm.n85, hm.n86, hm.n87, hm.n88, hm.n89, w.1.2, ef, c, e1]
        rw [Mod_laysWays_245]
        exact e2
      · rw [k2 m m0 m1]
        by_cases c1 : 1 ≤ m
        · simp only [c1, if_true]
          rw [sm_step hs, if_pos c, Int.add_assoc]
        · simp only [c1, if_false]
    · obtain ⟨h2, e2, k2, f2⟩ := ih (by omega) (by omega) h acc w tb va
      refine ⟨h2, ?_, fun m m0 m1 => ?_, f2⟩
      · rw [Mod_laysWays_167]
        simp (disch := omega) only [Mod_laysWays_178, Mod_laysWays_190, Mod_laysWays_193, Mod_laysWays_245, wr_id, ix_id, okx, if_pos, if_neg, Int.toNat_of_nonneg, bak_v, bak_n, wr_b01, wr_bt, b01_or, b01_0, b01_1, lc_lt0, lc_gt0, lc_eq0, wl_wr, wr_wr, wl_id, true_and, and_true, true_or, or_true, not_true_eq_false, not_false_eq_true, nc0, nc1, nc2, nc3, nc4, nc5, nc6, nc7, nc8, nc9, nc10, nc11, nc12, nc13, nc14, nc15, nc16, nc17, nc18, nc19, nc20, nc21, nc22, nc23, nc35, nc47, nc59, nc60, nc61, nc73, nc74, nc214, nc215, nc1115, nc2230, nc3345, if_true, if_false, Int.reduceToNat, hm.k, hm.r1, hm.r2, hm.r3, hm.r4, hm.r15, hm.r16, hm.r19, hm.r23, hm.r24, hm.r25, hm.r26, hm.r29, hm.r30, hm.r31, hm.r33, hm.r34, hm.r35, hm.k73, hm.k74, hm.k75, hm.k76, hm.k77, hm.k78, hm.k79, hm.k80, hm.k81, hm.k82, hm.k83, hm.k84, hm.k85, hm.k86, hm.k87, hm.k88, hm.k89, hm.n73, hm.n74, hm.n75, hm.n76, hm.n77, hm.n78, hm.n79, hm.n80, hm.n81, hm.n82, hm.n83, hm.n84, hm.n85, hm.n86, hm.n87, hm.n88, hm.n89, w.1.2, ef, c, e2]
        simp
      · rw [k2 m m0 m1]
        by_cases c1 : 1 ≤ m
        · simp only [c1, if_true]
          rw [sm_step hs, if_neg c, Int.zero_add]
        · simp only [c1, if_false]
theorem m_ways_D {d : Nat} {S nb : Int → Int} {oh or t : Int} (n64 : N64 nb) (ht : t = -1 ∨ (0 ≤ t ∧ t < 4)) (ho : -1 ≤ oh ∧ oh ≤ 12) (hor : -1 ≤ or ∧ or ≤ 12) (g : Gd S) {x r : Int} (hx : -1 ≤ x) (hr : -1 ≤ r ∧ r < S 2) (hxr : x = -1 ↔ r = -1) : ∀ y, x + 1 ≤ y → y ≤ 12 → ∀ h acc, W6 h S nb oh or t → (∀ z, x < z → z < S 1 → tabY h (FF S nb oh or t) (BB S nb t) (S 1) (S 2) z) → rowV h x r acc → ∃ h', EX (d+2) m_Mod_laysWays 150 [(0, .inr (.inr (72))), (4, .inl (x)), (5, .inl (r)), (6, .inl (y))] [] (h) = EX (d+2) m_Mod_laysWays 257 [(0, .inr (.inr (72))), (4, .inl (x)), (5, .inl (r))] [] (h') ∧ rowV h' x r (fun m => if 1 ≤ m then acc m + sm (fun y => sm (fun s => if FF S nb oh or t x r y s = true then cnt (FF S nb oh or t) (BB S nb t) (S 1) (S 2) (m - 1).toNat y s else 0) (r + 1) (S 2)) y (S 1) else acc m) ∧ Fr (pRw x r) h h' := by
  have ga := g.a
  have gb := g.b
  refine up_ind (hi := S 1) ?_ ?_
  · intro y hy h0 h1 h acc w tb va
    have hm := w.1.1
    refine ⟨h, ?_, fun m m0 m1 => ?_, Fr.rf⟩
    · rw [Mod_laysWays_150]
      simp (disch := omega) only [wr_id, ix_id, okx, if_pos, if_neg, Int.toNat_of_nonneg, bak_v, bak_n, wr_b01, wr_bt, b01_or, b01_0, b01_1, lc_lt0, lc_gt0, lc_eq0, wl_wr, wr_wr, wl_id, true_and, and_true, true_or, or_true, not_true_eq_false, not_false_eq_true, nc0, nc1, nc2, nc3, nc4, nc5, nc6, nc7, nc8, nc9, nc10, nc11, nc12, nc13, nc14, nc15, nc16, nc17, nc18, nc19, nc20, nc21, nc22, nc23, nc35, nc47, nc59, nc60, nc61, nc73, nc74, nc214, nc215, nc1115, nc2230, nc3345, if_true, if_false, Int.reduceToNat, hm.k, hm.r1, hm.r2, hm.r3, hm.r4, hm.r15, hm.r16, hm.r19, hm.r23, hm.r24, hm.r25, hm.r26, hm.r29, hm.r30, hm.r31, hm.r33, hm.r34, hm.r35, hm.k73, hm.k74, hm.k75, hm.k76, hm.k77, hm.k78, hm.k79, hm.k80, hm.k81, hm.k82, hm.k83, hm.k84, hm.k85, hm.k86, hm.k87, hm.k88, hm.k89, hm.n73, hm.n74, hm.n75, hm.n76, hm.n77, hm.n78, hm.n79, hm.n80, hm.n81, hm.n82, hm.n83, hm.n84, hm.n85, hm.n86, hm.n87, hm.n88, hm.n89, w.1.2]
    · rw [va m m0 m1]
      dsimp only
      rw [sm_stop hy, Int.add_zero]
      simp
  · intro y hy ih h0 h1 h acc w tb va
    have hm := w.1.1
    obtain ⟨h1', e1, k1, f1⟩ := m_ways_C (d := d) n64 ht ho hor g (x := x) (r := r) (y := y) (by omega) hr hxr (r + 1) (by omega) (by omega) h acc w (tb y (by omega) hy) va
    obtain ⟨h2, e2, k2, f2⟩ := ih (by omega) (by omega) h1' _ (w.fr f1 pRw.w6) (fun z z1 z2 => (tb z z1 z2).fr f1 (by omega) (by omega) (by omega) (by omega)) k1
    refine ⟨h2, ?_, fun m m0 m1 => ?_, f1.tr f2⟩
    · rw [Mod_laysWays_150]
      simp (disch := omega) only [Mod_laysWays_161, wr_id, ix_id, okx, if_pos, if_neg, Int.toNat_of_nonneg, bak_v, bak_n, wr_b01, wr_bt, b01_or, b01_0, b01_1, lc_lt0, lc_gt0, lc_eq0, wl_wr, wr_wr, wl_id, true_and, and_true, true_or, or_true, not_true_eq_false, not_false_eq_true, nc0, nc1, nc2, nc3, nc4, nc5, nc6, nc7, nc8, nc9, nc10, nc11, nc12, nc13, nc14, nc15, nc16, nc17, nc18, nc19, nc20, nc21, nc22, nc23, nc35, nc47, nc59, nc60, nc61, nc73, nc74, nc214, nc215, nc1115, nc2230, nc3345, if_true, if_false, Int.reduceToNat, hm.k, hm.r1, hm.r2, hm.r3, hm.r4, hm.r15, hm.r16, hm.r19, hm.r23, hm.r24, hm.r25, hm.r26, hm.r29, hm.r30, hm.r31, hm.r33, hm.r34, hm.r35, hm.k73, hm.k74, hm.k75, hm.k76, hm.k77, hm.k78, hm.k79, hm.k80, hm.k81, hm.k82, hm.k83, hm.k84, hm.k85, hm.k86, hm.k87, hm.k88, hm.k89, hm.n73, hm.n74, hm.n75, hm.n76, hm.n77, hm.n78, hm.n79, hm.n80, hm.n81, hm.n82, hm.n83, hm.n84, hm.n85, hm.n86, hm.n87, hm.n88, hm.n89, w.1.2, e1]
      rw [Mod_laysWays_251]
      exact e2
    · rw [k2 m m0 m1]
      by_cases c1 : 1 ≤ m
      · simp only [c1, if_true]
        rw [sm_step hy, Int.add_assoc]
      · simp only [c1, if_false]
theorem m_ways_E {d : Nat} {S nb : Int → Int} {oh or t : Int} (n64 : N64 nb) (ht : t = -1 ∨ (0 ≤ t ∧ t < 4)) (ho : -1 ≤ oh ∧ oh ≤ 12) (hor : -1 ≤ or ∧ or ≤ 12) (g : Gd S) {x r : Int} (hx : -1 ≤ x ∧ x < S 1) (hr : -1 ≤ r ∧ r < S 2) (hxr : x = -1 ↔ r = -1) {h : Hp} (w : W6 h S nb oh or t) (tb : ∀ z, x < z → z < S 1 → tabY h (FF S nb oh or t) (BB S nb t) (S 1) (S 2) z) : ∃ h', EX (d+2) m_Mod_laysWays 75 [(0, .inr (.inr (72))), (4, .inl (x)), (5, .inl (r))] [] (h) = EX (d+2) m_Mod_laysWays 257 [(0, .inr (.inr (72))), (4, .inl (x)), (5, .inl (r))] [] (h') ∧ rowV h' x r (fun m => cnt (FF S nb oh or t) (BB S nb t) (S 1) (S 2) m.toNat x r) ∧ Fr (pRw x r) h h' := by
  have ga := g.a
  have gb := g.b
  obtain ⟨h1, e1, k1, f1⟩ := m_ways_A (d := d) n64 ht g (x := x) (r := r) (by omega) (by omega) hr.2 0 (by omega) (by omega) h w (fun m m0 m1 => by omega)
  obtain ⟨h2, e2, k2, f2⟩ := m_ways_D (d := d) n64 ht ho hor g (x := x) (r := r) (by omega) hr hxr (x + 1) (by omega) (by omega) h1 _ (w.fr f1 pRw.w6) (fun z z1 z2 => (tb z z1 z2).fr f1 (by omega) (by omega) (by omega) (by omega)) k1
  refine ⟨h2, ?_, fun m m0 m1 => ?_, f1.tr f2⟩
  · rw [Mod_laysWays_75]
    refine e1.trans ?_
    rw [Mod_laysWays_144]
    exact e2
  · rw [k2 m m0 m1]
    by_cases c1 : 1 ≤ m
    · have c2 : ¬ m = 0 := by omega
      simp only [c1, c2, if_true, if_false, Int.zero_add]
      rw [show m.toNat = (m - 1).toNat + 1 by omega]
      rfl
    · have c2 : m = 0 := by omega
      subst c2
      simp [cnt]
theorem m_ways_F {d : Nat} {S nb : Int → Int} {oh or t : Int} (n64 : N64 nb) (ht : t = -1 ∨ (0 ≤ t ∧ t < 4)) (ho : -1 ≤ oh ∧ oh ≤ 12) (hor : -1 ≤ or ∧ or ≤ 12) (g : Gd S) {x : Int} (hx : -1 ≤ x ∧ x < S 1) : ∀ r, -2 ≤ r → r < S 2 → ∀ h, W6 h S nb oh or t → (∀ z, x < z → z < S 1 → tabY h (FF S nb oh or t) (BB S nb t) (S 1) (S 2) z) → (∀ s, r < s → s < S 2 → (x = -1 ↔ s = -1) → rowV h x s (fun m => cnt (FF S nb oh or t) (BB S nb t) (S 1) (S 2) m.toNat x s)) → ∃ h', EX (d+2) m_Mod_laysWays 41 [(0, .inr (.inr (72))), (4, .inl (x)), (5, .inl (r))] [] (h) = EX (d+2) m_Mod_laysWays 263 [(0, .inr (.inr (72))), (4, .inl (x))] [] (h') ∧ (∀ z, x ≤ z → z < S 1 → tabY h' (FF S nb oh or t) (BB S nb t) (S 1) (S 2) z) ∧ Fr (fun a _ => a = 79) h h' := by
  have ga := g.a
  have gb := g.b
  refine dn_ind (lo := -1) ?_ ?_
  · intro r hr h0 h1 h w tb tr
    refine ⟨h, ?_, fun z z1 z2 => ?_, Fr.rf⟩
    · rw [Mod_laysWays_41]
      simp (disch := omega) only [wr_id, ix_id, okx, if_pos, if_neg, Int.toNat_of_nonneg, bak_v, bak_n, wr_b01, wr_bt, b01_or, b01_0, b01_1, lc_lt0, lc_gt0, lc_eq0, wl_wr, wr_wr, wl_id, true_and, and_true, true_or, or_true, not_true_eq_false, not_false_eq_true, nc0, nc1, nc2, nc3, nc4, nc5, nc6, nc7, nc8, nc9, nc10, nc11, nc12, nc13, nc14, nc15, nc16, nc17, nc18, nc19, nc20, nc21, nc22, nc23, nc35, nc47, nc59, nc60, nc61, nc73, nc74, nc214, nc215, nc1115, nc2230, nc3345, if_true, if_false, Int.reduceToNat]
    · by_cases c : z = x
      · rw [c]; exact fun s s1 s2 s3 => tr s (by omega) s2 s3
      · exact tb z (by omega) z2
  · intro r hr ih h0 h1 h w tb tr
    have er : r + -1 = r - 1 := by omega
    by_cases c : x = -1 ↔ r = -1
    · obtain ⟨h1', e1, k1, f1⟩ := m_ways_E (d := d) n64 ht ho hor g hx ⟨hr, h1⟩ c w tb
      have fm : Fr (fun a _ => a = 79) h h1' := f1.mo (fun a k q => by unfold pRw at q; exact q.1)
      obtain ⟨h2, e2, k2, f2⟩ := ih (by omega) (by omega) h1' (w.fr f1 pRw.w6) (fun z z1 z2 => (tb z z1 z2).fr f1 (by omega) (by omega) (by omega) (by omega)) (fun s s1 s2 s3 => by
        by_cases cs : s = r
        · rw [cs]; exact k1
        · exact (tr s (by omega) s2 s3).fr f1 (by omega) (by omega) (by omega) (by omega) (by omega))
      refine ⟨h2, ?_, k2, fm.tr f2⟩
      rw [Mod_laysWays_41]
      by_cases cx : x = -1
      · have cr := c.mp cx
        simp (disch := omega) only [Mod_laysWays_47, Mod_laysWays_53, Mod_laysWays_58, Mod_laysWays_64, Mod_laysWays_69, wr_id, ix_id, okx, if_pos, if_neg, Int.toNat_of_nonneg, bak_v, bak_n, wr_b01, wr_bt, b01_or, b01_0, b01_1, lc_lt0, lc_gt0, lc_eq0, wl_wr, wr_wr, wl_id, true_and, and_true, true_or, or_true, not_true_eq_false, not_false_eq_true, nc0, nc1, nc2, nc3, nc4, nc5, nc6, nc7, nc8, nc9, nc10, nc11, nc12, nc13, nc14, nc15, nc16, nc17, nc18, nc19, nc20, nc21, nc22, nc23, nc35, nc47, nc59, nc60, nc61, nc73, nc74, nc214, nc215, nc1115, nc2230, nc3345, if_true, if_false, Int.reduceToNat]
        refine e1.trans ?_
        rw [Mod_laysWays_257, er]
        exact e2
      · have cr : ¬ r = -1 := fun q => cx (c.mpr q)
        simp (disch := omega) only [Mod_laysWays_47, Mod_laysWays_57, Mod_laysWays_58, Mod_laysWays_68, Mod_laysWays_69, wr_id, ix_id, okx, if_pos, if_neg, Int.toNat_of_nonneg, bak_v, bak_n, wr_b01, wr_bt, b01_or, b01_0, b01_1, lc_lt0, lc_gt0, lc_eq0, wl_wr, wr_wr, wl_id, true_and, and_true, true_or, or_true, not_true_eq_false, not_false_eq_true, nc0, nc1, nc2, nc3, nc4, nc5, nc6, nc7, nc8, nc9, nc10, nc11, nc12, nc13, nc14, nc15, nc16, nc17, nc18, nc19, nc20, nc21, nc22, nc23, nc35, nc47, nc59, nc60, nc61, nc73, nc74, nc214, nc215, nc1115, nc2230, nc3345, if_true, if_false, Int.reduceToNat]
        refine e1.trans ?_
        rw [Mod_laysWays_257, er]
        exact e2
    · obtain ⟨h2, e2, k2, f2⟩ := ih (by omega) (by omega) h w tb (fun s s1 s2 s3 => by
        by_cases cs : s = r
        · rw [cs] at s3; exact absurd s3 c
        · exact tr s (by omega) s2 s3)
      refine ⟨h2, ?_, k2, f2⟩
      rw [Mod_laysWays_41]
      by_cases cx : x = -1
      · have cr : ¬ r = -1 := fun q => c ⟨fun _ => q, fun _ => cx⟩
        simp (disch := omega) only [Mod_laysWays_47, Mod_laysWays_53, Mod_laysWays_58, Mod_laysWays_68, Mod_laysWays_69, Mod_laysWays_72, Mod_laysWays_257, wr_id, ix_id, okx, if_pos, if_neg, Int.toNat_of_nonneg, bak_v, bak_n, wr_b01, wr_bt, b01_or, b01_0, b01_1, lc_lt0, lc_gt0, lc_eq0, wl_wr, wr_wr, wl_id, true_and, and_true, true_or, or_true, not_true_eq_false, not_false_eq_true, nc0, nc1, nc2, nc3, nc4, nc5, nc6, nc7, nc8, nc9, nc10, nc11, nc12, nc13, nc14, nc15, nc16, nc17, nc18, nc19, nc20, nc21, nc22, nc23, nc35, nc47, nc59, nc60, nc61, nc73, nc74, nc214, nc215, nc1115, nc2230, nc3345, if_true, if_false, Int.reduceToNat, er, e2]
      · have cr : r = -1 := by
          refine Decidable.not_not.mp fun q => c ⟨fun z => absurd z cx, fun z => absurd z q⟩
        simp (disch := omega) only [Mod_laysWays_47, Mod_laysWays_57, Mod_laysWays_58, Mod_laysWays_64, Mod_laysWays_69, Mod_laysWays_72, Mod_laysWays_257, wr_id, ix_id, okx, if_pos, if_neg, Int.toNat_of_nonneg, bak_v, bak_n, wr_b01, wr_bt, b01_or, b01_0, b01_1, lc_lt0, lc_gt0, lc_eq0, wl_wr, wr_wr, wl_id, true_and, and_true, true_or, or_true, not_true_eq_false, not_false_eq_true, nc0, nc1, nc2, nc3, nc4, nc5, nc6, nc7, nc8, nc9, nc10, nc11, nc12, nc13, nc14, nc15, nc16, nc17, nc18, nc19, nc20, nc21, nc22, nc23, nc35, nc47, nc59, nc60, nc61, nc73, nc74, nc214, nc215, nc1115, nc2230, nc3345, if_true, if_false, Int.reduceToNat, er, e2]
theorem m_ways_G {d : Nat} {S nb : Int → Int} {oh or t : Int} (n64 : N64 nb) (ht : t = -1 ∨ (0 ≤ t ∧ t < 4)) (ho : -1 ≤ oh ∧ oh ≤ 12) (hor : -1 ≤ or ∧ or ≤ 12) (g : Gd S) : ∀ x, -2 ≤ x → x < S 1 → ∀ h, W6 h S nb oh or t → (∀ z, x < z → z < S 1 → tabY h (FF S nb oh or t) (BB S nb t) (S 1) (S 2) z) → ∃ h', EX (d+2) m_Mod_laysWays 25 [(0, .inr (.inr (72))), (4, .inl (x))] [] (h) = some (.inl 0, h') ∧ (∀ z, -1 ≤ z → z < S 1 → tabY h' (FF S nb oh or t) (BB S nb t) (S 1) (S 2) z) ∧ Fr (fun a _ => a = 79) h h' := by
  have ga := g.a
  have gb := g.b
  refine dn_ind (lo := -1) ?_ ?_
  · intro x hx h0 h1 h w tb
    refine ⟨h, ?_, fun z z1 z2 => tb z (by omega) z2, Fr.rf⟩
    rw [Mod_laysWays_25]
    simp (disch := omega) only [Mod_laysWays_269, wr_id, ix_id, okx, if_pos, if_neg, Int.toNat_of_nonneg, bak_v, bak_n, wr_b01, wr_bt, b01_or, b01_0, b01_1, lc_lt0, lc_gt0, lc_eq0, wl_wr, wr_wr, wl_id, true_and, and_true, true_or, or_true, not_true_eq_false, not_false_eq_true, nc0, nc1, nc2, nc3, nc4, nc5, nc6, nc7, nc8, nc9, nc10, nc11, nc12, nc13, nc14, nc15, nc16, nc17, nc18, nc19, nc20, nc21, nc22, nc23, nc35, nc47, nc59, nc60, nc61, nc73, nc74, nc214, nc215, nc1115, nc2230, nc3345, if_true, if_false, Int.reduceToNat]
  · intro x hx ih h0 h1 h w tb
    have hm := w.1.1
    obtain ⟨h1', e1, k1, f1⟩ := m_ways_F (d := d) n64 ht ho hor g (x := x) ⟨hx, h1⟩ (S 2 - 1) (by omega) (by omega) h w tb (fun s s1 s2 _ => by omega)
    obtain ⟨h2, e2, k2, f2⟩ := ih (by omega) (by omega) h1' (w.fr f1 (fun a k q => by omega)) (fun z z1 z2 => k1 z (by omega) z2)
    refine ⟨h2, ?_, k2, f1.tr f2⟩
    rw [Mod_laysWays_25]
    simp (disch := omega) only [Mod_laysWays_31, wr_id, ix_id, okx, if_pos, if_neg, Int.toNat_of_nonneg, bak_v, bak_n, wr_b01, wr_bt, b01_or, b01_0, b01_1, lc_lt0, lc_gt0, lc_eq0, wl_wr, wr_wr, wl_id, true_and, and_true, true_or, or_true, not_true_eq_false, not_false_eq_true, nc0, nc1, nc2, nc3, nc4, nc5, nc6, nc7, nc8, nc9, nc10, nc11, nc12, nc13, nc14, nc15, nc16, nc17, nc18, nc19, nc20, nc21, nc22, nc23, nc35, nc47, nc59, nc60, nc61, nc73, nc74, nc214, nc215, nc1115, nc2230, nc3345, if_true, if_false, Int.reduceToNat, hm.k, hm.r1, hm.r2, hm.r3, hm.r4, hm.r15, hm.r16, hm.r19, hm.r23, hm.r24, hm.r25, hm.r26, hm.r29, hm.r30, hm.r31, hm.r33, hm.r34, hm.r35, hm.k73, hm.k74, hm.k75, hm.k76, hm.k77, hm.k78, hm.k79, hm.k80, hm.k81, hm.k82, hm.k83, hm.k84, hm.k85, hm.k86, hm.k87, hm.k88, hm.k89, hm.n73, hm.n74, hm.n75, hm.n76, hm.n77, hm.n78, hm.n79, hm.n80, hm.n81, hm.n82, hm.n83, hm.n84, hm.n85, hm.n86, hm.n87, hm.n88, hm.n89, w.1.2, e1]
    rw [Mod_laysWays_263, show x + -1 = x - 1 by omega]
    exact e2
/-- what laysWays writes -/
def pWy (a k : Nat) : Prop := a = 79 ∨ (a = 72 ∧ (k = 20 ∨ k = 21 ∨ k = 22 ∨ k = 0))
theorem pWy.wq {a k : Nat} (h : pWy a k) : wQ a k := by unfold pWy at h; unfold wQ; omega
theorem m_laysWays {d : Nat} {h : Hp} {S nb : Int → Int} {oh or t : Int} (ms : MS h S) (hnb : ∀ k : Nat, hL h 89 k = nb k) (n64 : N64 nb) (ht : t = -1 ∨ (0 ≤ t ∧ t < 4)) (ho : -1 ≤ oh ∧ oh ≤ 12) (hor : -1 ≤ or ∧ or ≤ 12) (g : Gd S) : ∃ h', cal (d+3) m_Mod_laysWays [.inr (.inr (72)), .inl (oh), .inl (or), .inl (t)] (h) = some (.inl 0, h') ∧ W6 h' S nb oh or t ∧ (∀ z, -1 ≤ z → z < S 1 → tabY h' (FF S nb oh or t) (BB S nb t) (S 1) (S 2) z) ∧ Fr pWy h h' := by
  have ga := g.a
  have f0 : Fr pWy h (pI (pI (pI h 72 20 oh) 72 21 or) 72 22 t) := Fr.pI (Fr.pI (Fr.pI Fr.rf (by unfold pWy; omega)) (by unfold pWy; omega)) (by unfold pWy; omega)
  have w : W6 (pI (pI (pI h 72 20 oh) 72 21 or) 72 22 t) S nb oh or t := ⟨((ms.o (by omega)).o (by omega)).o (by omega), hnb, by simp [hI_pI], by simp [hI_pI], by simp [hI_pI]⟩
  have hm := w.1.1
  have hk := ms.1.k
  obtain ⟨h1, e1, k1, f1⟩ := m_ways_G (d := d) n64 ht ho hor g (S 1 - 1) (by omega) (by omega) _ w (fun z z1 z2 => by omega)
  refine ⟨h1, ?_, w.fr f1 (fun a k q => by omega), k1, f0.tr (f1.mo (fun a k q => Or.inl q))⟩
  show EX (d+2) m_Mod_laysWays 0 [(0, .inr (.inr (72))), (1, .inl (oh)), (2, .inl (or)), (3, .inl (t))] [] (h) = _
  simp (disch := omega) only [Mod_laysWays_0, Mod_laysWays_5, Mod_laysWays_10, wr_id, ix_id, okx, if_pos, if_neg, Int.toNat_of_nonneg, bak_v, bak_n, wr_b01, wr_bt, b01_or, b01_0, b01_1, lc_lt0, lc_gt0, lc_eq0, wl_wr, wr_wr, wl_id, true_and, and_true, true_or, or_true, not_true_eq_false, not_false_eq_true, nc0, nc1, nc2, nc3, nc4, nc5, nc6, nc7, nc8, nc9, nc10, nc11, nc12, nc13, nc14, nc15, nc16, nc17, nc18, nc19, nc20, nc21, nc22, nc23, nc35, nc47, nc59, nc60, nc61, nc73, nc74, nc214, nc215, nc1115, nc2230, nc3345, if_true, if_false, Int.reduceToNat, hk, sK_pI]
  rw [Mod_laysWays_15]
  simp (disch := omega) only [wr_id, ix_id, okx, if_pos, if_neg, Int.toNat_of_nonneg, bak_v, bak_n, wr_b01, wr_bt, b01_or, b01_0, b01_1, lc_lt0, lc_gt0, lc_eq0, wl_wr, wr_wr, wl_id, true_and, and_true, true_or, or_true, not_true_eq_false, not_false_eq_true, nc0, nc1, nc2, nc3, nc4, nc5, nc6, nc7, nc8, nc9, nc10, nc11, nc12, nc13, nc14, nc15, nc16, nc17, nc18, nc19, nc20, nc21, nc22, nc23, nc35, nc47, nc59, nc60, nc61, nc73, nc74, nc214, nc215, nc1115, nc2230, nc3345, if_true, if_false, Int.reduceToNat, hm.k, hm.r1, hm.r2, hm.r3, hm.r4, hm.r15, hm.r16, hm.r19, hm.r23, hm.r24, hm.r25, hm.r26, hm.r29, hm.r30, hm.r31, hm.r33, hm.r34, hm.r35, hm.k73, hm.k74, hm.k75, hm.k76, hm.k77, hm.k78, hm.k79, hm.k80, hm.k81, hm.k82, hm.k83, hm.k84, hm.k85, hm.k86, hm.k87, hm.k88, hm.k89, hm.n73, hm.n74, hm.n75, hm.n76, hm.n77, hm.n78, hm.n79, hm.n80, hm.n81, hm.n82, hm.n83, hm.n84, hm.n85, hm.n86, hm.n87, hm.n88, hm.n89, w.1.2, e1]
