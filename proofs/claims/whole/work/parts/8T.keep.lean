/-! lines keep good rows -/
theorem Gd.cg {S S' : Int → Int} (g : Gd S) (e : ∀ k, 1 ≤ k → k ≤ 72 → ¬ k = 9 → ¬ k = 60 → S' k = S k) : Gd S' := by
  obtain ⟨⟨g1, g2, g3, g4, g5, g6, g7, g8, g9, g10, g11, g12, g13, g14⟩, k1, k2, k3⟩ := g
  refine ⟨⟨?_, ?_, ?_, ?_, ?_, ?_, ?_, ?_, ?_, fun i i0 i1 => ?_, fun i i0 i1 => ?_, fun i i0 i1 => ?_, fun i i0 i1 => ?_, fun r r0 r1 => ?_⟩, ?_, fun i i0 i1 => ?_, fun i j i0 i1 i2 i3 i4 => ?_⟩
  · rw [e 1 (by omega) (by omega) (by omega) (by omega)]; exact g1
  · rw [e 2 (by omega) (by omega) (by omega) (by omega)]; exact g2
  · rw [e 3 (by omega) (by omega) (by omega) (by omega)]; exact g3
  · rw [e 4 (by omega) (by omega) (by omega) (by omega)]; exact g4
  · rw [e 5 (by omega) (by omega) (by omega) (by omega)]; exact g5
  · rw [e 6 (by omega) (by omega) (by omega) (by omega)]; exact g6
  · rw [e 7 (by omega) (by omega) (by omega) (by omega)]; exact g7
  · rw [e 8 (by omega) (by omega) (by omega) (by omega)]; exact g8
  · rw [e 10 (by omega) (by omega) (by omega) (by omega)]; exact g9
  · rw [e _ (by omega) (by omega) (by omega) (by omega)]; exact g10 i i0 i1
  · rw [e _ (by omega) (by omega) (by omega) (by omega)]; exact g11 i i0 i1
  · rw [e _ (by omega) (by omega) (by omega) (by omega)]; exact g12 i i0 i1
  · rw [e _ (by omega) (by omega) (by omega) (by omega)]; exact g13 i i0 i1
  · rw [e 2 (by omega) (by omega) (by omega) (by omega)] at r0
    rw [e 10 (by omega) (by omega) (by omega) (by omega)]
    exact g14 r r0 r1
  · rw [e 59 (by omega) (by omega) (by omega) (by omega), e 2 (by omega) (by omega) (by omega) (by omega)]; exact k1
  · rw [e (61 + i) (by omega) (by omega) (by omega) (by omega), e 2 (by omega) (by omega) (by omega) (by omega), e 1 (by omega) (by omega) (by omega) (by omega)]; exact k2 i i0 i1
  · rw [e 1 (by omega) (by omega) (by omega) (by omega)] at i2
    have := g1
    rw [e (61 + i) (by omega) (by omega) (by omega) (by omega)] at i3 ⊢
    rw [e (61 + j) (by omega) (by omega) (by omega) (by omega)] at i4 ⊢
    exact k3 i j i0 i1 i2 i3 i4
theorem tyr_cg {S S' : Int → Int} (e : ∀ k, 215 ≤ k → S' k = S k) : ∀ (n : Nat) (k : Int) (t : List Bool), 0 ≤ k → tyr S' n k t = tyr S n k t := by
  intro n
  induction n with
  | zero => intro k t _; rfl
  | succ n ih =>
    intro k t hk
    simp only [tyr]
    rw [e (215 + k) (by omega)]
    cases tys (S (215 + k)) t with
    | none => rfl
    | some t' => simp only [ih (k + 1) t' (by omega)]
theorem LawOk.cg {S S' : Int → Int} (l : LawOk S) (e : ∀ k, (k = 9 ∨ 214 ≤ k) → S' k = S k) : LawOk S' := by
  unfold LawOk at *
  rw [e 9 (by omega), e 214 (by omega), tyr_cg (fun k hk => e k (by omega)) _ _ _ (by omega)]
  exact l
theorem PG.cg {S S' : Int → Int} (p : PG S) (g : Gd S') (e : ∀ k, (k = 9 ∨ k = 59 ∨ k = 60 ∨ k = 73 ∨ 214 ≤ k) → S' k = S k) (h0 : 0 ≤ S' 0) : PG S' := by
  obtain ⟨p1, p2, p3, p4, p5⟩ := p
  exact ⟨g, p2.cg (fun k hk => e k (by omega)), by rw [e 214 (by omega)]; exact p3, by rw [e 59 (by omega), e 60 (by omega), e 73 (by omega)]; exact p4, h0⟩
theorem rw_ok {T : Int → Int} {n o : Int} : ∀ (c : Nat) (k a : Int) (S : Int → Int), a ≤ n → 0 ≤ k → k ≤ 11 → ∀ q, rwP T n o c k a S = .inr q → a ≤ q.1 ∧ q.1 ≤ n ∧ k ≤ q.2.1 ∧ q.2.1 ≤ 11 ∧ (∀ z, ¬ (o + k ≤ z ∧ z < o + q.2.1) → q.2.2 z = S z) ∧ (∀ z, o + k ≤ z → z < o + q.2.1 → 1 ≤ q.2.2 z ∧ q.2.2 z ≤ 99) := by
  intro c
  induction c with
  | zero =>
    intro k a S ha k0 k1 q hq
    cases hq
    dsimp only
    exact ⟨Int.le_refl _, ha, Int.le_refl _, k1, fun _ _ => rfl, fun z z0 z1 => by omega⟩
  | succ c ih =>
    intro k a S ha k0 k1 q hq
    simp only [rwP] at hq
    split at hq
    · split at hq
      · cases hq
      · rename_i c2
        split at hq
        · cases hq
        · rename_i q' e'
          have t := tak_ok ha e'
          have k2 : k ≤ 10 := by
            by_cases z : k = 11
            · exact absurd ⟨z, t.2.2.2.2.1, by omega, by omega⟩ c2
            · omega
          obtain ⟨i1, i2, i3, i4, i5, i6⟩ := ih (k + 1) q'.1 (up S (o + k) q'.2) t.2.1 (by omega) (by omega) q hq
          refine ⟨by omega, i2, by omega, i4, fun z hz => ?_, fun z z0 z1 => ?_⟩
          · rw [i5 z (by omega), up_ne (by omega)]
          · by_cases e : z = o + k
            · rw [i5 z (by omega), e, up_same]; omega
            · exact i6 z (by omega) z1
    · cases hq
      dsimp only
      exact ⟨Int.le_refl _, ha, Int.le_refl _, k1, fun _ _ => rfl, fun z z0 z1 => by omega⟩
/-- a number that may stand at a place of the row -/
def okZ (z v : Int) : Prop := ¬ z = 1 ∧ ¬ z = 2 ∧ ¬ z = 10 ∧ (z = 3 → 0 ≤ v ∧ v ≤ 9) ∧ (z = 4 → 0 ≤ v ∧ v ≤ 99) ∧ (z = 5 → 1 ≤ v ∧ v ≤ 99) ∧ (z = 6 → 2 ≤ v ∧ v ≤ 6) ∧ (z = 7 → 0 ≤ v ∧ v ≤ 9) ∧ (z = 8 → 0 ≤ v ∧ v ≤ 999) ∧ (11 ≤ z ∧ z < 59 → 0 ≤ v ∧ v ≤ 99)
theorem GdW_up {S : Int → Int} (g : GdW S) {z v : Int} (ok : okZ z v) : GdW (up S z v) := by
  obtain ⟨g1, g2, g3, g4, g5, g6, g7, g8, g9, g10, g11, g12, g13, g14⟩ := g
  obtain ⟨o1, o2, o3, o4, o5, o6, o7, o8, o9, o10⟩ := ok
  have e1 : up S z v 1 = S 1 := up_ne (by omega)
  have e2 : up S z v 2 = S 2 := up_ne (by omega)
  have e10 : up S z v 10 = S 10 := up_ne (by omega)
  refine ⟨by rw [e1]; exact g1, by rw [e2]; exact g2, ?_, ?_, ?_, ?_, ?_, ?_, by rw [e10]; exact g9, fun i i0 i1 => ?_, fun i i0 i1 => ?_, fun i i0 i1 => ?_, fun i i0 i1 => ?_, by rw [e2, e10]; exact g14⟩
  all_goals unfold up
  · split <;> omega
  · split <;> omega
  · split <;> omega
  · split <;> omega
  · split <;> omega
  · split <;> omega
  · have := g10 i i0 i1; split <;> omega
  · have := g11 i i0 i1; split <;> omega
  · have := g12 i i0 i1; split <;> omega
  · have := g13 i i0 i1; split <;> omega
theorem Gd.w {S S' : Int → Int} (g : Gd S) (w : GdW S') (e : ∀ k, (k = 1 ∨ k = 2 ∨ k = 59 ∨ (61 ≤ k ∧ k ≤ 72)) → S' k = S k) : Gd S' := by
  obtain ⟨gw, k1, k2, k3⟩ := g
  refine ⟨w, by rw [e 59 (by omega), e 2 (by omega)]; exact k1, fun i i0 i1 => by rw [e (61 + i) (by omega), e 2 (by omega), e 1 (by omega)]; exact k2 i i0 i1, fun i j i0 i1 j1 i3 i4 => ?_⟩
  have := gw.1
  rw [e 1 (by omega)] at j1
  rw [e (61 + i) (by omega)] at i3 ⊢
  rw [e (61 + j) (by omega)] at i4 ⊢
  exact k3 i j i0 i1 j1 i3 i4
theorem Gd_rail {S S' : Int → Int} (g : Gd S) (h2 : S 2 = 0) (h59 : S 59 = 0) {k : Int} (hk : 0 ≤ k ∧ k ≤ 11) (e2 : S' 2 = 1 + k) (o : ∀ z, ¬ z = 2 → ¬ (23 ≤ z ∧ z < 34) → S' z = S z) (hz : ∀ i, 0 ≤ i → i < 12 → 0 ≤ S' (23 + i) ∧ S' (23 + i) ≤ 99) : Gd S' := by
  obtain ⟨⟨g1, g2, g3, g4, g5, g6, g7, g8, g9, g10, g11, g12, g13, g14⟩, k1, k2, k3⟩ := g
  refine ⟨⟨?_, ?_, ?_, ?_, ?_, ?_, ?_, ?_, ?_, fun i i0 i1 => ?_, hz, fun i i0 i1 => ?_, fun i i0 i1 => ?_, fun r r0 r1 => ?_⟩, ?_, fun i i0 i1 => ?_, fun i j i0 i1 j1 i3 i4 => ?_⟩
  · rw [o 1 (by omega) (by omega)]; exact g1
  · rw [e2]; omega
  · rw [o 3 (by omega) (by omega)]; exact g3
  · rw [o 4 (by omega) (by omega)]; exact g4
  · rw [o 5 (by omega) (by omega)]; exact g5
  · rw [o 6 (by omega) (by omega)]; exact g6
  · rw [o 7 (by omega) (by omega)]; exact g7
  · rw [o 8 (by omega) (by omega)]; exact g8
  · rw [o 10 (by omega) (by omega)]; exact g9
  · rw [o _ (by omega) (by omega)]; exact g10 i i0 i1
  · rw [o _ (by omega) (by omega)]; exact g12 i i0 i1
  · rw [o _ (by omega) (by omega)]; exact g13 i i0 i1
  · rw [e2] at r0
    rw [o 10 (by omega) (by omega)]
    exact g14 r (by omega) r1
  · rw [o 59 (by omega) (by omega)]; omega
  · rw [o (61 + i) (by omega) (by omega), e2, o 1 (by omega) (by omega)]
    have := k2 i i0 i1
    omega
  · rw [o 1 (by omega) (by omega)] at j1
    rw [o (61 + i) (by omega) (by omega)] at i3 ⊢
    rw [o (61 + j) (by omega) (by omega)] at i4 ⊢
    exact k3 i j i0 i1 j1 i3 i4
theorem Gd_cloth {S S' : Int → Int} (g : Gd S) (h1 : S 1 = 0) {k : Int} (hk : 0 ≤ k ∧ k ≤ 11) (e1 : S' 1 = 1 + k) (o : ∀ z, ¬ z = 1 → ¬ (11 ≤ z ∧ z < 22) → S' z = S z) (hz : ∀ i, 0 ≤ i → i < 12 → 0 ≤ S' (11 + i) ∧ S' (11 + i) ≤ 99) : Gd S' := by
  obtain ⟨⟨g1, g2, g3, g4, g5, g6, g7, g8, g9, g10, g11, g12, g13, g14⟩, k1, k2, k3⟩ := g
  refine ⟨⟨?_, ?_, ?_, ?_, ?_, ?_, ?_, ?_, ?_, hz, fun i i0 i1 => ?_, fun i i0 i1 => ?_, fun i i0 i1 => ?_, fun r r0 r1 => ?_⟩, ?_, fun i i0 i1 => ?_, fun i j i0 i1 j1 i3 i4 => ?_⟩
  · rw [e1]; omega
  · rw [o 2 (by omega) (by omega)]; exact g2
  · rw [o 3 (by omega) (by omega)]; exact g3
  · rw [o 4 (by omega) (by omega)]; exact g4
  · rw [o 5 (by omega) (by omega)]; exact g5
  · rw [o 6 (by omega) (by omega)]; exact g6
  · rw [o 7 (by omega) (by omega)]; exact g7
  · rw [o 8 (by omega) (by omega)]; exact g8
  · rw [o 10 (by omega) (by omega)]; exact g9
  · rw [o _ (by omega) (by omega)]; exact g11 i i0 i1
  · rw [o _ (by omega) (by omega)]; exact g12 i i0 i1
  · rw [o _ (by omega) (by omega)]; exact g13 i i0 i1
  · rw [o 2 (by omega) (by omega)] at r0
    rw [o 10 (by omega) (by omega)]
    exact g14 r r0 r1
  · rw [o 59 (by omega) (by omega), o 2 (by omega) (by omega)]; exact k1
  · rw [o (61 + i) (by omega) (by omega), e1, o 2 (by omega) (by omega)]
    have := k2 i i0 i1
    omega
  · rw [e1] at j1
    rw [o (61 + i) (by omega) (by omega)] at i3
    have := k2 i i0 (by omega)
    omega
theorem Gd_brk {S : Int → Int} (g : Gd S) {r : Int} (hr : 0 ≤ r ∧ r < S 2) : Gd (up S 10 (bOr (S 10) (bShl 1 r))) := by
  have gb := g.b
  have g9 := g.1.2.2.2.2.2.2.2.2.1
  have g14 := g.1.2.2.2.2.2.2.2.2.2.2.2.2.2
  rw [bShl_pw hr.1 (by omega)]
  have pl : pw r < 4096 := by
    have h := pw_mono (a := r) (b := 11) (by omega)
    have e : pw 11 = 2048 := by decide
    omega
  have pp := pw_pos r
  have bl := bOr_lt (a := S 10) (b := pw r) (k := 12) (by omega) ⟨g9.1, by omega⟩ ⟨by omega, by omega⟩
  refine g.w ?_ (fun k hk => up_ne (by omega))
  obtain ⟨g1, g2, g3, g4, g5, g6, g7, g8, g9, g10, g11, g12, g13, g14⟩ := g.1
  have o : ∀ z, ¬ z = 10 → up S 10 (bOr (S 10) (pw r)) z = S z := fun z hz => up_ne hz
  refine ⟨?_, ?_, ?_, ?_, ?_, ?_, ?_, ?_, by rw [up_same]; omega, fun i i0 i1 => ?_, fun i i0 i1 => ?_, fun i i0 i1 => ?_, fun i i0 i1 => ?_, fun z z0 z1 => ?_⟩
  · rw [o 1 (by omega)]; exact g1
  · rw [o 2 (by omega)]; exact g2
  · rw [o 3 (by omega)]; exact g3
  · rw [o 4 (by omega)]; exact g4
  · rw [o 5 (by omega)]; exact g5
  · rw [o 6 (by omega)]; exact g6
  · rw [o 7 (by omega)]; exact g7
  · rw [o 8 (by omega)]; exact g8
  · rw [o _ (by omega)]; exact g10 i i0 i1
  · rw [o _ (by omega)]; exact g11 i i0 i1
  · rw [o _ (by omega)]; exact g12 i i0 i1
  · rw [o _ (by omega)]; exact g13 i i0 i1
  · rw [o 2 (by omega)] at z0
    rw [up_same, bt_bOr (by omega) z1, bt_pw hr.1 (by omega), g14 z z0 z1, if_neg (show ¬ z = r by omega)]
    rfl
theorem Gd_jn {S : Int → Int} (g : Gd S) {x y : Int} (h : whyM S x y = 0) : Gd (up S (61 + x) y) := by
  have j := Gd_join g h
  have w := whyM_0 g h
  have ga := g.a
  have gb := g.b
  have e : ∀ k, ¬ k = 59 → ¬ k = 60 → joinS S x y k = up S (61 + x) y k := fun k k1 k2 => by
    unfold joinS
    unfold up
    split
    · rfl
    · exact (by unfold goS; rw [up_ne k1, up_ne k2])
  have e1 : up S (61 + x) y 1 = S 1 := up_ne (by omega)
  have e2 : up S (61 + x) y 2 = S 2 := up_ne (by omega)
  have e59 : up S (61 + x) y 59 = S 59 := up_ne (by omega)
  refine ⟨GdW_up g.1 ?_, by rw [e59, e2]; exact g.2.1, fun i i0 i1 => ?_, fun i k i0 i1 k1 i3 i4 => ?_⟩
  · unfold okZ; omega
  · have := j.2.2.1 i i0 i1
    rw [e (61 + i) (by omega) (by omega), e 1 (by omega) (by omega), e 2 (by omega) (by omega)] at this
    exact this
  · have := j.2.2.2 i k i0 i1
    rw [e (61 + i) (by omega) (by omega), e (61 + k) (by omega) (by omega), e 1 (by omega) (by omega)] at this
    exact this k1 i3 i4
theorem Gd_up {S : Int → Int} (g : Gd S) {z v : Int} (hz : z = 0 ∨ z = 9 ∨ z = 60 ∨ 73 ≤ z) : Gd (up S z v) := g.cg (fun k h1 h2 h3 h4 => up_ne (by omega))
theorem ln_keep {T : Int → Int} {n a : Int} {S : Int → Int} (hn : n ≤ 900) (a0 : 0 ≤ a) (ha : a ≤ n) (p : PG S) {q : Int × (Int → Int)} (hq : lnP T n a S = .inr q) : PG q.2 ∧ a + 1 ≤ q.1 ∧ q.1 ≤ n ∧ q.2 0 = S 0 := by
  have nr := nx_rng (T := T) (n := n) ha
  have gd := p.1
  have ga := gd.a
  have gb := gd.b
  have p0 := p.2.2.2.2
  have p59 := p.2.2.2.1.1
  have adv' : ∀ k, tkK T n a = k → ¬ k = 22 → a + 1 ≤ nx T n a := fun k e ne => nr.2.2 (tkK_22 (T := T) (by omega))
  have fin : ∀ (b : Int) (S' : Int → Int), Gd S' → (∀ k, (k = 0 ∨ k = 9 ∨ k = 59 ∨ k = 60 ∨ k = 73 ∨ 214 ≤ k) → S' k = S k) → a + 1 ≤ b → b ≤ n → PG (b, S').2 ∧ a + 1 ≤ (b, S').1 ∧ (b, S').1 ≤ n ∧ (b, S').2 0 = S 0 := fun b S' g e h1 h2 => ⟨p.cg g (fun k hk => e k (by omega)) (by show 0 ≤ S' 0; rw [e 0 (by omega)]; exact p0), h1, h2, e 0 (by omega)⟩
  unfold lnP at hq
  split at hq
  · rename_i c
    have := adv' 0 c.1 (by omega)
    unfold rlP at hq
    split at hq
    · cases hq
    · rename_i q' e'
      obtain ⟨i1, i2, i3, i4, i5, i6⟩ := rw_ok 13 0 (nx T n a) S nr.2.1 (by omega) (by omega) q' e'
      cases hq
      refine fin _ _ (Gd_rail gd c.2 p59 (k := q'.2.1) (by omega) (up_same _ _ _) (fun z z1 z2 => by rw [up_ne z1]; exact i5 z (by omega)) (fun i i0 i1 => ?_)) (fun k hk => by rw [up_ne (by omega)]; exact i5 k (by omega)) (by omega) i2
      rw [up_ne (by omega)]
      by_cases z : i < q'.2.1
      · have := i6 (23 + i) (by omega) (by omega); omega
      · rw [i5 _ (by omega)]; exact gd.1.2.2.2.2.2.2.2.2.2.2.1 i i0 i1
  split at hq
  · rename_i c
    have := adv' 1 c.1 (by omega)
    unfold rlP at hq
    split at hq
    · cases hq
    · rename_i q' e'
      obtain ⟨i1, i2, i3, i4, i5, i6⟩ := rw_ok 13 0 (nx T n a) S nr.2.1 (by omega) (by omega) q' e'
      cases hq
      refine fin _ _ (Gd_cloth gd c.2 (k := q'.2.1) (by omega) (up_same _ _ _) (fun z z1 z2 => by rw [up_ne z1]; exact i5 z (by omega)) (fun i i0 i1 => ?_)) (fun k hk => by rw [up_ne (by omega)]; exact i5 k (by omega)) (by omega) i2
      rw [up_ne (by omega)]
      by_cases z : i < q'.2.1
      · have := i6 (11 + i) (by omega) (by omega); omega
      · rw [i5 _ (by omega)]; exact gd.1.2.2.2.2.2.2.2.2.2.1 i i0 i1
  split at hq
  · rename_i c
    have := adv' 6 c (by omega)
    unfold lwP at hq
    split at hq
    · rename_i c26
      have nr2 := nx_rng (T := T) (n := n) nr.2.1
      split at hq
      · cases hq
      · rename_i q' e'
        have ok := prt_ok 43 0 0 (nx T n (nx T n a)) nr2.2.1 q' e'
        have ty : tyc q'.2 [] = some [true] := prt_ty 43 0 0 (nx T n (nx T n a)) (by omega) (by omega) nr2.2.1 [] (by simp) q' e'
        cases hq
        have u0 : up S 214 0 214 = 0 := up_same _ _ _
        have o : ∀ z, ¬ z = 9 → z < 214 → up (appC (up S 214 0) q'.2) 9 1 z = S z := fun z z1 z2 => by
          rw [up_ne z1, appC_o q'.2 _ (by rw [u0]; omega) z (by omega) (by rw [u0]; omega), up_ne (by omega)]
        have l1 : up (appC (up S 214 0) q'.2) 9 1 214 = q'.2.length := by rw [up_ne (by omega), appC_214, u0]; omega
        have ne : 1 ≤ q'.2.length := by
          cases hl : q'.2 with
          | nil => rw [hl] at ty; cases ty
          | cons x y => simp
        dsimp only
        refine ⟨⟨gd.cg (fun k h1 h2 h3 h4 => o k h3 (by omega)), ⟨Or.inr (up_same _ _ _), fun _ => ⟨by rw [l1]; omega, by rw [l1]; omega, ?_⟩⟩, by rw [l1]; omega, by rw [o 59 (by omega) (by omega), o 60 (by omega) (by omega), o 73 (by omega) (by omega)]; exact p.2.2.2.1, by rw [o 0 (by omega) (by omega)]; exact p0⟩, by omega, ok.2, o 0 (by omega) (by omega)⟩
        rw [l1, Int.toNat_natCast, tyr_cg (S := appC (up S 214 0) q'.2) (fun k hk => up_ne (by omega)) _ _ _ (by omega)]
        have := appC_ty q'.2 (up S 214 0) [] (by rw [u0]; omega)
        rw [u0] at this
        rw [this]
        exact ty
    · cases hq
  split at hq
  · rename_i c
    have := adv' 7 c (by omega)
    unfold chP at hq
    split at hq
    · cases hq
    · rename_i q1 e1
      have t1 := tak_ok nr.2.1 e1
      split at hq
      · cases hq
      · rename_i q2 e2
        have t2 := tak_ok t1.2.1 e2
        split at hq
        · cases hq
        · rename_i q3 e3
          have t3 := tak_ok t2.2.1 e3
          cases hq
          exact fin _ _ (gd.w (GdW_up (GdW_up (GdW_up gd.1 (by unfold okZ; omega)) (by unfold okZ; omega)) (by unfold okZ; omega)) (fun k hk => by rw [up_ne (by omega), up_ne (by omega), up_ne (by omega)])) (fun k hk => by rw [up_ne (by omega), up_ne (by omega), up_ne (by omega)]) (by omega) t3.2.1
  split at hq
  · rename_i c
    have := adv' 8 c (by omega)
    unfold plP at hq
    split at hq
    · cases hq
    · rename_i q1 e1
      have t1 := tak_ok nr.2.1 e1
      cases hq
      exact fin _ _ (gd.w (GdW_up gd.1 (by unfold okZ; omega)) (fun k hk => by rw [up_ne (by omega)])) (fun k hk => by rw [up_ne (by omega)]) (by omega) t1.2.1
  split at hq
  · rename_i c
    have := adv' 9 c (by omega)
    unfold slP at hq
    split at hq
    · cases hq
    · rename_i q1 e1
      have t1 := tak_ok nr.2.1 e1
      split at hq
      · cases hq
      · rename_i q2 e2
        have t2 := tak_ok t1.2.1 e2
        cases hq
        exact fin _ _ (gd.w (GdW_up (GdW_up gd.1 (by unfold okZ; omega)) (by unfold okZ; omega)) (fun k hk => by rw [up_ne (by omega), up_ne (by omega)])) (fun k hk => by rw [up_ne (by omega), up_ne (by omega)]) (by omega) t2.2.1
  split at hq
  · cases hq
  rename_i chung
  have mk : ∀ many o, (many = S 1 ∧ o = 35) ∨ (many = S 2 ∧ o = 47) → mkP T n many o (nx T n a) S = .inr q → a + 1 ≤ nx T n a → PG q.2 ∧ a + 1 ≤ q.1 ∧ q.1 ≤ n ∧ q.2 0 = S 0 := fun many o hmo hq adv1 => by
    unfold mkP at hq
    split at hq
    · cases hq
    · rename_i q1 e1
      have t1 := tak_ok nr.2.1 e1
      split at hq
      · have nr2 := nx_rng (T := T) (n := n) t1.2.1
        split at hq
        · cases hq
        · rename_i q2 e2
          have t2 := tak_ok nr2.2.1 e2
          cases hq
          exact fin _ _ (gd.w (GdW_up gd.1 (by unfold okZ; omega)) (fun k hk => by rw [up_ne (by omega)])) (fun k hk => by rw [up_ne (by omega)]) (by omega) t2.2.1
      · cases hq
  split at hq
  · rename_i c
    exact mk _ _ (Or.inl ⟨rfl, rfl⟩) hq (adv' 2 c (by omega))
  split at hq
  · rename_i c
    exact mk _ _ (Or.inr ⟨rfl, rfl⟩) hq (adv' 4 c (by omega))
  split at hq
  · rename_i c
    have := adv' 5 c (by omega)
    unfold brP at hq
    split at hq
    · cases hq
    · rename_i q1 e1
      have t1 := tak_ok nr.2.1 e1
      cases hq
      exact fin _ _ (Gd_brk gd (by omega)) (fun k hk => by rw [up_ne (by omega)]) (by omega) t1.2.1
  split at hq
  · rename_i c
    have := adv' 10 c (by omega)
    unfold jnP at hq
    split at hq
    · cases hq
    · rename_i q1 e1
      have t1 := tak_ok nr.2.1 e1
      split at hq
      · cases hq
      · rename_i c2
        split at hq
        · cases hq
        · rename_i q2 e2
          have t2 := tak_ok t1.2.1 e2
          cases hq
          have w0 : whyM S q1.2 q2.2 = 0 := by
            by_cases z : whyM S q1.2 (tkN T n q1.1) = 0
            · rw [t2.2.2.2.2.2.1]; exact z
            · exact absurd ⟨t2.2.2.2.2.1, Or.inr z⟩ c2
          exact fin _ _ (Gd_jn gd w0) (fun k hk => by rw [up_ne (by omega)]) (by omega) t2.2.1
  · cases hq
theorem PG_pl : PG plS := by
  refine ⟨⟨⟨?_, ?_, ?_, ?_, ?_, ?_, ?_, ?_, ?_, fun i i0 i1 => ?_, fun i i0 i1 => ?_, fun i i0 i1 => ?_, fun i i0 i1 => ?_, fun r r0 r1 => ?_⟩, ?_, fun i i0 i1 => ?_, fun i j i0 i1 j1 i3 i4 => ?_⟩, ⟨Or.inl rfl, fun z => by cases z⟩, by decide, ⟨rfl, rfl, rfl⟩, by decide⟩
  · decide
  · decide
  · decide
  · decide
  · decide
  · exact Or.inl rfl
  · decide
  · decide
  · decide
  · simp (disch := omega) only [plS, if_neg]; omega
  · simp (disch := omega) only [plS, if_neg]; omega
  · simp (disch := omega) only [plS, if_neg]; omega
  · simp (disch := omega) only [plS, if_neg]; omega
  · show bt (plS 10) r = 0
    rw [show plS 10 = 0 from rfl, bt_0]
  · decide
  · have : plS (61 + i) = -1 := by simp (disch := omega) only [plS, if_neg, if_pos]
    rw [this]
    have e1 : plS 1 = 0 := rfl
    have e2 : plS 2 = 0 := rfl
    omega
  · have e1 : plS 1 = 0 := rfl
    omega
theorem wd_keep {T : Int → Int} {n : Int} (hn : n ≤ 900) : ∀ (c : Nat) (a : Int) (S : Int → Int), 0 ≤ a → a ≤ n → PG S → ∀ q, wdP T n c a S = .inr q → PG q.2 := by
  intro c
  induction c with
  | zero => intro a S _ _ p q hq; cases hq; exact p
  | succ c ih =>
    intro a S a0 a1 p q hq
    simp only [wdP] at hq
    split at hq
    · cases hq; exact p
    · split at hq
      · cases hq
      · rename_i q' e'
        obtain ⟨k1, k2, k3, k4⟩ := ln_keep hn a0 a1 p e'
        split at hq
        · have nr := nx_rng (T := T) (n := n) k3
          refine ih _ _ (by omega) nr.2.1 ?_ q hq
          exact k1.cg (Gd_up k1.1 (Or.inl rfl)) (fun k hk => up_ne (by omega)) (by rw [up_same]; have := k1.2.2.2.2; omega)
        · cases hq
