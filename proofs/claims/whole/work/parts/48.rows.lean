/-! rows that agree; a join, an unhooking -/
/-- the same window: all but joins, chair, seconds, what can be undone -/
def Ag (S S' : Int → Int) : Prop := ∀ k, 0 ≤ k → (k < 59 ∨ 214 ≤ k) → S' k = S k
theorem Ag.rf {S : Int → Int} : Ag S S := fun _ _ _ => rfl
theorem Ag.tr {S S' S'' : Int → Int} (a : Ag S S') (b : Ag S' S'') : Ag S S'' := fun k h0 h => (b k h0 h).trans (a k h0 h)
theorem Ag.up {S S' : Int → Int} (a : Ag S S') {z v : Int} (h1 : 59 ≤ z) (h2 : z < 214) : Ag S (up S' z v) := fun k h0 h => by rw [up_ne (by omega)]; exact a k h0 h
theorem sm_ag {S S' : Int → Int} (a : Ag S S') {o : Int} (ho : 0 ≤ o) (ho2 : o ≤ 40) {i N : Int} (h0 : 0 ≤ i) (hN : N ≤ 12) : sm (fun j => S' (o + j)) i N = sm (fun j => S (o + j)) i N := sm_congr i (fun j h1 h2 => a (o + j) (by omega) (by omega))
theorem Ag.gdw {S S' : Int → Int} (a : Ag S S') (g : GdW S) : GdW S' := by
  unfold GdW at *
  rw [a 1 (by omega) (by omega), a 2 (by omega) (by omega), a 3 (by omega) (by omega), a 4 (by omega) (by omega), a 5 (by omega) (by omega), a 6 (by omega) (by omega), a 7 (by omega) (by omega), a 8 (by omega) (by omega), a 10 (by omega) (by omega)]
  obtain ⟨g1, g2, g3, g4, g5, g6, g7, g8, g9, g10, g11, g12, g13, g14⟩ := g
  refine ⟨g1, g2, g3, g4, g5, g6, g7, g8, g9, fun i h0 h1 => ?_, fun i h0 h1 => ?_, fun i h0 h1 => ?_, fun i h0 h1 => ?_, g14⟩
  · rw [a _ (by omega) (by omega)]; exact g10 i h0 h1
  · rw [a _ (by omega) (by omega)]; exact g11 i h0 h1
  · rw [a _ (by omega) (by omega)]; exact g12 i h0 h1
  · rw [a _ (by omega) (by omega)]; exact g13 i h0 h1
theorem evl_ag {S S' : Int → Int} (a : Ag S S') {x y : Int} (hx : 0 ≤ x ∧ x < 12) (hy : 0 ≤ y ∧ y < 12) : ∀ (n : Nat) (k : Int) (st : List Int), 0 ≤ k → evl S' x y n k st = evl S x y n k st := by
  intro n
  induction n with
  | zero => intro k st _; rfl
  | succ n ih =>
    intro k st hk
    have e : stp S' x y (S' (215 + k)) st = stp S x y (S (215 + k)) st := by
      rw [a (215 + k) (by omega) (by omega)]
      unfold stp cellV
      rw [a (35 + x) (by omega) (by omega), a (47 + y) (by omega) (by omega), a 1 (by omega) (by omega), a 2 (by omega) (by omega)]
    simp only [evl]
    rw [e, ih _ _ (by omega)]
theorem tyr_ag {S S' : Int → Int} (a : Ag S S') : ∀ (n : Nat) (k : Int) (t : List Bool), 0 ≤ k → tyr S' n k t = tyr S n k t := by
  intro n
  induction n with
  | zero => intro k t _; rfl
  | succ n ih =>
    intro k t hk
    simp only [tyr]
    rw [a (215 + k) (by omega) (by omega)]
    cases tys (S (215 + k)) t with
    | none => rfl
    | some t' => simp only [ih (k + 1) t' (by omega)]
theorem Ag.lawV {S S' : Int → Int} (a : Ag S S') {x y : Int} (hx : 0 ≤ x ∧ x < 12) (hy : 0 ≤ y ∧ y < 12) : lawV S' x y = lawV S x y := by
  unfold Jvm.Pilot.@@N@@.lawV
  rw [a 9 (by omega) (by omega), a 214 (by omega) (by omega), evl_ag a hx hy _ _ _ (by omega)]
theorem Ag.lo {S S' : Int → Int} (a : Ag S S') (l : LawOk S) : LawOk S' := by
  unfold LawOk at *
  rw [a 9 (by omega) (by omega), a 214 (by omega) (by omega), tyr_ag a _ _ _ (by omega)]
  exact l
theorem WV.ag {h : Hp} {w : Nat} {S S' : Int → Int} (v : WV h w S) (a : Ag S S') (g : GdW S) : WV h w S' := by
  obtain ⟨v1, v2, v3⟩ := v
  refine ⟨v1, ?_, ?_⟩
  · unfold WVf at *
    rw [a 1 (by omega) (by omega), a 2 (by omega) (by omega), a 3 (by omega) (by omega), a 4 (by omega) (by omega), a 5 (by omega) (by omega), a 6 (by omega) (by omega), a 7 (by omega) (by omega), a 8 (by omega) (by omega), a 10 (by omega) (by omega), a 0 (by omega) (by omega)]
    exact v2
  · unfold WVa at *
    have g1 := g.1
    have g2 := g.2.1
    refine ⟨fun k hk => ?_, fun k hk => ?_, fun k hk => ?_, fun k hk => ?_⟩
    · rw [a 1 (by omega) (by omega)] at hk
      rw [sm_ag a (by omega) (by omega) (by omega) (by omega)]; exact v3.1 k hk
    · rw [a 2 (by omega) (by omega)] at hk
      rw [sm_ag a (by omega) (by omega) (by omega) (by omega)]; exact v3.2.1 k hk
    · rw [a _ (by omega) (by omega)]; exact v3.2.2.1 k hk
    · rw [a _ (by omega) (by omega)]; exact v3.2.2.2 k hk
theorem RV.ag {h : Hp} {w : Nat} {S S' : Int → Int} (v : RV h w S) (a : Ag S S') (g : GdW S) : RV h w S' := by
  intro k hk r h0 h1
  have g1 := g.1
  have g2 := g.2.1
  rw [a 1 (by omega) (by omega)] at hk
  rw [a 2 (by omega) (by omega)] at h1
  rw [a.lawV (by omega) (by omega)]
  exact v k hk r h0 h1
theorem WinAt.fr {h h' : Hp} {w : Nat} (q : WinAt h w) {p : Nat → Nat → Prop} (f : Fr p h h') : WinAt h' w := by
  unfold WinAt at *
  simp only [f.K, f.N, f.R]
  exact q
theorem HangAt.fr {h h' : Hp} {w : Nat} (q : HangAt h w) {p : Nat → Nat → Prop} (f : Fr p h h') : HangAt h' w := by
  unfold HangAt at *
  simp only [f.K, f.N, f.R]
  exact q
theorem WV.fr {h h' : Hp} {w : Nat} {S : Int → Int} (v : WV h w S) {p : Nat → Nat → Prop} (f : Fr p h h') (hp : ∀ c k, w ≤ c → c ≤ w + 5 → ¬ p c k) : WV h' w S := by
  obtain ⟨v1, v2, v3⟩ := v
  refine ⟨v1.fr f, ?_, ?_⟩
  · unfold WVf at *
    rw [f.I (hp w _ (by omega) (by omega)), f.I (hp w _ (by omega) (by omega)), f.I (hp w _ (by omega) (by omega)), f.I (hp w _ (by omega) (by omega)), f.I (hp w _ (by omega) (by omega)), f.I (hp w _ (by omega) (by omega)), f.I (hp w _ (by omega) (by omega)), f.I (hp w _ (by omega) (by omega)), f.I (hp w _ (by omega) (by omega)), f.I (hp w _ (by omega) (by omega))]
    exact v2
  · unfold WVa at *
    refine ⟨fun k hk => ?_, fun k hk => ?_, fun k hk => ?_, fun k hk => ?_⟩
    · rw [f.I (hp _ _ (by omega) (by omega))]; exact v3.1 k hk
    · rw [f.I (hp _ _ (by omega) (by omega))]; exact v3.2.1 k hk
    · rw [f.I (hp _ _ (by omega) (by omega))]; exact v3.2.2.1 k hk
    · rw [f.I (hp _ _ (by omega) (by omega))]; exact v3.2.2.2 k hk
theorem RV.fr {h h' : Hp} {w : Nat} {S : Int → Int} (v : RV h w S) {p : Nat → Nat → Prop} (f : Fr p h h') (hp : ∀ k, ¬ p (w + 5) k) : RV h' w S := by
  intro k hk r h0 h1
  rw [f.I (hp k)]
  exact v k hk r h0 h1
theorem HV.fr {h h' : Hp} {w : Nat} {S : Int → Int} (v : HV h w S) {p : Nat → Nat → Prop} (f : Fr p h h') (hp : ∀ k, ¬ p w k) (hp2 : ∀ k, ¬ p (w + 1) k) : HV h' w S := by
  obtain ⟨v1, v2, v3, v4⟩ := v
  refine ⟨v1.fr f, ?_, ?_, fun k hk => ?_⟩
  · rw [f.I (hp 1)]; exact v2
  · rw [f.I (hp 2)]; exact v3
  · rw [f.I (hp2 k)]; exact v4 k hk
/-- the chair goes to r; hook x is joined to y; hook x is unhooked -/
def goS (S : Int → Int) (r : Int) : Int → Int := up (up S 60 (S 60 + scA S (S 59) r)) 59 (chF S (S 59) r)
def joinS (S : Int → Int) (x y : Int) : Int → Int := up (goS S y) (61 + x) y
def offS (S : Int → Int) (x : Int) : Int → Int := up (goS S (S (61 + x))) (61 + x) (-1)
theorem goS_ag (S : Int → Int) (r : Int) : Ag S (goS S r) := (Ag.rf.up (by omega) (by omega)).up (by omega) (by omega)
theorem joinS_ag (S : Int → Int) {x y : Int} (hx : 0 ≤ x ∧ x < 12) : Ag S (joinS S x y) := (goS_ag S y).up (by omega) (by omega)
theorem offS_ag (S : Int → Int) {x : Int} (hx : 0 ≤ x ∧ x < 12) : Ag S (offS S x) := (goS_ag S _).up (by omega) (by omega)
theorem goS_o {S : Int → Int} {r k : Int} (h : 61 ≤ k) : goS S r k = S k := by
  unfold goS
  rw [up_ne (by omega), up_ne (by omega)]
theorem goS_59 {S : Int → Int} {r : Int} : goS S r 59 = chF S (S 59) r := up_same _ _ _
theorem goS_60 {S : Int → Int} {r : Int} : goS S r 60 = S 60 + scA S (S 59) r := by
  unfold goS
  rw [up_ne (by omega), up_same]
/-- the chair stays within the rings -/
theorem chF_in {S : Int → Int} (g : GdW S) {c r : Int} (hc : 0 ≤ c ∧ c < S 2) (hr : 0 ≤ r ∧ r < S 2) : 0 ≤ chF S c r ∧ chF S c r < S 2 := by
  have := chF_rng g hc.1 hr.1
  omega
theorem whyM_0 {S : Int → Int} (g : Gd S) {x y : Int} (h : whyM S x y = 0) : (0 ≤ x ∧ x < S 1) ∧ (0 ≤ y ∧ y < S 2) ∧ S (61 + x) = -1 ∧ hookM S y = -1 ∧ bt (S 10) y = 0 ∧ ff (bad3 S x y) 0 (S 1) = -1 := by
  unfold whyM at h
  split at h
  · omega
  · split at h
    · omega
    · split at h
      · omega
      · have := bt_01 (S 10) y
        omega
theorem Gd_go {S : Int → Int} (g : Gd S) {r : Int} (hr : 0 ≤ r ∧ r < S 2) : 0 ≤ chF S (S 59) r ∧ chF S (S 59) r ≤ 11 ∧ (chF S (S 59) r = 0 ∨ chF S (S 59) r < S 2) := by
  have gb := g.b
  have g1 := g.2.1
  have := chF_rng (c := S 59) (r := r) g.1 (by omega) (by omega)
  omega
theorem Gd_join {S : Int → Int} (g : Gd S) {x y : Int} (h : whyM S x y = 0) : Gd (joinS S x y) := by
  obtain ⟨hx, hy, h1, h2, h3, h4⟩ := whyM_0 g h
  have ga := g.a
  have gb := g.b
  have ag := joinS_ag S (x := x) (y := y) (by omega)
  have e1 := ag 1 (by omega) (by omega)
  have e2 := ag 2 (by omega) (by omega)
  refine ⟨ag.gdw g.1, ?_, ?_, ?_⟩
  · have : joinS S x y 59 = chF S (S 59) y := by
      unfold joinS; rw [up_ne (by omega), goS_59]
    rw [this, e2]
    exact Gd_go g hy
  · intro i h0 h1
    rw [e1, e2]
    unfold joinS
    by_cases c : 61 + i = 61 + x
    · rw [c, up_same]
      omega
    · rw [up_ne c, goS_o (by omega)]
      exact g.rg h0 h1
  · intro i j h0 hij hj
    rw [e1] at hj
    have f0 := ff_spec (p := bad3 S x y) (N := S 1) 0
    have f1 : ∀ k, 0 ≤ k → k < S 1 → bad3 S x y k = false := by
      rcases f0 with q | q
      · exact q.2
      · omega
    have fh := ff_spec (p := fun k => decide (S (61 + k) = y)) (N := S 1) 0
    have f2 : ∀ k, 0 ≤ k → k < S 1 → ¬ S (61 + k) = y := by
      rcases fh with q | q
      · intro k a b; simpa using q.2 k a b
      · unfold hookM at h2; omega
    unfold joinS
    by_cases c : 61 + i = 61 + x
    · by_cases c' : 61 + j = 61 + x
      · omega
      · rw [c, up_same, up_ne c', goS_o (by omega)]
        intro _ q
        have a := f1 j (by omega) hj
        have b := f2 j (by omega) hj
        simp only [bad3, decide_eq_false_iff_not] at a
        omega
    · rw [up_ne c, goS_o (by omega)]
      by_cases c' : 61 + j = 61 + x
      · rw [c', up_same]
        intro q _
        have a := f1 i (by omega) (by omega)
        have b := f2 i (by omega) (by omega)
        simp only [bad3, decide_eq_false_iff_not] at a
        omega
      · rw [up_ne c', goS_o (by omega)]
        exact g.2.2.2 i j h0 hij hj
theorem offM_0 {S : Int → Int} {x : Int} (h : offM S x = 0) : (0 ≤ x ∧ x < S 1) ∧ ¬ S (61 + x) = -1 := by
  unfold offM at h
  split at h
  · omega
  · split at h
    · omega
    · omega
theorem Gd_off {S : Int → Int} (g : Gd S) {x : Int} (h : offM S x = 0) : Gd (offS S x) := by
  obtain ⟨hx, h1⟩ := offM_0 h
  have ga := g.a
  have gb := g.b
  have gx := g.rg hx.1 (by omega)
  have ag := offS_ag S (x := x) (by omega)
  have e1 := ag 1 (by omega) (by omega)
  have e2 := ag 2 (by omega) (by omega)
  refine ⟨ag.gdw g.1, ?_, ?_, ?_⟩
  · have : offS S x 59 = chF S (S 59) (S (61 + x)) := by
      unfold offS; rw [up_ne (by omega), goS_59]
    rw [this, e2]
    exact Gd_go g (by omega)
  · intro i h0 h1
    rw [e1, e2]
    unfold offS
    by_cases c : 61 + i = 61 + x
    · rw [c, up_same]
      omega
    · rw [up_ne c, goS_o (by omega)]
      exact g.rg h0 h1
  · intro i j h0 hij hj
    rw [e1] at hj
    unfold offS
    by_cases c : 61 + i = 61 + x
    · rw [c, up_same]; intro q; omega
    · rw [up_ne c, goS_o (by omega)]
      by_cases c' : 61 + j = 61 + x
      · rw [c', up_same]; intro _ q; omega
      · rw [up_ne c', goS_o (by omega)]
        exact g.2.2.2 i j h0 hij hj
