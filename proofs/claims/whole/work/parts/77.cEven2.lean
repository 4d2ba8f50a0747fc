/-! the class: leastOfFull, chooseEven, evenFor -/
def lm (a b : Int) : Int := if b < a then b else a
def bdE (m : Int) : Prop := -1 ≤ m ∧ m ≤ 100000000
theorem toF_fo {F : Int → Int → Int} {N : Int} : ∀ i, (∀ j m, i ≤ j → j < N → bdE m → toF (F j m) = lm (toF m) (toF (F j (-1))) ∧ bdE (F j m)) → ∀ m, bdE m → toF (fo F i N m) = lm (toF m) (toF (fo F i N (-1))) ∧ bdE (fo F i N m) := by
  refine up_ind (hi := N) ?_ ?_
  · intro i hi _ m hm
    rw [fo_stop hi, fo_stop hi]
    refine ⟨?_, hm⟩
    have := toF_rng hm
    have e9 : toF (-1) = 536870912 := rfl
    unfold lm
    split <;> omega
  · intro i hi ih h m hm
    have b0 : bdE (-1) := by unfold bdE; omega
    have h1 := h i m (by omega) hi hm
    have h2 := h i (-1) (by omega) hi b0
    have ih' := ih (fun j m a b c => h j m (by omega) b c)
    have a1 := ih' (F i m) h1.2
    have a2 := ih' (F i (-1)) h2.2
    rw [fo_step hi, fo_step hi]
    refine ⟨?_, a1.2⟩
    rw [a1.1, a2.1, h1.1]
    unfold lm
    repeat' split
    all_goals omega
theorem toF_m1 {v : Int} (hv : bdE v) {m : Int} (hm : bdE m) : toF (mn1 v m) = lm (toF m) (toF (mn1 v (-1))) ∧ bdE (mn1 v m) := by
  have b0 : bdE (-1) := by unfold bdE; omega
  have e9 : toF (-1) = 536870912 := rfl
  have t1 := toF_rng hv
  have t2 := toF_rng hm
  refine ⟨?_, mn1_rng hv hm⟩
  rw [toF_mn hv hm, toF_mn hv b0]
  unfold lm
  repeat' split
  all_goals omega
theorem lby_bd {S : Int → Int} (gd : Gd S) (mo sq : Int) {n g s : Int} (hn : 1 ≤ n ∧ n ≤ 12) (hg : 0 ≤ g ∧ g < S 1) (hs : 0 ≤ s ∧ s < S 2) : bdE (lby S mo sq (-1) (-1) g s (Lv S mo sq (n - 1) g s)) := by
  have lr := Lv_rng gd mo sq (n := n - 1) (by omega) (x := g) (r := s) (by omega) (by omega) (by omega)
  have br := lby_rng gd mo sq (x := -1) (r := -1) (g := g) (s := s) (v := Lv S mo sq (n - 1) g s) (B := 17280000) (by omega) (by omega) (by omega) lr (by omega)
  unfold bdE
  omega
/-- one hook, from ring r+1 on; all hooks behind x -/
def lB (S : Int → Int) (mo sq x r : Int) : Int := fo (fun s m => mn1 (lby S mo sq (-1) (-1) x s (Lv S mo sq (fullN S - 1) x s)) m) (r + 1) (S 2) (-1)
def lA (S : Int → Int) (mo sq x : Int) : Int := fo (inS S mo sq (fullN S) (-1) (-1)) (x + 1) (S 1) (-1)
theorem lB_bd {S : Int → Int} (gd : Gd S) (mo sq : Int) {x r : Int} (hN : 1 ≤ fullN S) (hx : 0 ≤ x ∧ x < S 1) (hr : -1 ≤ r) : bdE (lB S mo sq x r) ∧ ∀ m, bdE m → toF (fo (fun s m => mn1 (lby S mo sq (-1) (-1) x s (Lv S mo sq (fullN S - 1) x s)) m) (r + 1) (S 2) m) = lm (toF m) (toF (lB S mo sq x r)) := by
  have fs := fullN_spec S
  have a := toF_fo (F := fun s m => mn1 (lby S mo sq (-1) (-1) x s (Lv S mo sq (fullN S - 1) x s)) m) (N := S 2) (r + 1) (fun j m j1 j2 bm => toF_m1 (lby_bd gd mo sq (by omega) hx (by omega)) bm)
  exact ⟨(a (-1) (by unfold bdE; omega)).2, fun m bm => (a m bm).1⟩
theorem lB_s {S : Int → Int} (gd : Gd S) (mo sq : Int) {x r : Int} (hN : 1 ≤ fullN S) (hx : 0 ≤ x ∧ x < S 1) (hr : 0 ≤ r ∧ r < S 2) : toF (lB S mo sq x (r - 1)) = lm (toF (lby S mo sq (-1) (-1) x r (Lv S mo sq (fullN S - 1) x r))) (toF (lB S mo sq x r)) := by
  have fs := fullN_spec S
  have b0 : bdE (-1) := by unfold bdE; omega
  have bl := lby_bd gd mo sq (n := fullN S) (by omega) hx hr
  have t1 := toF_m1 bl b0
  have a := (lB_bd gd mo sq (x := x) (r := r) hN hx (by omega)).2 (mn1 (lby S mo sq (-1) (-1) x r (Lv S mo sq (fullN S - 1) x r)) (-1)) t1.2
  have e9 : toF (-1) = 536870912 := rfl
  have e : lB S mo sq x (r - 1) = fo (fun s m => mn1 (lby S mo sq (-1) (-1) x s (Lv S mo sq (fullN S - 1) x s)) m) (r + 1) (S 2) (mn1 (lby S mo sq (-1) (-1) x r (Lv S mo sq (fullN S - 1) x r)) (-1)) := by
    unfold lB
    rw [show r - 1 + 1 = r by omega, fo_step hr.2]
  rw [e, a, toF_mn bl b0]
  have t2 := toF_rng bl
  unfold lm
  repeat' split
  all_goals omega
theorem lA_s {S : Int → Int} (gd : Gd S) (mo sq : Int) {x : Int} (hN : 1 ≤ fullN S) (hx : 0 ≤ x ∧ x < S 1) : toF (lA S mo sq (x - 1)) = lm (toF (lA S mo sq x)) (toF (lB S mo sq x (-1))) := by
  have fs := fullN_spec S
  have b0 : bdE (-1) := by unfold bdE; omega
  have e9 : toF (-1) = 536870912 := rfl
  have hin : ∀ g, 0 ≤ g → g < S 1 → ∀ m, bdE m → toF (inS S mo sq (fullN S) (-1) (-1) g m) = lm (toF m) (toF (lB S mo sq g (-1))) := fun g g0 g1 m bm => (lB_bd gd mo sq (x := g) (r := -1) hN ⟨g0, g1⟩ (by omega)).2 m bm
  have hb : ∀ g, 0 ≤ g → g < S 1 → ∀ m, bdE m → bdE (inS S mo sq (fullN S) (-1) (-1) g m) := fun g g0 g1 m bm => by
    have := toF_fo (F := fun s m => mn1 (lby S mo sq (-1) (-1) g s (Lv S mo sq (fullN S - 1) g s)) m) (N := S 2) (-1 + 1) (fun j m j1 j2 bm => toF_m1 (lby_bd gd mo sq (by omega) ⟨g0, g1⟩ (by omega)) bm) m bm
    exact this.2
  have a := toF_fo (F := inS S mo sq (fullN S) (-1) (-1)) (N := S 1) (x + 1) (fun j m j1 j2 bm => ⟨by
    rw [hin j (by omega) j2 m bm, hin j (by omega) j2 (-1) b0]
    have t := toF_rng bm
    have t2 := toF_rng (lB_bd gd mo sq (x := j) (r := -1) hN ⟨by omega, j2⟩ (by omega)).1
    unfold lm
    repeat' split
    all_goals omega, hb j (by omega) j2 m bm⟩)
  have e : lA S mo sq (x - 1) = fo (inS S mo sq (fullN S) (-1) (-1)) (x + 1) (S 1) (inS S mo sq (fullN S) (-1) (-1) x (-1)) := by
    unfold lA
    rw [show x - 1 + 1 = x by omega, fo_step hx.2]
  rw [e, (a _ (hb x hx.1 hx.2 (-1) b0)).1, hin x hx.1 hx.2 (-1) b0]
  have t1 := toF_rng (a (-1) b0).2
  have t2 := toF_rng (lB_bd gd mo sq (x := x) (r := -1) hN hx (by omega)).1
  unfold lm lA
  repeat' split
  all_goals omega
theorem lby_1 {S : Int → Int} {mo sq g s v : Int} (hm : mo = -1 ∨ 0 ≤ mo) (hv : -1 ≤ v) : lby S mo sq (-1) (-1) g s v = if bt (S 10) s = 0 then v else -1 := by
  have cf : Fpl S (-1) (-1) g s = decide (bt (S 10) s = 0) := by simp [Fpl]
  have es : sgE S (-1) (-1) g s = 0 := by unfold sgE; rw [if_pos rfl]
  unfold lby
  rw [cf, es]
  by_cases c : bt (S 10) s = 0
  · simp only [c, decide_true, if_true]
    repeat' split
    all_goals omega
  · simp [c]
