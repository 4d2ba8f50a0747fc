/-! rows that tell the same window: the same joinings -/
def As (S S' : Int → Int) : Prop := ∀ k, k < 59 ∨ 214 ≤ k → S' k = S k
theorem As.ag {S S' : Int → Int} (a : As S S') : Ag S S' := fun k _ h => a k h
theorem As.rf {S : Int → Int} : As S S := fun _ _ => rfl
theorem As.tr {S S' S'' : Int → Int} (a : As S S') (b : As S' S'') : As S S'' := fun k h => (b k h).trans (a k h)
theorem Ah.as {S S' : Int → Int} (a : Ah S S') : As S S' := fun k h => a k (by omega)
def Al (S S' : Int → Int) : Prop := ∀ k, k < 59 → S' k = S k
theorem As.al {S S' : Int → Int} (a : As S S') : Al S S' := fun k h => a k (Or.inl h)
theorem sagM_as {S S' : Int → Int} (a : Al S S') {x r g s : Int} (hg : g ≤ 12) (hs : s ≤ 12) : sagM S' x r g s = sagM S x r g s := by
  unfold sagM
  rw [sm_congr (f := fun k => S' (11 + k)) (g := fun k => S (11 + k)) x (fun j j1 j2 => a _ (by omega)), sm_congr (f := fun k => S' (23 + k)) (g := fun k => S (23 + k)) r (fun j j1 j2 => a _ (by omega))]
theorem Fpl_as {S S' : Int → Int} (a : Al S S') {x r g s : Int} (hg : g ≤ 12) (hs : s ≤ 12) : Fpl S' x r g s = Fpl S x r g s := by
  unfold Fpl
  rw [a 10 (by omega), sagM_as a hg hs]
theorem Cpl_as {S S' : Int → Int} (a : Al S S') (gd : Gd S) (n : Int) {x r : Int} (hx : -1 ≤ x) (hr : -1 ≤ r) : Cpl S' n x r = Cpl S n x r := by
  have ga := gd.a
  have gb := gd.b
  unfold Cpl
  rw [a 1 (by omega), a 2 (by omega)]
  exact cnt_congr (fun x r g s h1 h2 h3 h4 h5 h6 => Fpl_as a (by omega) (by omega)) (fun _ _ => rfl) _ _ _ hx hr
theorem fullN_as {S S' : Int → Int} (a : Al S S') (gd : Gd S) : fullN S' = fullN S := by
  unfold fullN
  congr 1
  funext n
  rw [Cpl_as a gd n (by omega) (by omega)]
theorem Mc_as {S S' : Int → Int} (a : Al S S') (gd : Gd S) (m : Int) {y s : Int} (hy : -1 ≤ y) (hs : -1 ≤ s) : Mc S' m y s = Mc S m y s := by
  unfold Mc
  rw [a 10 (by omega), Cpl_as a gd m hy hs]
theorem lby_as {S S' : Int → Int} (a : Al S S') {mo sq x r g s v : Int} (hg : g ≤ 12) (hs : s ≤ 12) : lby S' mo sq x r g s v = lby S mo sq x r g s v := by
  unfold lby sgE
  rw [Fpl_as a hg hs, sagM_as a hg hs]
theorem lst_as {S S' : Int → Int} (a : Al S S') (gd : Gd S) (mo sq : Int) : ∀ (n : Nat) (x r : Int), lst S' mo sq n x r = lst S mo sq n x r := by
  have ga := gd.a
  have gb := gd.b
  intro n
  induction n with
  | zero => intro x r; rfl
  | succ n ih =>
    intro x r
    simp only [lst]
    rw [a 1 (by omega), a 2 (by omega)]
    exact fo_congr _ (fun g m g1 g2 => fo_congr _ (fun s m s1 s2 => by rw [ih, lby_as a (by omega) (by omega)]) m) _
theorem Lv_as {S S' : Int → Int} (a : Al S S') (gd : Gd S) (mo sq n x r : Int) : Lv S' mo sq n x r = Lv S mo sq n x r := lst_as a gd mo sq _ _ _
theorem eMo_as {S S' : Int → Int} (a : Al S S') (gd : Gd S) : eMo S' = eMo S := by
  unfold eMo
  rw [fullN_as a gd, Lv_as a gd]
theorem eSq_as {S S' : Int → Int} (a : Al S S') (gd : Gd S) : eSq S' = eSq S := by
  unfold eSq
  rw [fullN_as a gd, eMo_as a gd, Lv_as a gd]
theorem hwG_cg {P P' : Int → Int → Int → Int → Int → Bool} {R N z : Int} (hP : ∀ x r n g s, g < N → s < R → P x r n g s = P' x r n g s) : ∀ (m : Nat) (g x r n : Int), g + m ≤ N → hwG P R z m g x r n = hwG P' R z m g x r n := by
  intro m
  induction m with
  | zero => intro g x r n _; rfl
  | succ m ih =>
    intro g x r n hm
    have e : ff (P x r n g) (r + 1) R = ff (P' x r n g) (r + 1) R := ff_congr _ (fun j j1 j2 => hP x r n g j (by omega) j2)
    simp only [hwG]
    rw [e, ih (g + 1) x r n (by omega), ih (g + 1) g (ff (P' x r n g) (r + 1) R) (n - 1) (by omega)]
theorem evR_as {S S' : Int → Int} (a : Al S S') (gd : Gd S) (z : Int) : evR S' z = evR S z := by
  have ga := gd.a
  have gb := gd.b
  unfold evR
  rw [a 1 (by omega), a 2 (by omega), fullN_as a gd]
  refine hwG_cg (N := S 1) (fun x r n g s g1 s1 => ?_) _ _ _ _ _ (by omega)
  unfold PmE
  rw [eMo_as a gd, Lv_as a gd, Lv_as a gd, lby_as a (by omega) (by omega)]
theorem KJ.as {h : Hp} {S S' : Int → Int} (k : KJ h S) (a : Al S S') (gd : Gd S) : KJ h S' := by
  obtain ⟨k1, k2⟩ := k
  refine ⟨?_, ?_⟩
  · rcases k1 with k1 | ⟨k1, j1, j2, j3⟩
    · exact Or.inl k1
    · refine Or.inr ⟨k1, fun y s y0 y1 s0 s1 m m0 m1 => ?_, fun m m0 m1 => ?_, by rw [fullN_as a gd]; exact j3⟩
      · rw [a 1 (by omega)] at y1
        rw [a 2 (by omega)] at s1
        show _ = Mc S' m y s
        rw [Mc_as a gd m (by omega) (by omega)]
        exact j1 y s y0 y1 s0 s1 m m0 m1
      · rw [Cpl_as a gd m (by omega) (by omega)]
        exact j2 m m0 m1
  · rcases k2 with k2 | ⟨k2, e1, e2, e3⟩
    · exact Or.inl k2
    · refine Or.inr ⟨k2, fun z hz => ?_, by rw [eMo_as a gd]; exact e2, by rw [eSq_as a gd]; exact e3⟩
      rw [a 1 (by omega)] at hz
      rw [evR_as a gd]
      exact e1 z hz
/-! the class's state -/
def imR (S : Int → Int) (i : Int) : Int → Int := fun k => if 0 ≤ k ∧ k < 1115 then S (1115 * (i + 1) + k) else 0
def CBa (h : Hp) (w : Nat) (S : Int → Int) : Prop := CR h w ∧ WV h w S ∧ RV h w S ∧ HV h 26 S ∧ HisV h S ∧ KJ h S
def CBb (h : Hp) (T rs rm nb : Int → Int) (n fk fp : Int) : Prop := TV h rs rm nb ∧ (∀ k : Nat, k < 900 → hI h 7 k = sb (T k)) ∧ (hI h 6 1 = n ∧ hI h 6 3 = fk ∧ hI h 6 4 = fp) ∧ hI h 67 0 = 0 ∧ STR h
def CBi (h : Hp) (S G : Int → Int) : Prop := ∀ i : Nat, i < 2 → hI h 43 i = G i ∧ (G i = 1 → WV h (44 + 8 * i) (imR S i) ∧ RV h (44 + 8 * i) (imR S i) ∧ HV h (50 + 8 * i) (imR S i))
def CB (h : Hp) (w : Nat) (S G T rs rm nb : Int → Int) (n fk fp : Int) : Prop := CBa h w S ∧ CBb h T rs rm nb n fk fp ∧ CBi h S G
/-- cells of the class that its state does not speak of -/
def pQ (w a k : Nat) : Prop := (8 ≤ a ∧ a ≤ 13) ∨ (34 - w ≤ a ∧ a ≤ 39 - w) ∨ a = 28 ∨ a = 29 ∨ (60 ≤ a ∧ a ≤ 71 ∧ ¬ (a = 67 ∧ k = 0))
theorem CB.fr {h h' : Hp} {w : Nat} {S G T rs rm nb : Int → Int} {n fk fp : Int} (c : CB h w S G T rs rm nb n fk fp) {p : Nat → Nat → Prop} (f : Fr p h h') (hp : ∀ a k, p a k → pQ w a k) (kj : KJ h' S) : CB h' w S G T rs rm nb n fk fp := by
  obtain ⟨⟨c1, c2, c3, c4, c5, c6⟩, ⟨b1, b2, b3, b4, b5⟩, ci⟩ := c
  have wd := c1.wd
  have np : ∀ a k, ¬ pQ w a k → ¬ p a k := fun a k q z => q (hp a k z)
  refine ⟨⟨c1.fr f, c2.fr f (fun a k a0 a1 => np _ _ (by unfold pQ; omega)), c3.fr f (fun k => np _ _ (by unfold pQ; omega)), c4.fr f (fun k => np _ _ (by unfold pQ; omega)) (fun k => np _ _ (by unfold pQ; omega)), c5.fr f (fun k => np _ _ (by unfold pQ; omega)) (fun k => np _ _ (by unfold pQ; omega)), kj⟩, ⟨b1.fr f (fun a k a0 a1 => np _ _ (by unfold pQ; omega)), fun k hk => by rw [f.I (np _ _ (by unfold pQ; omega))]; exact b2 k hk, by rw [f.I (np 6 1 (by unfold pQ; omega)), f.I (np 6 3 (by unfold pQ; omega)), f.I (np 6 4 (by unfold pQ; omega))]; exact b3, by rw [f.I (np _ _ (by unfold pQ; omega))]; exact b4, b5.fr f (fun a k z => by have := hp a k z; unfold pQ at this; omega)⟩, fun i hi => ?_⟩
  obtain ⟨i1, i2⟩ := ci i hi
  refine ⟨by rw [f.I (np _ _ (by unfold pQ; omega))]; exact i1, fun z => ?_⟩
  obtain ⟨j1, j2, j3⟩ := i2 z
  exact ⟨j1.fr f (fun a k a0 a1 => np _ _ (by unfold pQ; omega)), j2.fr f (fun k => np _ _ (by unfold pQ; omega)), j3.fr f (fun k => np _ _ (by unfold pQ; omega)) (fun k => np _ _ (by unfold pQ; omega))⟩
/-- a row of the same window -/
theorem CB.row {h h' : Hp} {w : Nat} {S S' G T rs rm nb : Int → Int} {n fk fp : Int} (c : CB h w S G T rs rm nb n fk fp) (gd : Gd S) {p : Nat → Nat → Prop} (f : Fr p h h') (hp : ∀ a k, p a k → 26 ≤ a ∧ a ≤ 31) (hv : HV h' 26 S') (hs : HisV h' S') (a : As S S') : CB h' w S' G T rs rm nb n fk fp := by
  obtain ⟨⟨c1, c2, c3, c4, c5, c6⟩, ⟨b1, b2, b3, b4, b5⟩, ci⟩ := c
  have wd := c1.wd
  have np : ∀ a k, ¬ (26 ≤ a ∧ a ≤ 31) → ¬ p a k := fun a k q z => q (hp a k z)
  refine ⟨⟨c1.fr f, (c2.fr f (fun a k a0 a1 => np _ _ (by omega))).ag a.ag gd.1, (c3.fr f (fun k => np _ _ (by omega))).ag a.ag gd.1, hv, hs, (c6.fr f (fun a k z => by have := hp a k z; omega)).as a.al gd⟩, ⟨b1.fr f (fun a k a0 a1 => np _ _ (by omega)), fun k hk => by rw [f.I (np _ _ (by omega))]; exact b2 k hk, by rw [f.I (np 6 1 (by omega)), f.I (np 6 3 (by omega)), f.I (np 6 4 (by omega))]; exact b3, by rw [f.I (np _ _ (by omega))]; exact b4, b5.fr f (fun a k z => by have := hp a k z; omega)⟩, fun i hi => ?_⟩
  obtain ⟨i1, i2⟩ := ci i hi
  have e : imR S' i = imR S i := by
    funext k
    unfold imR
    by_cases z : 0 ≤ k ∧ k < 1115
    · rw [if_pos z, if_pos z]; exact a _ (by omega)
    · rw [if_neg z, if_neg z]
  rw [e]
  refine ⟨by rw [f.I (np _ _ (by omega))]; exact i1, fun z => ?_⟩
  obtain ⟨j1, j2, j3⟩ := i2 z
  exact ⟨j1.fr f (fun a k a0 a1 => np _ _ (by omega)), j2.fr f (fun k => np _ _ (by omega)), j3.fr f (fun k => np _ _ (by omega)) (fun k => np _ _ (by omega))⟩
