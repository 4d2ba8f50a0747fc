/-! lines: pure; what they keep -/
def tyc : List Int → List Bool → Option (List Bool)
  | [], t => some t
  | c :: r, t => match tys c t with
    | some t' => if t'.length ≤ 60 then tyc r t' else none
    | none => none
theorem tyc_app : ∀ (l m : List Int) (t u : List Bool), tyc l t = some u → tyc (l ++ m) t = tyc m u := by
  intro l
  induction l with
  | nil => intro m t u h; cases h; rfl
  | cons c r ih =>
    intro m t u h
    simp only [tyc] at h
    simp only [List.cons_append, tyc]
    cases hq : tys c t with
    | none => rw [hq] at h; cases h
    | some t' =>
      rw [hq] at h
      dsimp only at h ⊢
      split at h
      · rename_i c1
        rw [if_pos c1]
        exact ih m t' u h
      · cases h
theorem tyc_one {c : Int} {t u : List Bool} (h : tys c t = some u) (hl : u.length ≤ 60) : tyc [c] t = some u := by
  simp only [tyc]
  rw [h]
  simp [hl]
def tyB (lv : Int) : Bool := decide (lv ≤ 2)
theorem ty_op {lv k : Int} (hl : lv = 0 ∨ lv = 1 ∨ lv = 3 ∨ lv = 4) (h : ¬ opL lv k = -1) (t : List Bool) : tys (opL lv k) (tyB lv :: tyB lv :: t) = some (tyB lv :: t) := by
  rcases hl with e | e | e | e <;> subst e
  · have : opL 0 k = 3007 := by unfold opL at h ⊢; simp only [if_true] at h ⊢; split at h <;> simp_all
    rw [this]; rfl
  · have : opL 1 k = 3006 := by
      unfold opL at h ⊢
      rw [if_neg (by omega), if_pos rfl] at h ⊢
      split at h <;> simp_all
    rw [this]; rfl
  · have : opL 3 k = 3000 ∨ opL 3 k = 3001 := by
      unfold opL at h ⊢
      rw [if_neg (by omega), if_neg (by omega), if_pos rfl] at h ⊢
      repeat' split at h
      all_goals simp_all
    rcases this with z | z <;> rw [z] <;> rfl
  · have : opL 4 k = 3002 := by
      unfold opL at h ⊢
      rw [if_neg (by omega), if_neg (by omega), if_neg (by omega)] at h ⊢
      split at h <;> simp_all
    rw [this]; rfl
theorem ty_loop {T : Int → Int} {n : Int} {F : Int → RL} {lv : Int} (hl : lv = 0 ∨ lv = 1 ∨ lv = 3 ∨ lv = 4) {t : List Bool} (ht : t.length + 2 ≤ 60) (hok : ∀ a, a ≤ n → okL n a (F a)) (hF : ∀ a, a ≤ n → ∀ q, F a = .inr q → tyc q.2 (tyB lv :: t) = some (tyB lv :: tyB lv :: t)) : ∀ (c : Nat) (a : Int) (l : List Int), a ≤ n → tyc l t = some (tyB lv :: t) → ∀ q, prL T n F lv c a l = .inr q → tyc q.2 t = some (tyB lv :: t) := by
  intro c
  induction c with
  | zero => intro a l ha h q hq; cases hq; exact h
  | succ c ih =>
    intro a l ha h q hq
    simp only [prL] at hq
    split at hq
    · cases hq; exact h
    · rename_i cc
      have nr := nx_rng (T := T) (n := n) (a := a) ha
      split at hq
      · cases hq
      · rename_i q' e'
        refine ih q'.1 _ (hok _ nr.2.1 q' e').2 ?_ q hq
        rw [tyc_app l _ t _ h, tyc_app q'.2 _ _ _ (hF _ nr.2.1 q' e')]
        exact tyc_one (ty_op hl cc t) (by simp only [List.length_cons]; omega)
theorem ty_at {c : Int} (h : 0 ≤ c ∧ c < 1006) (t : List Bool) (ht : t.length + 1 ≤ 60) : tyc [c] t = some (false :: t) := by
  refine tyc_one ?_ (by simp only [List.length_cons]; omega)
  unfold tys
  rw [if_pos h]
theorem prt_ty {T : Int → Int} {n : Int} : ∀ (f : Nat) (lv dp a : Int), 0 ≤ lv → lv ≤ 5 → a ≤ n → ∀ (t : List Bool), t.length + f + 1 ≤ 60 → ∀ q, prt T n f lv dp a = .inr q → tyc q.2 t = some (tyB lv :: t) := by
  intro f
  induction f with
  | zero => intro lv dp a _ _ _ t _ q hq; cases hq
  | succ f ih =>
    intro lv dp a l0 l1 ha t ht q hq
    have nr := nx_rng (T := T) (n := n) (a := a) ha
    simp only [prt] at hq
    split at hq
    · rename_i e2
      subst e2
      show tyc q.2 t = some (true :: t)
      unfold unP at hq
      split at hq
      · split at hq
        · cases hq
        · split at hq
          · cases hq
          · rename_i q' e'
            have i := ih 2 _ _ (by omega) (by omega) nr.2.1 t (by omega) q' e'
            cases hq
            rw [tyc_app q'.2 _ t _ i]
            exact tyc_one rfl (by simp only [List.length_cons]; omega)
      · split at hq
        · split at hq
          · cases hq
          · split at hq
            · cases hq
            · rename_i q' e'
              have i := ih 0 _ _ (by omega) (by omega) nr.2.1 t (by omega) q' e'
              split at hq
              · cases hq
                exact i
              · cases hq
        · unfold cmP at hq
          split at hq
          · cases hq
          · rename_i q' e'
            have i : tyc q'.2 t = some (false :: t) := ih 3 _ _ (by omega) (by omega) ha t (by omega) q' e'
            have ok := prt_ok f 3 dp a ha q' e'
            split at hq
            · split at hq
              · cases hq
              · rename_i p' e2
                have nr2 := nx_rng (T := T) (n := n) (a := q'.1) ok.2
                have i2 : tyc p'.2 (false :: t) = some (false :: false :: t) := ih 3 _ _ (by omega) (by omega) nr2.2.1 (false :: t) (by simp only [List.length_cons]; omega) p' e2
                cases hq
                rw [tyc_app q'.2 _ t _ i, tyc_app p'.2 _ _ _ i2]
                refine tyc_one ?_ (by simp only [List.length_cons]; omega)
                unfold cmC
                repeat' split
                all_goals rfl
            · cases hq
    · rename_i n2
      split at hq
      · rename_i e5
        subst e5
        show tyc q.2 t = some (false :: t)
        have tn := tkN_rng (T := T) ha
        unfold atP at hq
        split at hq
        · cases hq; exact ty_at (by omega) t (by omega)
        · split at hq
          · cases hq; exact ty_at (by omega) t (by omega)
          · split at hq
            · cases hq; exact ty_at (by omega) t (by omega)
            · split at hq
              · rename_i ck; cases hq; exact ty_at (by omega) t (by omega)
              · split at hq
                · split at hq
                  · cases hq
                  · split at hq
                    · cases hq
                    · rename_i q' e'
                      have i := ih 3 _ _ (by omega) (by omega) nr.2.1 t (by omega) q' e'
                      split at hq
                      · cases hq
                        exact i
                      · cases hq
                · cases hq
      · rename_i n5
        split at hq
        · cases hq
        · rename_i q' e'
          have cs : lv = 0 ∨ lv = 1 ∨ lv = 3 ∨ lv = 4 := by omega
          have tb : tyB (lv + 1) = tyB lv := by rcases cs with e | e | e | e <;> subst e <;> rfl
          have i := ih (lv + 1) _ _ (by omega) (by omega) ha t (by omega) q' e'
          rw [tb] at i
          have ok := prt_ok f (lv + 1) dp a ha q' e'
          refine ty_loop cs (by omega) (fun b hb => prt_ok f _ _ b hb) (fun b hb p e2 => ?_) 901 q'.1 q'.2 ok.2 i q hq
          have i2 := ih (lv + 1) _ b (by omega) (by omega) hb (tyB lv :: t) (by simp only [List.length_cons]; omega) p e2
          rw [tb] at i2
          exact i2
/-- codes put behind: where they lie; the rest stands -/
theorem appC_o : ∀ (l : List Int) (S : Int → Int), 0 ≤ S 214 → ∀ k, ¬ k = 214 → (k < 215 + S 214 ∨ 215 + S 214 + l.length ≤ k) → appC S l k = S k := by
  intro l
  induction l with
  | nil => intro S _ k _ _; rfl
  | cons c r ih =>
    intro S s0 k h1 h2
    simp only [appC, List.length_cons] at h2 ⊢
    rw [ih (emC S c) (by rw [emC_214]; omega) k h1 (by rw [emC_214]; omega)]
    unfold emC
    rw [up_ne h1, up_ne (by omega)]
theorem appC_ty : ∀ (l : List Int) (S : Int → Int) (t : List Bool), 0 ≤ S 214 → tyr (appC S l) l.length (S 214) t = tyc l t := by
  intro l
  induction l with
  | nil => intro S t _; rfl
  | cons c r ih =>
    intro S t s0
    simp only [appC, List.length_cons, tyr, tyc]
    have e : appC (emC S c) r (215 + S 214) = c := by
      rw [appC_o r (emC S c) (by rw [emC_214]; omega) _ (by omega) (by rw [emC_214]; omega)]
      unfold emC
      rw [up_ne (by omega), up_same]
    rw [e]
    cases tys c t with
    | none => rfl
    | some t' =>
      dsimp only
      have := ih (emC S c) t' (by rw [emC_214]; omega)
      rw [emC_214] at this
      rw [this]
/-! lines -/
def rwP (T : Int → Int) (n o : Int) : Nat → Int → Int → (Int → Int) → (Int × Int) ⊕ (Int × Int × (Int → Int))
  | 0, k, a, S => .inr (a, k, S)
  | c + 1, k, a, S => if k = 0 ∨ tkK T n a = 21 then
      (if k = 11 ∧ tkK T n a = 21 ∧ 1 ≤ tkN T n a ∧ tkN T n a ≤ 99 then .inl (4, a) else match tak T n 1 99 a with
        | .inl e => .inl e
        | .inr q => rwP T n o c (k + 1) q.1 (up S (o + k) q.2))
    else .inr (a, k, S)
def lwP (T : Int → Int) (n a : Int) (S : Int → Int) : RW2 := if tkK T n (nx T n a) = 26 then (match prt T n 43 0 0 (nx T n (nx T n a)) with
    | .inl e => .inl e
    | .inr q => .inr (q.1, up (appC (up S 214 0) q.2) 9 1)) else .inl (bd2 T n (nx T n a))
def chP (T : Int → Int) (n a : Int) (S : Int → Int) : RW2 := match tak T n 0 9 a with
  | .inl e => .inl e
  | .inr q1 => match tak T n 0 99 q1.1 with
    | .inl e => .inl e
    | .inr q2 => match tak T n 1 99 q2.1 with
      | .inl e => .inl e
      | .inr q3 => .inr (q3.1, up (up (up S 3 q1.2) 4 q2.2) 5 q3.2)
def plP (T : Int → Int) (n a : Int) (S : Int → Int) : RW2 := match tak T n 2 6 a with
  | .inl e => .inl e
  | .inr q => .inr (q.1, up S 6 q.2)
def slP (T : Int → Int) (n a : Int) (S : Int → Int) : RW2 := match tak T n 0 9 a with
  | .inl e => .inl e
  | .inr q1 => match tak T n 0 999 q1.1 with
    | .inl e => .inl e
    | .inr q2 => .inr (q2.1, up (up S 7 q1.2) 8 q2.2)
def mkP (T : Int → Int) (n many o a : Int) (S : Int → Int) : RW2 := match tak T n 0 (many - 1) a with
  | .inl e => .inl e
  | .inr q1 => if tkK T n q1.1 = 3 then (match tak T n 0 99 (nx T n q1.1) with
      | .inl e => .inl e
      | .inr q2 => .inr (q2.1, up S (o + q1.2) q2.2)) else .inl (bd2 T n q1.1)
def brP (T : Int → Int) (n a : Int) (S : Int → Int) : RW2 := match tak T n 0 (S 2 - 1) a with
  | .inl e => .inl e
  | .inr q => .inr (q.1, up S 10 (bOr (S 10) (bShl 1 q.2)))
def jnP (T : Int → Int) (n a : Int) (S : Int → Int) : RW2 := match tak T n 0 (S 1 - 1) a with
  | .inl e => .inl e
  | .inr q1 => if tkK T n q1.1 = 21 ∧ (¬ (0 ≤ tkN T n q1.1 ∧ tkN T n q1.1 ≤ S 2 - 1) ∨ ¬ whyM S q1.2 (tkN T n q1.1) = 0) then .inl (3, q1.1) else match tak T n 0 (S 2 - 1) q1.1 with
    | .inl e => .inl e
    | .inr q2 => .inr (q2.1, up S (61 + q1.2) q2.2)
def rlP (T : Int → Int) (n o z a : Int) (S : Int → Int) : RW2 := match rwP T n o 13 0 a S with
  | .inl e => .inl e
  | .inr q => .inr (q.1, up q.2.2 z (1 + q.2.1))
def lnP (T : Int → Int) (n a : Int) (S : Int → Int) : RW2 :=
  if tkK T n a = 0 ∧ S 2 = 0 then rlP T n 23 2 (nx T n a) S
  else if tkK T n a = 1 ∧ S 1 = 0 then rlP T n 11 1 (nx T n a) S
  else if tkK T n a = 6 then lwP T n a S
  else if tkK T n a = 7 then chP T n (nx T n a) S
  else if tkK T n a = 8 then plP T n (nx T n a) S
  else if tkK T n a = 9 then slP T n (nx T n a) S
  else if ¬ (0 < S 1 ∧ 0 < S 2) then .inl (bd2 T n a)
  else if tkK T n a = 2 then mkP T n (S 1) 35 (nx T n a) S
  else if tkK T n a = 4 then mkP T n (S 2) 47 (nx T n a) S
  else if tkK T n a = 5 then brP T n (nx T n a) S
  else if tkK T n a = 10 then jnP T n (nx T n a) S
  else .inl (bd2 T n a)
def wdP (T : Int → Int) (n : Int) : Nat → Int → (Int → Int) → RW2
  | 0, a, S => .inr (a, S)
  | c + 1, a, S => if tkK T n a = 22 then .inr (a, S) else match lnP T n a S with
    | .inl e => .inl e
    | .inr q => if tkK T n q.1 = 25 then wdP T n c (nx T n q.1) (up q.2 0 (q.2 0 + 1)) else .inl (bd2 T n q.1)
def winP (T : Int → Int) (n : Int) : RW2 := wdP T n 901 (sk T n 0) plS
/-! what a line keeps -/
theorem tak_ok {T : Int → Int} {n lo hi a : Int} (ha : a ≤ n) {q : Int × Int} (h : tak T n lo hi a = .inr q) : a + 1 ≤ q.1 ∧ q.1 ≤ n ∧ lo ≤ q.2 ∧ q.2 ≤ hi ∧ tkK T n a = 21 ∧ q.2 = tkN T n a ∧ q.1 = nx T n a := by
  unfold tak at h
  split at h
  · rename_i c1
    split at h
    · rename_i c2
      cases h
      have nr := nx_rng (T := T) (n := n) ha
      have la : a < n := tkK_22 (T := T) (by omega)
      have := nr.2.2 la
      dsimp only
      omega
    · cases h
  · cases h
/-- a row that is being read -/
def PG (S : Int → Int) : Prop := Gd S ∧ LawOk S ∧ 0 ≤ S 214 ∧ (S 59 = 0 ∧ S 60 = 0 ∧ S 73 = 0) ∧ (0 ≤ S 0)
