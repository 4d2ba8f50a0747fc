/-! the law's codes on a stack -/
def cellV (S : Int → Int) (x y c : Int) : Int := if c = 1000 then x else if c = 1001 then y else if c = 1002 then S (35 + x) else if c = 1003 then S (47 + y) else if c = 1004 then S 1 else if c = 1005 then S 2 else c
def kp (v : Int) : Int := if 1000000 < v then 1000000 else if v < -1000000 then -1000000 else v
def op2 (c a b : Int) : Int := if c = 3000 then kp (a + b) else if c = 3001 then kp (a - b) else if c = 3002 then kp (a * b) else if c = 3003 then b01 (a = b) else if c = 3004 then b01 (a < b) else if c = 3005 then b01 (b < a) else if c = 3006 then b01 (a + b = 2) else b01 (0 < a + b)
def stp (S : Int → Int) (x y c : Int) (st : List Int) : List Int := if c < 3000 then cellV S x y c :: st else if c = 3008 then (match st with | a :: r => (1 - a) :: r | [] => []) else (match st with | b :: a :: r => op2 c a b :: r | _ => [])
def evl (S : Int → Int) (x y : Int) : Nat → Int → List Int → List Int
  | 0, _, st => st
  | n + 1, k, st => evl S x y n (k + 1) (stp S x y (S (215 + k)) st)
def lawV (S : Int → Int) (x y : Int) : Int := if S 9 = 0 then b01 (x = y) else (evl S x y (S 214).toNat 0 []).headD 0
def tys (c : Int) (t : List Bool) : Option (List Bool) :=
  if 0 ≤ c ∧ c < 1006 then some (false :: t)
  else if c = 3008 then (match t with | true :: r => some (true :: r) | _ => none)
  else if 3000 ≤ c ∧ c ≤ 3002 then (match t with | false :: false :: r => some (false :: r) | _ => none)
  else if 3003 ≤ c ∧ c ≤ 3005 then (match t with | false :: false :: r => some (true :: r) | _ => none)
  else if c = 3006 ∨ c = 3007 then (match t with | true :: true :: r => some (true :: r) | _ => none)
  else none
def tyr (S : Int → Int) : Nat → Int → List Bool → Option (List Bool)
  | 0, _, t => some t
  | n + 1, k, t => match tys (S (215 + k)) t with
    | some t' => if t'.length ≤ 60 then tyr S n (k + 1) t' else none
    | none => none
def LawOk (S : Int → Int) : Prop := (S 9 = 0 ∨ S 9 = 1) ∧ (S 9 = 1 → 1 ≤ S 214 ∧ S 214 ≤ 900 ∧ tyr S (S 214).toNat 0 [] = some [true])
def tv (b : Bool) (a : Int) : Prop := if b = true then (a = 0 ∨ a = 1) else (-1000000 ≤ a ∧ a ≤ 1000000)
def TyS : List Int → List Bool → Prop
  | [], [] => True
  | a :: r, b :: t => tv b a ∧ TyS r t
  | _, _ => False
def StkA (R : Int → Int) : List Int → Prop
  | [] => True
  | a :: r => R (r.length : Int) = a ∧ StkA R r
theorem StkA.up {R : Int → Int} {z v : Int} : ∀ {st : List Int}, StkA R st → (st.length : Int) ≤ z → StkA (up R z v) st := by
  intro st
  induction st with
  | nil => intro _ _; trivial
  | cons a r ih =>
    intro h hz
    simp only [List.length_cons] at hz
    refine ⟨?_, ih h.2 (by omega)⟩
    rw [up_ne (by omega)]
    exact h.1
theorem TyS.len : ∀ {st : List Int} {t : List Bool}, TyS st t → st.length = t.length := by
  intro st
  induction st with
  | nil => intro t h; cases t with
    | nil => rfl
    | cons b t => exact absurd h (by simp [TyS])
  | cons a r ih => intro t h; cases t with
    | nil => exact absurd h (by simp [TyS])
    | cons b t => simp [ih h.2]
theorem kp_rng (v : Int) : -1000000 ≤ kp v ∧ kp v ≤ 1000000 := by
  unfold kp
  split
  · omega
  · split <;> omega
theorem mul_rng {a b : Int} (ha : -1000000 ≤ a ∧ a ≤ 1000000) (hb : -1000000 ≤ b ∧ b ≤ 1000000) : -1000000000000 ≤ a * b ∧ a * b ≤ 1000000000000 := by
  have h1 : 0 ≤ (1000000 - a) * (1000000 + b) := Int.mul_nonneg (by omega) (by omega)
  have h2 : 0 ≤ (1000000 + a) * (1000000 - b) := Int.mul_nonneg (by omega) (by omega)
  have h3 : 0 ≤ (1000000 - a) * (1000000 - b) := Int.mul_nonneg (by omega) (by omega)
  have h4 : 0 ≤ (1000000 + a) * (1000000 + b) := Int.mul_nonneg (by omega) (by omega)
  simp only [Int.sub_mul, Int.mul_sub, Int.add_mul, Int.mul_add] at h1 h2 h3 h4
  omega
/-- one code, from a stack that is typed so -/
theorem tys_step {S : Int → Int} {x y c : Int} {st : List Int} {t t' : List Bool} (hx : 0 ≤ x ∧ x ≤ 100) (hy : 0 ≤ y ∧ y ≤ 100) (h1 : 0 ≤ S 1 ∧ S 1 ≤ 100) (h2 : 0 ≤ S 2 ∧ S 2 ≤ 100) (h3 : 0 ≤ S (35 + x) ∧ S (35 + x) ≤ 100) (h4 : 0 ≤ S (47 + y) ∧ S (47 + y) ≤ 100) (ht : TyS st t) (hs : tys c t = some t') : TyS (stp S x y c st) t' ∧ c ≤ 3008 := by
  unfold tys at hs
  by_cases c1 : 0 ≤ c ∧ c < 1006
  · rw [if_pos c1] at hs
    cases hs
    refine ⟨?_, by omega⟩
    unfold stp
    rw [if_pos (by omega)]
    refine ⟨?_, ht⟩
    show -1000000 ≤ _ ∧ _ ≤ (1000000 : Int)
    unfold cellV
    repeat' split
    all_goals omega
  · rw [if_neg c1] at hs
    by_cases c2 : c = 3008
    · rw [if_pos c2] at hs
      subst c2
      match t, st, ht, hs with
      | true :: r, a :: q, ht, hs =>
        cases hs
        have := ht.1
        simp only [tv, if_true] at this
        refine ⟨⟨?_, ht.2⟩, by omega⟩
        simp only [tv, if_true]
        omega
    · rw [if_neg c2] at hs
      by_cases c3 : 3000 ≤ c ∧ c ≤ 3002
      · rw [if_pos c3] at hs
        match t, st, ht, hs with
        | false :: false :: r, b :: a :: q, ht, hs =>
          cases hs
          have k1 : ¬ c < 3000 := by omega
          refine ⟨?_, by omega⟩
          simp only [stp, k1, c2, if_false]
          refine ⟨?_, ht.2.2⟩
          show -1000000 ≤ _ ∧ _ ≤ (1000000 : Int)
          have : c = 3000 ∨ c = 3001 ∨ c = 3002 := by omega
          rcases this with e | e | e <;> subst e <;> simp [op2, kp_rng]
      · rw [if_neg c3] at hs
        by_cases c4 : 3003 ≤ c ∧ c ≤ 3005
        · rw [if_pos c4] at hs
          match t, st, ht, hs with
          | false :: false :: r, b :: a :: q, ht, hs =>
            cases hs
            have k1 : ¬ c < 3000 := by omega
            refine ⟨?_, by omega⟩
            simp only [stp, k1, c2, if_false]
            refine ⟨?_, ht.2.2⟩
            have : c = 3003 ∨ c = 3004 ∨ c = 3005 := by omega
            simp only [tv, if_true]
            rcases this with e | e | e <;> subst e <;> simp [op2, b01_or]
        · rw [if_neg c4] at hs
          by_cases c5 : c = 3006 ∨ c = 3007
          · rw [if_pos c5] at hs
            match t, st, ht, hs with
            | true :: true :: r, b :: a :: q, ht, hs =>
              cases hs
              have k1 : ¬ c < 3000 := by omega
              refine ⟨?_, by omega⟩
              simp only [stp, k1, c2, if_false]
              refine ⟨?_, ht.2.2⟩
              simp only [tv, if_true]
              rcases c5 with e | e <;> subst e <;> simp [op2, b01_or]
          · rw [if_neg c5] at hs
            cases hs
