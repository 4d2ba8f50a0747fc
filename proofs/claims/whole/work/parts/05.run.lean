def exA : Nat → Nat → Nat → Nat → AL → List AV → Hp → RO
  | 0, _, _, _, _, _, _ => none
  | n + 1, d, md, pc, ls, st, h => runB (exA n d md) (fun m as h' => match d with | 0 => none | d' + 1 => exA n d' m 0 (largs 0 as) [] h') (blk md pc) ls st h
def calA (n d : Nat) : CT := fun m as h => match d with | 0 => none | d' + 1 => exA n d' m 0 (largs 0 as) [] h
theorem exA_succ (n d md pc : Nat) (ls : AL) (st : List AV) (h : Hp) : exA (n + 1) d md pc ls st h = runB (exA n d md) (calA n d) (blk md pc) ls st h := rfl
theorem bak_mono {K K' : KT} {np : Nat} {ls : AL} {r : List AV} {vd : Bool} {o o' : RO} {q : AV × Hp} (hK : ∀ pc ls st h r, K pc ls st h = some r → K' pc ls st h = some r) (ho : ∀ q, o = some q → o' = some q) (h : bak K np ls r vd o = some q) : bak K' np ls r vd o' = some q := by
  cases o with
  | none => cases h
  | some u =>
    rw [ho u rfl]
    cases vd
    · exact hK _ _ _ _ _ h
    · exact hK _ _ _ _ _ h
theorem go_mono {K K' : KT} {C C' : CT} (hK : ∀ pc ls st h r, K pc ls st h = some r → K' pc ls st h = some r) (hC : ∀ m as h r, C m as h = some r → C' m as h = some r) (np : Nat) (kp : List Nat) :
    ∀ (es : List AE) (ls : AL) (st : List AV) (h : Hp) (r : AV × Hp), goA K C np kp es ls st h = some r → goA K' C' np kp es ls st h = some r := by
  intro es
  induction es with
  | nil => intro ls st h r hr; exact hK _ _ _ _ _ hr
  | cons e es ih =>
    intro ls st h r hr
    rcases op_char (show opA K C e ls st h (fun ls st h => goA K C np kp es ls st h) = some r from hr) with ⟨ls', st', h', a, b⟩ | ⟨pc', ls', st', a, b⟩ | ⟨m, as, np', ls', st', vd, a, b⟩ | b
    · exact (b K' C' (fun ls st h => goA K' C' np kp es ls st h)).trans (ih _ _ _ _ a)
    · exact (b K' C' (fun ls st h => goA K' C' np kp es ls st h)).trans (hK _ _ _ _ _ a)
    · exact (b K' C' (fun ls st h => goA K' C' np kp es ls st h)).trans (bak_mono hK (fun q hq => hC _ _ _ _ hq) a)
    · exact b K' C' (fun ls st h => goA K' C' np kp es ls st h)
theorem go_cont {K : KT} {C : CT} {Kn : Nat → KT} {Cn : Nat → CT} (hK : ∀ pc ls st h r, K pc ls st h = some r → ∃ n, ∀ m, n ≤ m → Kn m pc ls st h = some r) (hC : ∀ m as h r, C m as h = some r → ∃ n, ∀ j, n ≤ j → Cn j m as h = some r) (np : Nat) (kp : List Nat) :
    ∀ (es : List AE) (ls : AL) (st : List AV) (h : Hp) (r : AV × Hp), goA K C np kp es ls st h = some r → ∃ n, ∀ m, n ≤ m → goA (Kn m) (Cn m) np kp es ls st h = some r := by
  intro es
  induction es with
  | nil => intro ls st h r hr; exact hK _ _ _ _ _ hr
  | cons e es ih =>
    intro ls st h r hr
    rcases op_char (show opA K C e ls st h (fun ls st h => goA K C np kp es ls st h) = some r from hr) with ⟨ls', st', h', a, b⟩ | ⟨pc', ls', st', a, b⟩ | ⟨m, as, np', ls', st', vd, a, b⟩ | b
    · obtain ⟨n, hn⟩ := ih _ _ _ _ a
      exact ⟨n, fun m hm => (b (Kn m) (Cn m) (fun ls st h => goA (Kn m) (Cn m) np kp es ls st h)).trans (hn m hm)⟩
    · obtain ⟨n, hn⟩ := hK _ _ _ _ _ a
      exact ⟨n, fun m hm => (b (Kn m) (Cn m) (fun ls st h => goA (Kn m) (Cn m) np kp es ls st h)).trans (hn m hm)⟩
    · cases ho : C m as h with
      | none => rw [ho] at a; cases a
      | some u =>
        rw [ho] at a
        obtain ⟨n1, h1⟩ := hC _ _ _ _ ho
        cases vd
        · obtain ⟨n2, h2⟩ := hK _ _ _ _ _ (show K np' ls' (u.1 :: st') u.2 = some r from a)
          refine ⟨max n1 n2, fun j hj => (b (Kn j) (Cn j) (fun ls st h => goA (Kn j) (Cn j) np kp es ls st h)).trans ?_⟩
          rw [h1 j (by omega)]
          exact h2 j (by omega)
        · obtain ⟨n2, h2⟩ := hK _ _ _ _ _ (show K np' ls' st' u.2 = some r from a)
          refine ⟨max n1 n2, fun j hj => (b (Kn j) (Cn j) (fun ls st h => goA (Kn j) (Cn j) np kp es ls st h)).trans ?_⟩
          rw [h1 j (by omega)]
          exact h2 j (by omega)
    · exact ⟨0, fun j _ => b (Kn j) (Cn j) (fun ls st h => goA (Kn j) (Cn j) np kp es ls st h)⟩
theorem runB_mono {K K' : KT} {C C' : CT} (hK : ∀ pc ls st h r, K pc ls st h = some r → K' pc ls st h = some r) (hC : ∀ m as h r, C m as h = some r → C' m as h = some r) {b : Option AB} {ls : AL} {st : List AV} {h : Hp} {r : AV × Hp} (hr : runB K C b ls st h = some r) : runB K' C' b ls st h = some r := by
  cases b with
  | none => cases hr
  | some q => exact go_mono hK hC _ _ _ _ _ _ _ hr
theorem exA_mono1 : ∀ (n d md pc : Nat) (ls : AL) (st : List AV) (h : Hp) (r : AV × Hp), exA n d md pc ls st h = some r → exA (n + 1) d md pc ls st h = some r := by
  intro n
  induction n with
  | zero => intro d md pc ls st h r hr; cases hr
  | succ n ih =>
    intro d md pc ls st h r hr
    rw [exA_succ] at hr ⊢
    refine runB_mono (fun pc ls st h r => ih d md pc ls st h r) (fun m as h r hr => ?_) hr
    cases d with
    | zero => cases hr
    | succ d => exact ih _ _ _ _ _ _ _ hr
theorem exA_mono {n m d md pc : Nat} {ls : AL} {st : List AV} {h : Hp} {r : AV × Hp} (hnm : n ≤ m) (hr : exA n d md pc ls st h = some r) : exA m d md pc ls st h = some r := by
  induction hnm with
  | refl => exact hr
  | step _ ih => exact exA_mono1 _ _ _ _ _ _ _ _ ih
noncomputable def EX (d md pc : Nat) (ls : AL) (st : List AV) (h : Hp) : RO :=
  @dite _ (∃ n, (exA n d md pc ls st h).isSome = true) (Classical.propDecidable _) (fun hx => exA (Classical.choose hx) d md pc ls st h) (fun _ => none)
noncomputable def cal (d : Nat) : CT := fun m as h => match d with | 0 => none | d' + 1 => EX d' m 0 (largs 0 as) [] h
theorem EX_of {n d md pc : Nat} {ls : AL} {st : List AV} {h : Hp} {r : AV × Hp} (hr : exA n d md pc ls st h = some r) : EX d md pc ls st h = some r := by
  have hx : ∃ n, (exA n d md pc ls st h).isSome = true := ⟨n, by rw [hr]; rfl⟩
  unfold EX
  rw [dif_pos hx]
  have h1 := Classical.choose_spec hx
  generalize Classical.choose hx = m at h1
  obtain ⟨q, hq⟩ := Option.isSome_iff_exists.mp h1
  have h2 := exA_mono (Nat.le_max_left n m) hr
  have h3 := exA_mono (Nat.le_max_right n m) hq
  rw [hq, ← h3, h2]
theorem EX_to {d md pc : Nat} {ls : AL} {st : List AV} {h : Hp} {r : AV × Hp} (hr : EX d md pc ls st h = some r) : ∃ n, exA n d md pc ls st h = some r := by
  unfold EX at hr
  by_cases hx : ∃ n, (exA n d md pc ls st h).isSome = true
  · rw [dif_pos hx] at hr
    exact ⟨_, hr⟩
  · rw [dif_neg hx] at hr
    cases hr
theorem opt_ext {a b : RO} (h1 : ∀ r, a = some r → b = some r) (h2 : ∀ r, b = some r → a = some r) : a = b := by
  cases a with
  | some r => exact (h1 r rfl).symm
  | none =>
    cases b with
    | none => rfl
    | some r => exact h2 r rfl
theorem EX_eq (d md pc : Nat) (ls : AL) (st : List AV) (h : Hp) : EX d md pc ls st h = runB (EX d md) (cal d) (blk md pc) ls st h := by
  refine opt_ext (fun r hr => ?_) (fun r hr => ?_)
  · obtain ⟨n, hn⟩ := EX_to hr
    cases n with
    | zero => cases hn
    | succ n =>
      rw [exA_succ] at hn
      refine runB_mono (fun _ _ _ _ _ h => EX_of h) (fun m as h r hr => ?_) hn
      cases d with
      | zero => cases hr
      | succ d => exact EX_of (d := d) hr
  · have hc : ∀ m as h r, cal d m as h = some r → ∃ n, ∀ j, n ≤ j → calA j d m as h = some r := by
      intro m as h r hr
      cases d with
      | zero => cases hr
      | succ d =>
        obtain ⟨n, hn⟩ := EX_to (d := d) hr
        exact ⟨n, fun j hj => exA_mono hj hn⟩
    have hk : ∀ pc ls st h r, EX d md pc ls st h = some r → ∃ n, ∀ j, n ≤ j → exA j d md pc ls st h = some r := by
      intro pc ls st h r hr
      obtain ⟨n, hn⟩ := EX_to hr
      exact ⟨n, fun j hj => exA_mono hj hn⟩
    cases hb : blk md pc with
    | none => rw [hb] at hr; cases hr
    | some q =>
      rw [hb] at hr
      obtain ⟨n, hn⟩ := go_cont hk hc _ _ _ _ _ _ _ (show goA (EX d md) (cal d) q.2.1 q.2.2 q.1 ls st h = some r from hr)
      refine EX_of (n := n + 1) ?_
      rw [exA_succ, hb]
      exact hn n (Nat.le_refl _)
theorem EX_at {d md pc : Nat} {b : AB} (hb : blk md pc = some b) (ls : AL) (st : List AV) (h : Hp) : EX d md pc ls st h = goA (EX d md) (cal d) b.2.1 b.2.2 b.1 ls st h := by
  rw [EX_eq, hb]
  rfl
theorem cal_eq {d : Nat} (hd : 0 < d) (m : Nat) (as : List AV) (h : Hp) : cal d m as h = EX (d - 1) m 0 (largs 0 as) [] h := by
  cases d with
  | zero => omega
  | succ d => rfl
theorem bak_v (K : KT) (np : Nat) (ls : AL) (r : List AV) (v : AV) (h : Hp) : bak K np ls r false (some (v, h)) = K np ls (v :: r) h := rfl
theorem bak_n (K : KT) (np : Nat) (ls : AL) (r : List AV) (v : AV) (h : Hp) : bak K np ls r true (some (v, h)) = K np ls r h := rfl
