/-! THE ABSTRACT MACHINE's runs: with fuel, and without -/
theorem ldI_some {ls : AL} {i : Nat} {f : Int → RO} {r : AV × Hp} (h : ldI ls i f = some r) : ∃ z, ls.lookup i = some (.inl z) ∧ f z = some r ∧ ∀ f', ldI ls i f' = f' z := by
  unfold ldI at h
  split at h
  next z hz => exact ⟨z, hz, h, fun f' => by unfold ldI; rw [hz]⟩
  next => cases h
theorem ldL_some {ls : AL} {i : Nat} {f : Int → RO} {r : AV × Hp} (h : ldL ls i f = some r) : ∃ z, ls.lookup i = some (.inr (.inl z)) ∧ f z = some r ∧ ∀ f', ldL ls i f' = f' z := by
  unfold ldL at h
  split at h
  next z hz => exact ⟨z, hz, h, fun f' => by unfold ldL; rw [hz]⟩
  next => cases h
theorem ldR_some {ls : AL} {i : Nat} {f : Nat → RO} {r : AV × Hp} (h : ldR ls i f = some r) : ∃ z, ls.lookup i = some (.inr (.inr z)) ∧ f z = some r ∧ ∀ f', ldR ls i f' = f' z := by
  unfold ldR at h
  split at h
  next z hz => exact ⟨z, hz, h, fun f' => by unfold ldR; rw [hz]⟩
  next => cases h
theorem s1_some {st : List AV} {f : Int → List AV → RO} {q : AV × Hp} (h : s1 st f = some q) : ∃ a t, st = .inl a :: t ∧ f a t = some q ∧ ∀ f', s1 st f' = f' a t := by
  unfold s1 at h
  split at h
  next a t => exact ⟨a, t, rfl, h, fun _ => rfl⟩
  next => cases h
theorem s2_some {st : List AV} {f : Int → Int → List AV → RO} {q : AV × Hp} (h : s2 st f = some q) : ∃ a b t, st = .inl b :: .inl a :: t ∧ f a b t = some q ∧ ∀ f', s2 st f' = f' a b t := by
  unfold s2 at h
  split at h
  next b a t => exact ⟨a, b, t, rfl, h, fun _ => rfl⟩
  next => cases h
theorem l1_some {st : List AV} {f : Int → List AV → RO} {q : AV × Hp} (h : l1 st f = some q) : ∃ a t, st = .inr (.inl a) :: t ∧ f a t = some q ∧ ∀ f', l1 st f' = f' a t := by
  unfold l1 at h
  split at h
  next a t => exact ⟨a, t, rfl, h, fun _ => rfl⟩
  next => cases h
theorem l2_some {st : List AV} {f : Int → Int → List AV → RO} {q : AV × Hp} (h : l2 st f = some q) : ∃ a b t, st = .inr (.inl b) :: .inr (.inl a) :: t ∧ f a b t = some q ∧ ∀ f', l2 st f' = f' a b t := by
  unfold l2 at h
  split at h
  next b a t => exact ⟨a, b, t, rfl, h, fun _ => rfl⟩
  next => cases h
theorem sl2_some {st : List AV} {f : Int → Int → List AV → RO} {q : AV × Hp} (h : sl2 st f = some q) : ∃ a b t, st = .inl b :: .inr (.inl a) :: t ∧ f a b t = some q ∧ ∀ f', sl2 st f' = f' a b t := by
  unfold sl2 at h
  split at h
  next b a t => exact ⟨a, b, t, rfl, h, fun _ => rfl⟩
  next => cases h
theorem r1_some {st : List AV} {f : Nat → List AV → RO} {q : AV × Hp} (h : r1 st f = some q) : ∃ a t, st = .inr (.inr a) :: t ∧ f a t = some q ∧ ∀ f', r1 st f' = f' a t := by
  unfold r1 at h
  split at h
  next a t => exact ⟨a, t, rfl, h, fun _ => rfl⟩
  next => cases h
theorem sr2_some {st : List AV} {f : Nat → Int → List AV → RO} {q : AV × Hp} (h : sr2 st f = some q) : ∃ a i t, st = .inl i :: .inr (.inr a) :: t ∧ f a i t = some q ∧ ∀ f', sr2 st f' = f' a i t := by
  unfold sr2 at h
  split at h
  next i a t => exact ⟨a, i, t, rfl, h, fun _ => rfl⟩
  next => cases h
theorem rr2_some {st : List AV} {f : Nat → Nat → List AV → RO} {q : AV × Hp} (h : rr2 st f = some q) : ∃ a v t, st = .inr (.inr v) :: .inr (.inr a) :: t ∧ f a v t = some q ∧ ∀ f', rr2 st f' = f' a v t := by
  unfold rr2 at h
  split at h
  next v a t => exact ⟨a, v, t, rfl, h, fun _ => rfl⟩
  next => cases h
theorem ssr3_some {st : List AV} {f : Nat → Int → Int → List AV → RO} {q : AV × Hp} (h : ssr3 st f = some q) : ∃ a i v t, st = .inl v :: .inl i :: .inr (.inr a) :: t ∧ f a i v t = some q ∧ ∀ f', ssr3 st f' = f' a i v t := by
  unfold ssr3 at h
  split at h
  next v i a t => exact ⟨a, i, v, t, rfl, h, fun _ => rfl⟩
  next => cases h
theorem lsr3_some {st : List AV} {f : Nat → Int → Int → List AV → RO} {q : AV × Hp} (h : lsr3 st f = some q) : ∃ a i v t, st = .inr (.inl v) :: .inl i :: .inr (.inr a) :: t ∧ f a i v t = some q ∧ ∀ f', lsr3 st f' = f' a i v t := by
  unfold lsr3 at h
  split at h
  next v i a t => exact ⟨a, i, v, t, rfl, h, fun _ => rfl⟩
  next => cases h
theorem rsr3_some {st : List AV} {f : Nat → Int → Nat → List AV → RO} {q : AV × Hp} (h : rsr3 st f = some q) : ∃ a i v t, st = .inr (.inr v) :: .inl i :: .inr (.inr a) :: t ∧ f a i v t = some q ∧ ∀ f', rsr3 st f' = f' a i v t := by
  unfold rsr3 at h
  split at h
  next v i a t => exact ⟨a, i, v, t, rfl, h, fun _ => rfl⟩
  next => cases h
theorem cp5_some {st : List AV} {f : Nat → Int → Nat → Int → Int → List AV → RO} {q : AV × Hp} (h : cp5 st f = some q) : ∃ src sp dst dp n t, st = .inl n :: .inl dp :: .inr (.inr dst) :: .inl sp :: .inr (.inr src) :: t ∧ f src sp dst dp n t = some q ∧ ∀ f', cp5 st f' = f' src sp dst dp n t := by
  unfold cp5 at h
  split at h
  next n dp dst sp src t => exact ⟨src, sp, dst, dp, n, t, rfl, h, fun _ => rfl⟩
  next => cases h
theorem rcv_some {as : List AV} {f : Nat → RO} {q : AV × Hp} (h : rcv as f = some q) : ∃ a t, as = .inr (.inr a) :: t ∧ f a = some q ∧ ∀ f', rcv as f' = f' a := by
  unfold rcv at h
  split at h
  next a t => exact ⟨a, t, rfl, h, fun _ => rfl⟩
  next => cases h
theorem ite_some {c : Prop} [Decidable c] {x : RO} {q : AV × Hp} (h : (if c then x else none) = some q) : c ∧ x = some q := by
  split at h
  next hc => exact ⟨hc, h⟩
  next => cases h
theorem ite_some' {c : Prop} [Decidable c] {x : RO} {q : AV × Hp} (h : (if c then none else x) = some q) : ¬ c ∧ x = some q := by
  split at h
  next => cases h
  next hc => exact ⟨hc, h⟩
theorem br_one (c : Jvm.ClassFile.Cond) (a b : Int) : (∀ t f, br c a b t f = t) ∨ (∀ t f, br c a b t f = f) := by
  cases c <;> simp only [br]
  case eq => by_cases h : a = b <;> simp [h]
  case ne => by_cases h : a = b <;> simp [h]
  case lt => by_cases h : a < b <;> simp [h]
  case ge => by_cases h : a < b <;> simp [h]
  case gt => by_cases h : b < a <;> simp [h]
  case le => by_cases h : b < a <;> simp [h]
theorem swi_one (a : Int) (d : Nat) : ∀ (l : List Nat), ∃ t, ∀ kk, swi a kk d l = kk t
  | [] => ⟨d, fun _ => rfl⟩
  | [_] => ⟨d, fun _ => rfl⟩
  | v :: t :: r => by
    by_cases h : a = (v : Int)
    · exact ⟨t, fun kk => by simp only [swi]; rw [if_pos h]⟩
    · obtain ⟨t', ht'⟩ := swi_one a d r
      exact ⟨t', fun kk => by simp only [swi]; rw [if_neg h, ht']⟩
/-- the four things that an instruction can do -/
def opW (e : AE) (ls : AL) (st : List AV) (h : Hp) (K : KT) (C : CT) (k : NT) (r : AV × Hp) : Prop :=
  (∃ ls' st' h', k ls' st' h' = some r ∧ ∀ K' C' k', opA K' C' e ls st h k' = k' ls' st' h') ∨
  (∃ pc' ls' st', K pc' ls' st' h = some r ∧ ∀ K' C' k', opA K' C' e ls st h k' = K' pc' ls' st' h) ∨
  (∃ m as np ls' st' vd, bak K np ls' st' vd (C m as h) = some r ∧ ∀ K' C' k', opA K' C' e ls st h k' = bak K' np ls' st' vd (C' m as h)) ∨
  (∀ K' C' k', opA K' C' e ls st h k' = some r)
theorem opC_char {K : KT} {C : CT} {pc len : Nat} {x : Nat × Nat × Nat × Nat × Int} {k1 k2 : List Nat} {ins : Instr} {ls : AL} {st : List AV} {h : Hp} {k : NT} {r : AV × Hp}
    (hins : ∀ K' C' k', opA K' C' (pc, ins, len, x, k1, k2) ls st h k' = opC K' C' (pc, ins, len, x, k1, k2) ls st h k') (hr : opC K C (pc, ins, len, x, k1, k2) ls st h k = some r) : opW (pc, ins, len, x, k1, k2) ls st h K C k r := by
  obtain ⟨x, y, t, w, z⟩ := x
  unfold opW
  simp only [hins]
  clear hins
  unfold opC at hr ⊢
  dsimp only at hr ⊢
  split at hr
  · obtain ⟨hc, h1⟩ := ite_some hr
    exact Or.inr (Or.inr (Or.inl ⟨_, _, _, _, _, _, h1, fun _ _ _ => if_pos hc⟩))
  · obtain ⟨hc, h1⟩ := ite_some hr
    exact Or.inr (Or.inr (Or.inl ⟨_, _, _, _, _, _, h1, fun _ _ _ => if_pos hc⟩))
  · obtain ⟨a, t, -, h1, h2⟩ := r1_some hr
    obtain ⟨hc, h3⟩ := ite_some h1
    exact Or.inl ⟨_, _, _, h3, fun _ _ _ => (h2 _).trans (if_pos hc)⟩
  · obtain ⟨_, _, _, _, _, _, -, h1, h2⟩ := cp5_some hr
    obtain ⟨hc, h3⟩ := ite_some h1
    exact Or.inl ⟨_, _, _, h3, fun _ _ _ => (h2 _).trans (if_pos hc)⟩
  · obtain ⟨a, t, -, h1, h2⟩ := r1_some hr
    obtain ⟨hc, h3⟩ := ite_some h1
    exact Or.inl ⟨_, _, _, h3, fun _ _ _ => (h2 _).trans (if_pos hc)⟩
  · obtain ⟨a, i, t, -, h1, h2⟩ := sr2_some hr
    obtain ⟨hc, h3⟩ := ite_some h1
    exact Or.inl ⟨_, _, _, h3, fun _ _ _ => (h2 _).trans (if_pos hc)⟩
  · obtain ⟨a, i, t, -, h1, h2⟩ := sr2_some hr
    obtain ⟨hc, h3⟩ := ite_some h1
    exact Or.inl ⟨_, _, _, h3, fun _ _ _ => (h2 _).trans (if_pos hc)⟩
  · obtain ⟨a, t, -, h1, h2⟩ := rcv_some hr
    obtain ⟨hc, h3⟩ := ite_some h1
    obtain ⟨hc', h4⟩ := ite_some h3
    exact Or.inr (Or.inr (Or.inl ⟨_, _, _, _, _, _, h4, fun _ _ _ => (h2 _).trans ((if_pos hc).trans (if_pos hc'))⟩))
  · obtain ⟨a, t, -, h1, h2⟩ := rcv_some hr
    obtain ⟨hc, h3⟩ := ite_some h1
    obtain ⟨hc', h4⟩ := ite_some h3
    exact Or.inr (Or.inr (Or.inl ⟨_, _, _, _, _, _, h4, fun _ _ _ => (h2 _).trans ((if_pos hc).trans (if_pos hc'))⟩))
  · cases hr
set_option maxHeartbeats 4000000 in
theorem op_char {K : KT} {C : CT} {e : AE} {ls : AL} {st : List AV} {h : Hp} {k : NT} {r : AV × Hp} (hr : opA K C e ls st h k = some r) : opW e ls st h K C k r := by
  obtain ⟨pc, ins, len, ⟨x, y, t, w, z⟩, k1, k2⟩ := e
  cases ins
  case invokevirtual => exact opC_char (fun _ _ _ => rfl) hr
  case invokestatic => exact opC_char (fun _ _ _ => rfl) hr
  case invokespecial => exact opC_char (fun _ _ _ => rfl) hr
  case ldc i =>
    by_cases hx : x = 0
    · exact Or.inl ⟨_, _, _, ((if_pos hx).symm.trans hr : k ls (.inl z :: st) h = some r), fun _ _ _ => if_pos hx⟩
    · exact Or.inl ⟨_, _, _, ((if_neg hx).symm.trans hr : k ls (.inr (.inr x) :: st) h = some r), fun _ _ _ => if_neg hx⟩
  case ifCond c o =>
    obtain ⟨a, t, -, h1, h2⟩ := s1_some hr
    rcases br_one c (wr a) 0 with hb | hb
    · exact Or.inr (Or.inl ⟨_, _, _, (hb _ _).symm.trans h1, fun _ _ _ => (h2 _).trans (hb _ _)⟩)
    · exact Or.inr (Or.inl ⟨_, _, _, (hb _ _).symm.trans h1, fun _ _ _ => (h2 _).trans (hb _ _)⟩)
  case if_icmp c o =>
    obtain ⟨a, b, t, -, h1, h2⟩ := s2_some hr
    rcases br_one c (wr a) (wr b) with hb | hb
    · exact Or.inr (Or.inl ⟨_, _, _, (hb _ _).symm.trans h1, fun _ _ _ => (h2 _).trans (hb _ _)⟩)
    · exact Or.inr (Or.inl ⟨_, _, _, (hb _ _).symm.trans h1, fun _ _ _ => (h2 _).trans (hb _ _)⟩)
  case goto o => exact Or.inr (Or.inl ⟨_, _, _, hr, fun _ _ _ => rfl⟩)
  case tableswitch =>
    obtain ⟨a, t, -, h1, h2⟩ := s1_some hr
    obtain ⟨tt, ht⟩ := swi_one (wr a) x k1
    exact Or.inr (Or.inl ⟨_, _, _, (ht _).symm.trans h1, fun _ _ _ => (h2 _).trans (ht _)⟩)
  case lookupswitch =>
    obtain ⟨a, t, -, h1, h2⟩ := s1_some hr
    obtain ⟨tt, ht⟩ := swi_one (wr a) x k1
    exact Or.inr (Or.inl ⟨_, _, _, (ht _).symm.trans h1, fun _ _ _ => (h2 _).trans (ht _)⟩)
  case getfield i =>
    obtain ⟨a, s, -, h1, h2⟩ := r1_some hr
    obtain ⟨hc, h3⟩ := ite_some h1
    by_cases ht : t = 2
    · exact Or.inl ⟨_, _, _, (if_pos ht).symm.trans h3, fun _ _ _ => (h2 _).trans ((if_pos hc).trans (if_pos ht))⟩
    · exact Or.inl ⟨_, _, _, (if_neg ht).symm.trans h3, fun _ _ _ => (h2 _).trans ((if_pos hc).trans (if_neg ht))⟩
  case putfield i =>
    by_cases ht : t = 2
    · obtain ⟨a, v, s, -, h1, h2⟩ := rr2_some ((if_pos ht).symm.trans hr)
      obtain ⟨hc, h3⟩ := ite_some h1
      exact Or.inl ⟨_, _, _, h3, fun _ _ _ => (if_pos ht).trans ((h2 _).trans (if_pos hc))⟩
    · obtain ⟨a, v, s, -, h1, h2⟩ := sr2_some ((if_neg ht).symm.trans hr)
      obtain ⟨hc, h3⟩ := ite_some h1
      by_cases h3t : t = 3
      · obtain ⟨hc', h4⟩ := ite_some ((if_pos h3t).symm.trans h3)
        exact Or.inl ⟨_, _, _, h4, fun _ _ _ => (if_neg ht).trans ((h2 _).trans ((if_pos hc).trans ((if_pos h3t).trans (if_pos hc'))))⟩
      · exact Or.inl ⟨_, _, _, (if_neg h3t).symm.trans h3, fun _ _ _ => (if_neg ht).trans ((h2 _).trans ((if_pos hc).trans (if_neg h3t)))⟩
  case bastore =>
    obtain ⟨a, i, v, s, -, h1, h2⟩ := ssr3_some hr
    by_cases ht : x = 22
    · obtain ⟨hc, h3⟩ := ite_some ((if_pos ht).symm.trans h1)
      exact Or.inl ⟨_, _, _, h3, fun _ _ _ => (h2 _).trans ((if_pos ht).trans (if_pos hc))⟩
    · obtain ⟨hc, h3⟩ := ite_some ((if_neg ht).symm.trans h1)
      exact Or.inl ⟨_, _, _, h3, fun _ _ _ => (h2 _).trans ((if_neg ht).trans (if_pos hc))⟩
  case ireturn =>
    refine Or.inr (Or.inr (Or.inr fun _ _ _ => ?_))
    exact hr
  case lreturn => exact Or.inr (Or.inr (Or.inr fun _ _ _ => hr))
  case return_ => exact Or.inr (Or.inr (Or.inr fun _ _ _ => hr))
  all_goals first
    | (cases hr; done)
    | exact Or.inl ⟨_, _, _, hr, fun _ _ _ => rfl⟩
    | (obtain ⟨_, -, h1, h2⟩ := ldI_some hr; exact Or.inl ⟨_, _, _, h1, fun _ _ _ => h2 _⟩)
    | (obtain ⟨_, -, h1, h2⟩ := ldL_some hr; exact Or.inl ⟨_, _, _, h1, fun _ _ _ => h2 _⟩)
    | (obtain ⟨_, -, h1, h2⟩ := ldR_some hr; exact Or.inl ⟨_, _, _, h1, fun _ _ _ => h2 _⟩)
    | (obtain ⟨_, _, -, h1, h2⟩ := s1_some hr; exact Or.inl ⟨_, _, _, h1, fun _ _ _ => h2 _⟩)
    | (obtain ⟨_, _, _, -, h1, h2⟩ := s2_some hr; exact Or.inl ⟨_, _, _, h1, fun _ _ _ => h2 _⟩)
    | (obtain ⟨_, _, _, -, h1, h2⟩ := s2_some hr; obtain ⟨hc, h3⟩ := ite_some' h1; exact Or.inl ⟨_, _, _, h3, fun _ _ _ => (h2 _).trans (if_neg hc)⟩)
    | (obtain ⟨_, _, -, h1, h2⟩ := l1_some hr; exact Or.inl ⟨_, _, _, h1, fun _ _ _ => h2 _⟩)
    | (obtain ⟨_, _, _, -, h1, h2⟩ := l2_some hr; exact Or.inl ⟨_, _, _, h1, fun _ _ _ => h2 _⟩)
    | (obtain ⟨_, _, _, -, h1, h2⟩ := l2_some hr; obtain ⟨hc, h3⟩ := ite_some' h1; exact Or.inl ⟨_, _, _, h3, fun _ _ _ => (h2 _).trans (if_neg hc)⟩)
    | (obtain ⟨_, _, _, -, h1, h2⟩ := sl2_some hr; exact Or.inl ⟨_, _, _, h1, fun _ _ _ => h2 _⟩)
    | (obtain ⟨_, _, -, h1, h2⟩ := r1_some hr; exact Or.inl ⟨_, _, _, h1, fun _ _ _ => h2 _⟩)
    | (obtain ⟨_, _, -, h1, h2⟩ := r1_some hr; obtain ⟨hc, h3⟩ := ite_some h1; exact Or.inl ⟨_, _, _, h3, fun _ _ _ => (h2 _).trans (if_pos hc)⟩)
    | (obtain ⟨_, _, -, h1, h2⟩ := s1_some hr; obtain ⟨hc, h3⟩ := ite_some h1; exact Or.inl ⟨_, _, _, h3, fun _ _ _ => (h2 _).trans (if_pos hc)⟩)
    | (obtain ⟨_, _, _, -, h1, h2⟩ := sr2_some hr; exact Or.inl ⟨_, _, _, h1, fun _ _ _ => h2 _⟩)
    | (obtain ⟨_, _, _, -, h1, h2⟩ := sr2_some hr; obtain ⟨hc, h3⟩ := ite_some h1; exact Or.inl ⟨_, _, _, h3, fun _ _ _ => (h2 _).trans (if_pos hc)⟩)
    | (obtain ⟨_, _, _, _, -, h1, h2⟩ := ssr3_some hr; obtain ⟨hc, h3⟩ := ite_some h1; exact Or.inl ⟨_, _, _, h3, fun _ _ _ => (h2 _).trans (if_pos hc)⟩)
    | (obtain ⟨_, _, _, _, -, h1, h2⟩ := lsr3_some hr; obtain ⟨hc, h3⟩ := ite_some h1; exact Or.inl ⟨_, _, _, h3, fun _ _ _ => (h2 _).trans (if_pos hc)⟩)
    | (obtain ⟨_, _, _, _, -, h1, h2⟩ := rsr3_some hr; obtain ⟨hc, h3⟩ := ite_some h1; exact Or.inl ⟨_, _, _, h3, fun _ _ _ => (h2 _).trans (if_pos hc)⟩)
