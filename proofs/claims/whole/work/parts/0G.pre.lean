/-! cells are only added -/
section PRE
variable {K : KT} {C : CT} {k : NT} {ls : AL} {st : List AV} {h : Hp} {r : AV × Hp}
theorem bak_pre {np : Nat} {rest : List AV} {vd : Bool} {m : Nat} {as : List AV} (hK : ∀ pc' ls' st' h', K pc' ls' st' h' = some r → h'.1 <+: r.2.1) (hC : ∀ m as h' o, C m as h' = some o → h'.1 <+: o.2.1) (hb : bak K np ls rest vd (C m as h) = some r) : h.1 <+: r.2.1 := by
  cases ho : C m as h with
  | none => rw [ho] at hb; cases hb
  | some o =>
    rw [ho] at hb
    cases vd
    · exact (hC _ _ _ _ ho).trans (hK _ _ _ _ hb)
    · exact (hC _ _ _ _ ho).trans (hK _ _ _ _ hb)
theorem opC_pre {e : AE} (hk : ∀ ls' st' h', k ls' st' h' = some r → h'.1 <+: r.2.1) (hK : ∀ pc' ls' st' h', K pc' ls' st' h' = some r → h'.1 <+: r.2.1) (hC : ∀ m as h' o, C m as h' = some o → h'.1 <+: o.2.1) (hr : opC K C e ls st h k = some r) : h.1 <+: r.2.1 := by
  obtain ⟨pc, ins, len, ⟨x, y, t, w, z⟩, k1, k2⟩ := e
  unfold opC at hr
  dsimp only at hr
  split at hr
  · exact bak_pre hK hC (ite_some hr).2
  · exact bak_pre hK hC (ite_some hr).2
  · obtain ⟨a, t, -, h1, -⟩ := r1_some hr
    exact (hk _ _ _ (ite_some h1).2 :)
  · obtain ⟨_, _, _, _, _, _, -, h1, -⟩ := cp5_some hr
    exact (hk _ _ _ (ite_some h1).2 :)
  · obtain ⟨a, t, -, h1, -⟩ := r1_some hr
    exact (hk _ _ _ (ite_some h1).2 :)
  · obtain ⟨a, i, t, -, h1, -⟩ := sr2_some hr
    exact (hk _ _ _ (ite_some h1).2 :)
  · obtain ⟨a, i, t, -, h1, -⟩ := sr2_some hr
    exact (hk _ _ _ (ite_some h1).2 :)
  · obtain ⟨a, t, -, h1, -⟩ := rcv_some hr
    exact bak_pre hK hC (ite_some (ite_some h1).2).2
  · obtain ⟨a, t, -, h1, -⟩ := rcv_some hr
    exact bak_pre hK hC (ite_some (ite_some h1).2).2
  · cases hr
set_option maxHeartbeats 4000000 in
theorem op_pre {e : AE} (hk : ∀ ls' st' h', k ls' st' h' = some r → h'.1 <+: r.2.1) (hK : ∀ pc' ls' st' h', K pc' ls' st' h' = some r → h'.1 <+: r.2.1) (hC : ∀ m as h' o, C m as h' = some o → h'.1 <+: o.2.1) (hr : opA K C e ls st h k = some r) : h.1 <+: r.2.1 := by
  obtain ⟨pc, ins, len, ⟨x, y, t, w, z⟩, k1, k2⟩ := e
  cases ins
  case invokevirtual => exact opC_pre hk hK hC hr
  case invokestatic => exact opC_pre hk hK hC hr
  case invokespecial => exact opC_pre hk hK hC hr
  case ldc i =>
    by_cases hx : x = 0
    · exact (hk _ _ _ ((if_pos hx).symm.trans hr : k ls (.inl z :: st) h = some r) :)
    · exact (hk _ _ _ ((if_neg hx).symm.trans hr : k ls (.inr (.inr x) :: st) h = some r) :)
  case ifCond c o =>
    obtain ⟨a, t, -, h1, -⟩ := s1_some hr
    rcases br_one c (wr a) 0 with hb | hb
    · exact hK _ _ _ _ ((hb _ _).symm.trans h1)
    · exact hK _ _ _ _ ((hb _ _).symm.trans h1)
  case if_icmp c o =>
    obtain ⟨a, b, t, -, h1, -⟩ := s2_some hr
    rcases br_one c (wr a) (wr b) with hb | hb
    · exact hK _ _ _ _ ((hb _ _).symm.trans h1)
    · exact hK _ _ _ _ ((hb _ _).symm.trans h1)
  case goto o => exact hK _ _ _ _ hr
  case tableswitch =>
    obtain ⟨a, t, -, h1, -⟩ := s1_some hr
    obtain ⟨tt, ht⟩ := swi_one (wr a) x k1
    exact hK _ _ _ _ ((ht _).symm.trans h1)
  case lookupswitch =>
    obtain ⟨a, t, -, h1, -⟩ := s1_some hr
    obtain ⟨tt, ht⟩ := swi_one (wr a) x k1
    exact hK _ _ _ _ ((ht _).symm.trans h1)
  case getfield i =>
    obtain ⟨a, s, -, h1, -⟩ := r1_some hr
    obtain ⟨hc, h3⟩ := ite_some h1
    by_cases ht : t = 2
    · exact (hk _ _ _ ((if_pos ht).symm.trans h3) :)
    · exact (hk _ _ _ ((if_neg ht).symm.trans h3) :)
  case putfield i =>
    by_cases ht : t = 2
    · obtain ⟨a, v, s, -, h1, -⟩ := rr2_some ((if_pos ht).symm.trans hr)
      exact (hk _ _ _ (ite_some h1).2 :)
    · obtain ⟨a, v, s, -, h1, -⟩ := sr2_some ((if_neg ht).symm.trans hr)
      obtain ⟨hc, h3⟩ := ite_some h1
      dsimp only at h3
      by_cases h3t : t = 3
      · exact (hk _ _ _ (ite_some ((if_pos h3t).symm.trans h3)).2 :)
      · exact (hk _ _ _ ((if_neg (show ¬ t = 3 from h3t)).symm.trans h3) :)
  case bastore =>
    obtain ⟨a, i, v, s, -, h1, -⟩ := ssr3_some hr
    by_cases ht : x = 22
    · exact (hk _ _ _ (ite_some ((if_pos ht).symm.trans h1)).2 :)
    · exact (hk _ _ _ (ite_some ((if_neg ht).symm.trans h1)).2 :)
  case new i => exact (List.prefix_append _ _).trans (hk _ _ _ hr)
  case newarray i =>
    obtain ⟨n, s, -, h1, -⟩ := s1_some hr
    exact (List.prefix_append _ _).trans (hk _ _ _ (ite_some h1).2 :)
  case anewarray i =>
    obtain ⟨n, s, -, h1, -⟩ := s1_some hr
    exact (List.prefix_append _ _).trans (hk _ _ _ (ite_some h1).2 :)
  case ireturn =>
    obtain ⟨a, rfl⟩ : ∃ a, st = [.inl a] := by
      rcases st with _ | ⟨v, _ | ⟨u, tl⟩⟩
      · by_cases hx0 : x = 0 <;> simp [opA, hx0] at hr
      · rcases v with a | v
        · exact ⟨a, rfl⟩
        · by_cases hx0 : x = 0 <;> simp [opA, hx0] at hr
      · by_cases hx0 : x = 0 <;> simp [opA, hx0] at hr
    by_cases hx0 : x = 0
    · have h1 : some (.inl a, h) = some r := (if_pos hx0).symm.trans hr
      cases h1; exact List.prefix_rfl
    · obtain ⟨ha, h2⟩ := ite_some ((if_neg hx0).symm.trans hr : (if a = 0 ∨ a = 1 then some (.inl a, h) else none) = some r)
      cases h2; exact List.prefix_rfl
  case lreturn =>
    obtain ⟨a, rfl⟩ : ∃ a, st = [.inr (.inl a)] := by
      rcases st with _ | ⟨v | v | v, _ | ⟨u, tl⟩⟩ <;> first | exact ⟨_, rfl⟩ | (simp [opA] at hr)
    have h1 : some (.inr (.inl a), h) = some r := hr
    cases h1; exact List.prefix_rfl
  case return_ =>
    obtain rfl : st = [] := by
      rcases st with _ | ⟨v, tl⟩
      · rfl
      · simp [opA] at hr
    have h1 : some (.inl 0, h) = some r := hr
    cases h1; exact List.prefix_rfl
  all_goals first
    | (cases hr; done)
    | exact (hk _ _ _ hr :)
    | (obtain ⟨_, -, h1, -⟩ := ldI_some hr; exact (hk _ _ _ h1 :))
    | (obtain ⟨_, -, h1, -⟩ := ldL_some hr; exact (hk _ _ _ h1 :))
    | (obtain ⟨_, -, h1, -⟩ := ldR_some hr; exact (hk _ _ _ h1 :))
    | (obtain ⟨_, _, -, h1, -⟩ := s1_some hr; exact (hk _ _ _ h1 :))
    | (obtain ⟨_, _, _, -, h1, -⟩ := s2_some hr; exact (hk _ _ _ h1 :))
    | (obtain ⟨_, _, _, -, h1, -⟩ := s2_some hr; exact (hk _ _ _ (ite_some' h1).2 :))
    | (obtain ⟨_, _, -, h1, -⟩ := l1_some hr; exact (hk _ _ _ h1 :))
    | (obtain ⟨_, _, _, -, h1, -⟩ := l2_some hr; exact (hk _ _ _ h1 :))
    | (obtain ⟨_, _, _, -, h1, -⟩ := l2_some hr; exact (hk _ _ _ (ite_some' h1).2 :))
    | (obtain ⟨_, _, _, -, h1, -⟩ := sl2_some hr; exact (hk _ _ _ h1 :))
    | (obtain ⟨_, _, -, h1, -⟩ := r1_some hr; exact (hk _ _ _ h1 :))
    | (obtain ⟨_, _, -, h1, -⟩ := r1_some hr; exact (hk _ _ _ (ite_some h1).2 :))
    | (obtain ⟨_, _, _, -, h1, -⟩ := sr2_some hr; exact (hk _ _ _ h1 :))
    | (obtain ⟨_, _, _, -, h1, -⟩ := sr2_some hr; exact (hk _ _ _ (ite_some h1).2 :))
    | (obtain ⟨_, _, _, _, -, h1, -⟩ := ssr3_some hr; exact (hk _ _ _ (ite_some h1).2 :))
    | (obtain ⟨_, _, _, _, -, h1, -⟩ := lsr3_some hr; exact (hk _ _ _ (ite_some h1).2 :))
    | (obtain ⟨_, _, _, _, -, h1, -⟩ := rsr3_some hr; exact (hk _ _ _ (ite_some h1).2 :))
end PRE
theorem go_pre {K : KT} {C : CT} {r : AV × Hp} (hK : ∀ pc' ls' st' h', K pc' ls' st' h' = some r → h'.1 <+: r.2.1) (hC : ∀ m as h' o, C m as h' = some o → h'.1 <+: o.2.1) (np : Nat) (kp : List Nat) : ∀ (es : List AE) (ls : AL) (st : List AV) (h : Hp), goA K C np kp es ls st h = some r → h.1 <+: r.2.1 := by
  intro es
  induction es with
  | nil => intro ls st h hr; exact hK _ _ _ _ hr
  | cons e es ih => intro ls st h hr; exact op_pre (fun ls' st' h' q => ih ls' st' h' q) hK hC hr
theorem exA_pre : ∀ (n d md pc : Nat) (ls : AL) (st : List AV) (h : Hp) (r : AV × Hp), exA n d md pc ls st h = some r → h.1 <+: r.2.1 := by
  intro n
  induction n with
  | zero => intro d md pc ls st h r hr; cases hr
  | succ n ih =>
    intro d md pc ls st h r hr
    rw [exA_succ] at hr
    cases hb : blk md pc with
    | none => rw [hb] at hr; cases hr
    | some b =>
      rw [hb] at hr
      refine go_pre (K := exA n d md) (C := calA n d) (fun pc' ls' st' h' q => ih _ _ _ _ _ _ _ q) (fun m as h' o q => ?_) _ _ _ _ _ _ hr
      cases d with
      | zero => cases q
      | succ d => exact ih _ _ _ _ _ _ _ q
