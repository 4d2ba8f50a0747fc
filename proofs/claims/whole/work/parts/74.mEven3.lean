/-! the model: findsEvenest, evenest, spread -/
theorem mo_att {f : Int → Int} {N : Int} : ∀ i m, fo (fun s m => mn1 (f s) m) i N m = m ∨ ∃ s, i ≤ s ∧ s < N ∧ f s = fo (fun s m => mn1 (f s) m) i N m ∧ ¬ f s = -1 := by
  refine up_ind (hi := N) ?_ ?_
  · intro i hi m; exact Or.inl (fo_stop hi)
  · intro i hi ih m
    rw [fo_step hi]
    rcases ih (mn1 (f i) m) with h | ⟨s, h1, h2, h3, h4⟩
    · by_cases c : ¬ f i = -1 ∧ (m = -1 ∨ f i < m)
      · have e : mn1 (f i) m = f i := if_pos c
        exact Or.inr ⟨i, Int.le_refl _, hi, by rw [h, e], c.1⟩
      · have e : mn1 (f i) m = m := if_neg c
        left; rw [h, e]
    · exact Or.inr ⟨s, by omega, h2, h3, h4⟩
theorem mn1_ne {v m : Int} (h : ¬ v = -1 ∨ ¬ m = -1) : ¬ mn1 v m = -1 := by
  unfold mn1
  split <;> omega
theorem mo_ne {f : Int → Int} {N : Int} : ∀ i m, (¬ m = -1 ∨ ∃ s, i ≤ s ∧ s < N ∧ ¬ f s = -1) → ¬ fo (fun s m => mn1 (f s) m) i N m = -1 := by
  refine up_ind (hi := N) ?_ ?_
  · intro i hi m h
    rw [fo_stop hi]
    rcases h with h | ⟨s, h1, h2, h3⟩
    · exact h
    · omega
  · intro i hi ih m h
    rw [fo_step hi]
    refine ih _ ?_
    rcases h with h | ⟨s, h1, h2, h3⟩
    · exact Or.inl (mn1_ne (Or.inr h))
    · by_cases c : s = i
      · rw [c] at h3; exact Or.inl (mn1_ne (Or.inl h3))
      · exact Or.inr ⟨s, by omega, h2, h3⟩
theorem mo2_att {f : Int → Int → Int} {N R b : Int} : ∀ i m, fo (fun g m => fo (fun s m => mn1 (f g s) m) b R m) i N m = m ∨ ∃ g s, i ≤ g ∧ g < N ∧ b ≤ s ∧ s < R ∧ f g s = fo (fun g m => fo (fun s m => mn1 (f g s) m) b R m) i N m ∧ ¬ f g s = -1 := by
  refine up_ind (hi := N) ?_ ?_
  · intro i hi m; exact Or.inl (fo_stop hi)
  · intro i hi ih m
    rw [fo_step hi]
    rcases ih (fo (fun s m => mn1 (f i s) m) b R m) with h | ⟨g, s, h1, h2, h3⟩
    · rcases mo_att (f := f i) (N := R) b m with h' | ⟨s, a1, a2, a3, a4⟩
      · left; rw [h]; exact h'
      · exact Or.inr ⟨i, s, Int.le_refl _, hi, a1, a2, by rw [h]; exact a3, a4⟩
    · exact Or.inr ⟨g, s, by omega, h2, h3⟩
theorem mo2_ne {f : Int → Int → Int} {N R b : Int} : ∀ i m, (¬ m = -1 ∨ ∃ g s, i ≤ g ∧ g < N ∧ b ≤ s ∧ s < R ∧ ¬ f g s = -1) → ¬ fo (fun g m => fo (fun s m => mn1 (f g s) m) b R m) i N m = -1 := by
  refine up_ind (hi := N) ?_ ?_
  · intro i hi m h
    rw [fo_stop hi]
    rcases h with h | ⟨g, s, h1, h2, h3⟩
    · exact h
    · omega
  · intro i hi ih m h
    rw [fo_step hi]
    refine ih _ ?_
    rcases h with h | ⟨g, s, h1, h2, h3, h4, h5⟩
    · exact Or.inl (mo_ne (f := f i) b m (Or.inl h))
    · by_cases c : g = i
      · rw [c] at h5; exact Or.inl (mo_ne (f := f i) b m (Or.inr ⟨s, h3, h4, h5⟩))
      · exact Or.inr ⟨g, s, by omega, h2, h3, h4, h5⟩
/-- where there are ways there is a least -/
theorem lst_ex {S : Int → Int} : ∀ (n : Nat) (x r : Int), ¬ cnt (Fpl S) Bpl (S 1) (S 2) n x r = 0 → ¬ lst S (-1) 0 n x r = -1 := by
  intro n
  induction n with
  | zero => intro x r _; simp [lst]
  | succ n ih =>
    intro x r h
    refine mo2_ne _ _ (Or.inr ?_)
    by_cases c : ∃ g s, x + 1 ≤ g ∧ g < S 1 ∧ r + 1 ≤ s ∧ s < S 2 ∧ Fpl S x r g s = true ∧ ¬ cnt (Fpl S) Bpl (S 1) (S 2) n g s = 0
    · obtain ⟨g, s, h1, h2, h3, h4, h5, h6⟩ := c
      refine ⟨g, s, h1, h2, h3, h4, ?_⟩
      have a := ih g s h6
      unfold lby
      rw [if_pos h5, if_neg (by omega), if_pos rfl]
      by_cases c2 : sgE S x r g s < lst S (-1) 0 n g s
      · rw [if_pos c2]; exact a
      · rw [if_neg c2]
        have : 0 ≤ sgE S x r g s := by
          unfold sgE
          split
          · omega
          · rename_i cx
            unfold Fpl at h5
            simp [cx] at h5
            omega
        omega
    · exfalso
      apply h
      refine sm_0 _ (fun g g1 g2 => sm_0 _ (fun s s1 s2 => ?_))
      split
      · rename_i cf
        refine Decidable.not_not.mp fun q => c ⟨g, s, g1, g2, s1, s2, cf, q⟩
      · rfl
theorem lst_sq {S : Int → Int} (gd : Gd S) {mo : Int} : ∀ (n : Nat) (x r : Int), -1 ≤ x → -1 ≤ r → ¬ lst S (-1) 0 n x r = -1 → lst S (-1) 0 n x r ≤ mo → ¬ lst S mo 1 n x r = -1 := by
  intro n
  induction n with
  | zero => intro x r _ _ _ _; simp [lst]
  | succ n ih =>
    intro x r hx0 hr0 h hm
    refine mo2_ne _ _ (Or.inr ?_)
    rcases mo2_att (f := fun g s => lby S (-1) 0 x r g s (lst S (-1) 0 n g s)) (N := S 1) (R := S 2) (b := r + 1) (x + 1) (-1) with q | ⟨g, s, h1, h2, h3, h4, h5, h6⟩
    · exact absurd q h
    · refine ⟨g, s, h1, h2, h3, h4, ?_⟩
      have e : lby S (-1) 0 x r g s (lst S (-1) 0 n g s) = lst S (-1) 0 (n + 1) x r := h5
      unfold lby at e h6 ⊢
      by_cases cf : Fpl S x r g s = true
      · rw [if_pos cf] at e h6 ⊢
        by_cases cv : lst S (-1) 0 n g s = -1
        · rw [if_pos (Or.inl cv)] at h6; exact absurd rfl h6
        · rw [if_neg (by omega), if_pos rfl] at e
          have s0 : 0 ≤ sgE S x r g s := by
            unfold sgE
            split
            · omega
            · rename_i cx
              unfold Fpl at cf
              simp [cx] at cf
              omega
          have b1 : lst S (-1) 0 n g s ≤ mo ∧ sgE S x r g s ≤ mo := by
            by_cases c2 : sgE S x r g s < lst S (-1) 0 n g s
            · rw [if_pos c2] at e; omega
            · rw [if_neg c2] at e; omega
          have a := ih g s (by omega) (by omega) cv b1.1
          have ge := lst_rng gd mo 1 n g s (by omega) (by omega) (by omega)
          have q2 : 0 ≤ sgE S x r g s * sgE S x r g s := Int.mul_nonneg s0 s0
          rw [if_neg (by omega), if_neg (by omega)]
          omega
      · rw [if_neg cf] at h6; exact absurd rfl h6
theorem eMo_ok {S : Int → Int} (gd : Gd S) : 0 ≤ eMo S := by
  have fs := fullN_spec S
  have mr := eMo_rng gd
  have := lst_ex (S := S) (fullN S).toNat (-1) (-1) fs.2.2.1
  have e : eMo S = lst S (-1) 0 (fullN S).toNat (-1) (-1) := rfl
  omega
theorem eSq_ok {S : Int → Int} (gd : Gd S) : 0 ≤ eSq S := by
  have fs := fullN_spec S
  have mr := eSq_rng gd
  have a := lst_ex (S := S) (fullN S).toNat (-1) (-1) fs.2.2.1
  have b := lst_sq gd (mo := eMo S) (fullN S).toNat (-1) (-1) (by omega) (by omega) a (Int.le_refl _)
  have e : eSq S = lst S (eMo S) 1 (fullN S).toNat (-1) (-1) := rfl
  omega
def PmE (S : Int → Int) : Int → Int → Int → Int → Int → Bool := fun x r n g s => decide (0 < n ∧ lby S (eMo S) 1 x r g s (Lv S (eMo S) 1 (n - 1) g s) = Lv S (eMo S) 1 n x r)
theorem PmE_ex {S : Int → Int} {x r n : Int} (hn : 1 ≤ n) (h : ¬ Lv S (eMo S) 1 n x r = -1) : ∃ g s, x < g ∧ g < S 1 ∧ r < s ∧ s < S 2 ∧ PmE S x r n g s = true := by
  have e := Lv_s (S := S) (mo := eMo S) (sq := 1) (x := x) (r := r) hn
  rcases mo2_att (f := fun g s => lby S (eMo S) 1 x r g s (Lv S (eMo S) 1 (n - 1) g s)) (N := S 1) (R := S 2) (b := r + 1) (x + 1) (-1) with q | ⟨g, s, h1, h2, h3, h4, h5, h6⟩
  · exact absurd (e.trans q) h
  · refine ⟨g, s, by omega, h2, by omega, h4, ?_⟩
    unfold PmE
    simp only [decide_eq_true_eq]
    exact ⟨by omega, h5.trans e.symm⟩
theorem PmE_ne {S : Int → Int} {x r n g s : Int} (h : ¬ Lv S (eMo S) 1 n x r = -1) (hp : PmE S x r n g s = true) : ¬ Lv S (eMo S) 1 (n - 1) g s = -1 := by
  unfold PmE at hp
  simp only [decide_eq_true_eq] at hp
  intro q
  have := hp.2
  unfold lby at this
  rw [q] at this
  split at this
  · rw [if_pos (Or.inl rfl)] at this; exact h this.symm
  · exact h this.symm
theorem m_fE_1 {d : Nat} {h : Hp} {S nb : Int → Int} (n64 : N64 nb) (gd : Gd S) (ev : EvT h S nb) {x r g n : Int} (hn : 1 ≤ n ∧ n ≤ 12) (hx : -1 ≤ x ∧ x < g ∧ g < S 1) (hr : -1 ≤ r ∧ r < S 2) (hxr : x = -1 ↔ r = -1) : ∀ s, r + 1 ≤ s → s ≤ 12 → EX (d+3) m_Mod_findsEvenest 50 [(0, .inr (.inr (72))), (1, .inl (x)), (2, .inl (r)), (3, .inl (n)), (4, .inl (x)), (5, .inl (r)), (6, .inl (g)), (7, .inl (s))] [] (h) = EX (d+3) m_Mod_findsEvenest 118 [(0, .inr (.inr (72))), (1, .inl (x)), (2, .inl (r)), (3, .inl (n)), (4, .inl (if ff (PmE S x r n g) s (S 2) = -1 then x else g)), (5, .inl (if ff (PmE S x r n g) s (S 2) = -1 then r else ff (PmE S x r n g) s (S 2))), (6, .inl (g))] [] (h) := by
  have ga := gd.a
  have gb := gd.b
  have p := ev.1
  have ms := p.1.1
  have hm := ms.1
  have mr := eMo_rng gd
  have e28 := ev.2.2.1
  have exr := ev.2.2.2 x r (by omega) (by omega) (by omega) (by omega) hxr n (by omega) (by omega)
  have lx := Lv_rng gd (eMo S) 1 (n := n) (by omega) (x := x) (r := r) (by omega) (by omega) hxr
  refine up_ind (hi := S 2) ?_ ?_
  · intro s hs h0 h1
    rw [Mod_findsEvenest_50, ff_stop hs]
    simp (disch := omega) only [wr_id, ix_id, okx, if_pos, if_neg, Int.toNat_of_nonneg, bak_v, bak_n, wr_b01, wr_bt, b01_or, b01_0, b01_1, lc_lt0, lc_gt0, lc_eq0, wl_wr, wr_wr, wl_id, true_and, and_true, true_or, or_true, not_true_eq_false, not_false_eq_true, nc0, nc1, nc2, nc3, nc4, nc5, nc6, nc7, nc8, nc9, nc10, nc11, nc12, nc13, nc14, nc15, nc16, nc17, nc18, nc19, nc20, nc21, nc22, nc23, nc35, nc47, nc59, nc60, nc61, nc73, nc74, nc214, nc215, nc1115, nc2230, nc3345, if_true, if_false, Int.reduceToNat, hm.k, hm.r1, hm.r2, hm.r3, hm.r4, hm.r15, hm.r16, hm.r19, hm.r23, hm.r24, hm.r25, hm.r26, hm.r29, hm.r30, hm.r31, hm.r33, hm.r34, hm.r35, hm.k73, hm.k74, hm.k75, hm.k76, hm.k77, hm.k78, hm.k79, hm.k80, hm.k81, hm.k82, hm.k83, hm.k84, hm.k85, hm.k86, hm.k87, hm.k88, hm.k89, hm.n73, hm.n74, hm.n75, hm.n76, hm.n77, hm.n78, hm.n79, hm.n80, hm.n81, hm.n82, hm.n83, hm.n84, hm.n85, hm.n86, hm.n87, hm.n88, hm.n89, ms.2]
  · intro s hs ih h0 h1
    have el := m_leastBy (d := d) (a := 83) (Or.inr rfl) p n64 gd (mo := eMo S) (sq := 1) (n := n) (x := x) (r := r) (g := g) (s := s) (by omega) (Or.inr rfl) hn hx (by omega) hxr (ev.2.2.2 g s (by omega) (by omega) (by omega) (by omega) (by omega))
    have lr := Lv_rng gd (eMo S) 1 (n := n - 1) (by omega) (x := g) (r := s) (by omega) (by omega) (by omega)
    have br := lby_rng gd (eMo S) 1 (x := x) (r := r) (g := g) (s := s) (v := Lv S (eMo S) 1 (n - 1) g s) (B := 17280000) hx (by omega) hxr lr (by omega)
    have s1 : ¬ s = -1 := by omega
    rw [Mod_findsEvenest_50, ff_step hs]
    have ih := ih (by omega) (by omega)
    rw [show m_Mod_findsEvenest = 217 from rfl] at ih
    by_cases c : lby S (eMo S) 1 x r g s (Lv S (eMo S) 1 (n - 1) g s) = Lv S (eMo S) 1 n x r
    · have cp : PmE S x r n g s = true := by unfold PmE; simp only [decide_eq_true_eq]; exact ⟨by omega, c⟩
      rw [if_pos cp, if_neg s1, if_neg s1]
      simp (disch := omega) only [Mod_findsEvenest_61, Mod_findsEvenest_67, Mod_findsEvenest_87, Mod_findsEvenest_97, Mod_findsEvenest_104, Mod_findsEvenest_112, wr_id, ix_id, okx, if_pos, if_neg, Int.toNat_of_nonneg, bak_v, bak_n, wr_b01, wr_bt, b01_or, b01_0, b01_1, lc_lt0, lc_gt0, lc_eq0, wl_wr, wr_wr, wl_id, true_and, and_true, true_or, or_true, not_true_eq_false, not_false_eq_true, nc0, nc1, nc2, nc3, nc4, nc5, nc6, nc7, nc8, nc9, nc10, nc11, nc12, nc13, nc14, nc15, nc16, nc17, nc18, nc19, nc20, nc21, nc22, nc23, nc35, nc47, nc59, nc60, nc61, nc73, nc74, nc214, nc215, nc1115, nc2230, nc3345, if_true, if_false, Int.reduceToNat, hm.k, hm.r1, hm.r2, hm.r3, hm.r4, hm.r15, hm.r16, hm.r19, hm.r23, hm.r24, hm.r25, hm.r26, hm.r29, hm.r30, hm.r31, hm.r33, hm.r34, hm.r35, hm.k73, hm.k74, hm.k75, hm.k76, hm.k77, hm.k78, hm.k79, hm.k80, hm.k81, hm.k82, hm.k83, hm.k84, hm.k85, hm.k86, hm.k87, hm.k88, hm.k89, hm.n73, hm.n74, hm.n75, hm.n76, hm.n77, hm.n78, hm.n79, hm.n80, hm.n81, hm.n82, hm.n83, hm.n84, hm.n85, hm.n86, hm.n87, hm.n88, hm.n89, ms.2, e28, el, m_spot, exr]
      rw [Mod_findsEvenest_50]
      by_cases c4 : s + 1 < S 2
      · simp (disch := omega) only [Mod_findsEvenest_61, wr_id, ix_id, okx, if_pos, if_neg, Int.toNat_of_nonneg, bak_v, bak_n, wr_b01, wr_bt, b01_or, b01_0, b01_1, lc_lt0, lc_gt0, lc_eq0, wl_wr, wr_wr, wl_id, true_and, and_true, true_or, or_true, not_true_eq_false, not_false_eq_true, nc0, nc1, nc2, nc3, nc4, nc5, nc6, nc7, nc8, nc9, nc10, nc11, nc12, nc13, nc14, nc15, nc16, nc17, nc18, nc19, nc20, nc21, nc22, nc23, nc35, nc47, nc59, nc60, nc61, nc73, nc74, nc214, nc215, nc1115, nc2230, nc3345, if_true, if_false, Int.reduceToNat, hm.k, hm.r1, hm.r2, hm.r3, hm.r4, hm.r15, hm.r16, hm.r19, hm.r23, hm.r24, hm.r25, hm.r26, hm.r29, hm.r30, hm.r31, hm.r33, hm.r34, hm.r35, hm.k73, hm.k74, hm.k75, hm.k76, hm.k77, hm.k78, hm.k79, hm.k80, hm.k81, hm.k82, hm.k83, hm.k84, hm.k85, hm.k86, hm.k87, hm.k88, hm.k89, hm.n73, hm.n74, hm.n75, hm.n76, hm.n77, hm.n78, hm.n79, hm.n80, hm.n81, hm.n82, hm.n83, hm.n84, hm.n85, hm.n86, hm.n87, hm.n88, hm.n89, ms.2]
      · simp (disch := omega) only [wr_id, ix_id, okx, if_pos, if_neg, Int.toNat_of_nonneg, bak_v, bak_n, wr_b01, wr_bt, b01_or, b01_0, b01_1, lc_lt0, lc_gt0, lc_eq0, wl_wr, wr_wr, wl_id, true_and, and_true, true_or, or_true, not_true_eq_false, not_false_eq_true, nc0, nc1, nc2, nc3, nc4, nc5, nc6, nc7, nc8, nc9, nc10, nc11, nc12, nc13, nc14, nc15, nc16, nc17, nc18, nc19, nc20, nc21, nc22, nc23, nc35, nc47, nc59, nc60, nc61, nc73, nc74, nc214, nc215, nc1115, nc2230, nc3345, if_true, if_false, Int.reduceToNat, hm.k, hm.r1, hm.r2, hm.r3, hm.r4, hm.r15, hm.r16, hm.r19, hm.r23, hm.r24, hm.r25, hm.r26, hm.r29, hm.r30, hm.r31, hm.r33, hm.r34, hm.r35, hm.k73, hm.k74, hm.k75, hm.k76, hm.k77, hm.k78, hm.k79, hm.k80, hm.k81, hm.k82, hm.k83, hm.k84, hm.k85, hm.k86, hm.k87, hm.k88, hm.k89, hm.n73, hm.n74, hm.n75, hm.n76, hm.n77, hm.n78, hm.n79, hm.n80, hm.n81, hm.n82, hm.n83, hm.n84, hm.n85, hm.n86, hm.n87, hm.n88, hm.n89, ms.2]
    · have cp : ¬ PmE S x r n g s = true := by unfold PmE; simp only [decide_eq_true_eq]; exact fun q => c q.2
      rw [if_neg cp]
      simp (disch := omega) only [Mod_findsEvenest_61, Mod_findsEvenest_67, Mod_findsEvenest_87, Mod_findsEvenest_97, Mod_findsEvenest_101, Mod_findsEvenest_112, wr_id, ix_id, okx, if_pos, if_neg, Int.toNat_of_nonneg, bak_v, bak_n, wr_b01, wr_bt, b01_or, b01_0, b01_1, lc_lt0, lc_gt0, lc_eq0, wl_wr, wr_wr, wl_id, true_and, and_true, true_or, or_true, not_true_eq_false, not_false_eq_true, nc0, nc1, nc2, nc3, nc4, nc5, nc6, nc7, nc8, nc9, nc10, nc11, nc12, nc13, nc14, nc15, nc16, nc17, nc18, nc19, nc20, nc21, nc22, nc23, nc35, nc47, nc59, nc60, nc61, nc73, nc74, nc214, nc215, nc1115, nc2230, nc3345, if_true, if_false, Int.reduceToNat, hm.k, hm.r1, hm.r2, hm.r3, hm.r4, hm.r15, hm.r16, hm.r19, hm.r23, hm.r24, hm.r25, hm.r26, hm.r29, hm.r30, hm.r31, hm.r33, hm.r34, hm.r35, hm.k73, hm.k74, hm.k75, hm.k76, hm.k77, hm.k78, hm.k79, hm.k80, hm.k81, hm.k82, hm.k83, hm.k84, hm.k85, hm.k86, hm.k87, hm.k88, hm.k89, hm.n73, hm.n74, hm.n75, hm.n76, hm.n77, hm.n78, hm.n79, hm.n80, hm.n81, hm.n82, hm.n83, hm.n84, hm.n85, hm.n86, hm.n87, hm.n88, hm.n89, ms.2, e28, el, m_spot, exr]
      exact ih
theorem EvT.fr {h h' : Hp} {S nb : Int → Int} (ev : EvT h S nb) (f : Fr (fun a _ => a = 80) h h') : EvT h' S nb := ⟨ev.1.fr f (fun a k q => by omega), by rw [f.I (by omega)]; exact ev.2.1, by rw [f.I (by omega)]; exact ev.2.2.1, fun g s a b c d e m m0 m1 => by rw [f.I (by omega)]; exact ev.2.2.2 g s a b c d e m m0 m1⟩
theorem m_fE_2 {d : Nat} {S nb : Int → Int} (n64 : N64 nb) (gd : Gd S) : ∀ (m : Nat) (g x r n : Int) (f : Int → Int) (h : Hp), g + m = S 1 → (1 ≤ n ∧ n ≤ 12) → (-1 ≤ x ∧ x < g) → (-1 ≤ r ∧ r < S 2) → (x = -1 ↔ r = -1) → ¬ Lv S (eMo S) 1 n x r = -1 → (∃ g' s, g ≤ g' ∧ g' < S 1 ∧ r < s ∧ s < S 2 ∧ PmE S x r n g' s = true) → EvT h S nb → (∀ j : Nat, j < 12 → hI h 80 j = f j) → (∀ j, g ≤ j → j < 12 → f j = -1) → ∃ h', EX (d+3) m_Mod_findsEvenest 28 [(0, .inr (.inr (72))), (1, .inl (x)), (2, .inl (r)), (3, .inl (n)), (4, .inl (x)), (5, .inl (r)), (6, .inl (g))] [] (h) = some (.inl 0, h') ∧ (∀ z : Nat, (z : Int) < S 1 → hI h' 80 z = if (z : Int) < g then f z else hwG (PmE S) (S 2) z m g x r n) ∧ Fr (fun a _ => a = 80) h h' := by
  have ga := gd.a
  have gb := gd.b
  intro m
  induction m with
  | zero =>
    intro g x r n f h hg hn hx hr hxr hl hex
    obtain ⟨g', s, h1, h2, h3, h4, h5⟩ := hex
    omega
  | succ m ih =>
    intro g x r n f h hg hn hx hr hxr hl hex ev vf vn
    have ms := ev.1.1.1
    have hm := ms.1
    have e1 := m_fE_1 (d := d) n64 gd ev (x := x) (r := r) (g := g) (n := n) hn (by omega) hr hxr (r + 1) (by omega) (by omega)
    have st : EX (d+3) m_Mod_findsEvenest 28 [(0, .inr (.inr (72))), (1, .inl (x)), (2, .inl (r)), (3, .inl (n)), (4, .inl (x)), (5, .inl (r)), (6, .inl (g))] [] (h) = EX (d+3) m_Mod_findsEvenest 118 [(0, .inr (.inr (72))), (1, .inl (x)), (2, .inl (r)), (3, .inl (n)), (4, .inl (if ff (PmE S x r n g) (r + 1) (S 2) = -1 then x else g)), (5, .inl (if ff (PmE S x r n g) (r + 1) (S 2) = -1 then r else ff (PmE S x r n g) (r + 1) (S 2))), (6, .inl (g))] [] (h) := by
      rw [Mod_findsEvenest_28]
      simp (disch := omega) only [Mod_findsEvenest_39, Mod_findsEvenest_45, wr_id, ix_id, okx, if_pos, if_neg, Int.toNat_of_nonneg, bak_v, bak_n, wr_b01, wr_bt, b01_or, b01_0, b01_1, lc_lt0, lc_gt0, lc_eq0, wl_wr, wr_wr, wl_id, true_and, and_true, true_or, or_true, not_true_eq_false, not_false_eq_true, nc0, nc1, nc2, nc3, nc4, nc5, nc6, nc7, nc8, nc9, nc10, nc11, nc12, nc13, nc14, nc15, nc16, nc17, nc18, nc19, nc20, nc21, nc22, nc23, nc35, nc47, nc59, nc60, nc61, nc73, nc74, nc214, nc215, nc1115, nc2230, nc3345, if_true, if_false, Int.reduceToNat, hm.k, hm.r1, hm.r2, hm.r3, hm.r4, hm.r15, hm.r16, hm.r19, hm.r23, hm.r24, hm.r25, hm.r26, hm.r29, hm.r30, hm.r31, hm.r33, hm.r34, hm.r35, hm.k73, hm.k74, hm.k75, hm.k76, hm.k77, hm.k78, hm.k79, hm.k80, hm.k81, hm.k82, hm.k83, hm.k84, hm.k85, hm.k86, hm.k87, hm.k88, hm.k89, hm.n73, hm.n74, hm.n75, hm.n76, hm.n77, hm.n78, hm.n79, hm.n80, hm.n81, hm.n82, hm.n83, hm.n84, hm.n85, hm.n86, hm.n87, hm.n88, hm.n89, ms.2]
      exact e1
    have sp := ff_spec (p := PmE S x r n g) (N := S 2) (r + 1)
    by_cases cq : ff (PmE S x r n g) (r + 1) (S 2) = -1
    · rw [if_pos cq, if_pos cq] at st
      obtain ⟨h2, e2, v2, f2⟩ := ih (g + 1) x r n f h (by omega) hn (by omega) hr hxr hl (by
        obtain ⟨g', s, a1, a2, a3, a4, a5⟩ := hex
        refine ⟨g', s, ?_, a2, a3, a4, a5⟩
        by_cases c : g' = g
        · rw [c] at a5
          rcases sp with q | q
          · rw [q.2 s (by omega) a4] at a5; cases a5
          · omega
        · omega) ev vf (fun j a b => vn j (by omega) b)
      refine ⟨h2, ?_, fun z hz => ?_, f2⟩
      · refine st.trans ?_
        rw [Mod_findsEvenest_118]
        exact e2
      · rw [v2 z hz]
        simp only [hwG]
        by_cases c1 : (z : Int) < g
        · rw [if_pos (by omega), if_pos c1]
        · rw [if_neg c1]
          by_cases c2 : g = (z : Int)
          · rw [if_pos (show (z : Int) < g + 1 by omega), if_pos c2, cq]
            exact vn z (by omega) (by omega)
          · rw [if_neg (show ¬ (z : Int) < g + 1 by omega), if_neg c2, if_pos cq]
    · rw [if_neg cq, if_neg cq] at st
      have sq : r + 1 ≤ ff (PmE S x r n g) (r + 1) (S 2) ∧ ff (PmE S x r n g) (r + 1) (S 2) < S 2 ∧ PmE S x r n g (ff (PmE S x r n g) (r + 1) (S 2)) = true := by
        rcases sp with q | q
        · exact absurd q.1 cq
        · exact ⟨q.1, q.2.1, q.2.2.1⟩
      generalize hs : ff (PmE S x r n g) (r + 1) (S 2) = s at *
      have hl' := PmE_ne hl sq.2.2
      have f0 : Fr (fun a _ => a = 80) h (pI h 80 g.toNat s) := Fr.pI Fr.rf (by rfl)
      have ev2 := ev.fr f0
      have vf2 : ∀ j : Nat, j < 12 → hI (pI h 80 g.toNat s) 80 j = up f g s j := fun j hj => by
        rw [hI_pI]
        unfold up
        by_cases c : j = g.toNat
        · rw [if_pos ⟨rfl, c⟩, if_pos (by omega)]
        · rw [if_neg (fun w => c w.2), if_neg (by omega)]; exact vf j hj
      have st2 : EX (d+3) m_Mod_findsEvenest 28 [(0, .inr (.inr (72))), (1, .inl (x)), (2, .inl (r)), (3, .inl (n)), (4, .inl (x)), (5, .inl (r)), (6, .inl (g))] [] (h) = EX (d+3) m_Mod_findsEvenest 13 [(0, .inr (.inr (72))), (1, .inl (g)), (2, .inl (s)), (3, .inl (n - 1))] [] (pI h 80 g.toNat s) := by
        refine st.trans ?_
        rw [Mod_findsEvenest_118, Mod_findsEvenest_28, show n - 1 = n + -1 by omega]
        by_cases c3 : g + 1 < S 1
        · simp (disch := omega) only [Mod_findsEvenest_39, Mod_findsEvenest_124, Mod_findsEvenest_137, wr_id, ix_id, okx, if_pos, if_neg, Int.toNat_of_nonneg, bak_v, bak_n, wr_b01, wr_bt, b01_or, b01_0, b01_1, lc_lt0, lc_gt0, lc_eq0, wl_wr, wr_wr, wl_id, true_and, and_true, true_or, or_true, not_true_eq_false, not_false_eq_true, nc0, nc1, nc2, nc3, nc4, nc5, nc6, nc7, nc8, nc9, nc10, nc11, nc12, nc13, nc14, nc15, nc16, nc17, nc18, nc19, nc20, nc21, nc22, nc23, nc35, nc47, nc59, nc60, nc61, nc73, nc74, nc214, nc215, nc1115, nc2230, nc3345, if_true, if_false, Int.reduceToNat, hm.k, hm.r1, hm.r2, hm.r3, hm.r4, hm.r15, hm.r16, hm.r19, hm.r23, hm.r24, hm.r25, hm.r26, hm.r29, hm.r30, hm.r31, hm.r33, hm.r34, hm.r35, hm.k73, hm.k74, hm.k75, hm.k76, hm.k77, hm.k78, hm.k79, hm.k80, hm.k81, hm.k82, hm.k83, hm.k84, hm.k85, hm.k86, hm.k87, hm.k88, hm.k89, hm.n73, hm.n74, hm.n75, hm.n76, hm.n77, hm.n78, hm.n79, hm.n80, hm.n81, hm.n82, hm.n83, hm.n84, hm.n85, hm.n86, hm.n87, hm.n88, hm.n89, ms.2]
        · simp (disch := omega) only [Mod_findsEvenest_39, Mod_findsEvenest_124, Mod_findsEvenest_137, wr_id, ix_id, okx, if_pos, if_neg, Int.toNat_of_nonneg, bak_v, bak_n, wr_b01, wr_bt, b01_or, b01_0, b01_1, lc_lt0, lc_gt0, lc_eq0, wl_wr, wr_wr, wl_id, true_and, and_true, true_or, or_true, not_true_eq_false, not_false_eq_true, nc0, nc1, nc2, nc3, nc4, nc5, nc6, nc7, nc8, nc9, nc10, nc11, nc12, nc13, nc14, nc15, nc16, nc17, nc18, nc19, nc20, nc21, nc22, nc23, nc35, nc47, nc59, nc60, nc61, nc73, nc74, nc214, nc215, nc1115, nc2230, nc3345, if_true, if_false, Int.reduceToNat, hm.k, hm.r1, hm.r2, hm.r3, hm.r4, hm.r15, hm.r16, hm.r19, hm.r23, hm.r24, hm.r25, hm.r26, hm.r29, hm.r30, hm.r31, hm.r33, hm.r34, hm.r35, hm.k73, hm.k74, hm.k75, hm.k76, hm.k77, hm.k78, hm.k79, hm.k80, hm.k81, hm.k82, hm.k83, hm.k84, hm.k85, hm.k86, hm.k87, hm.k88, hm.k89, hm.n73, hm.n74, hm.n75, hm.n76, hm.n77, hm.n78, hm.n79, hm.n80, hm.n81, hm.n82, hm.n83, hm.n84, hm.n85, hm.n86, hm.n87, hm.n88, hm.n89, ms.2]
      by_cases cn : n = 1
      · refine ⟨pI h 80 g.toNat s, ?_, fun z hz => ?_, f0⟩
        · refine st2.trans ?_
          rw [Mod_findsEvenest_13]
          subst cn
          simp (disch := omega) only [Mod_findsEvenest_143, wr_id, ix_id, okx, if_pos, if_neg, Int.toNat_of_nonneg, bak_v, bak_n, wr_b01, wr_bt, b01_or, b01_0, b01_1, lc_lt0, lc_gt0, lc_eq0, wl_wr, wr_wr, wl_id, true_and, and_true, true_or, or_true, not_true_eq_false, not_false_eq_true, nc0, nc1, nc2, nc3, nc4, nc5, nc6, nc7, nc8, nc9, nc10, nc11, nc12, nc13, nc14, nc15, nc16, nc17, nc18, nc19, nc20, nc21, nc22, nc23, nc35, nc47, nc59, nc60, nc61, nc73, nc74, nc214, nc215, nc1115, nc2230, nc3345, if_true, if_false, Int.reduceToNat]
        · rw [vf2 z (by omega)]
          simp only [hwG]
          rw [hs]
          by_cases c1 : (z : Int) < g
          · rw [if_pos c1, up_ne (by omega)]
          · rw [if_neg c1]
            by_cases c2 : g = (z : Int)
            · rw [if_pos c2, ← c2, up_same]
            · rw [if_neg c2, if_neg cq, up_ne (by omega), vn z (by omega) (by omega)]
              refine (hwG_none (PmE S) (S 2) z (by omega) m (g + 1) (fun g' s' _ _ _ _ => ?_)).symm
              subst cn
              simp [PmE]
      · obtain ⟨h3, e3, v3, f3⟩ := ih (g + 1) g s (n - 1) (up f g s) (pI h 80 g.toNat s) (by omega) (by omega) (by omega) (by omega) (by omega) hl' (by
          obtain ⟨g', s', a1, a2, a3, a4, a5⟩ := PmE_ex (x := g) (r := s) (n := n - 1) (by omega) hl'
          exact ⟨g', s', by omega, a2, a3, a4, a5⟩) ev2 vf2 (fun j a b => by rw [up_ne (by omega)]; exact vn j (by omega) b)
        refine ⟨h3, ?_, fun z hz => ?_, f0.tr f3⟩
        · refine st2.trans ?_
          rw [Mod_findsEvenest_13]
          simp (disch := omega) only [Mod_findsEvenest_17, wr_id, ix_id, okx, if_pos, if_neg, Int.toNat_of_nonneg, bak_v, bak_n, wr_b01, wr_bt, b01_or, b01_0, b01_1, lc_lt0, lc_gt0, lc_eq0, wl_wr, wr_wr, wl_id, true_and, and_true, true_or, or_true, not_true_eq_false, not_false_eq_true, nc0, nc1, nc2, nc3, nc4, nc5, nc6, nc7, nc8, nc9, nc10, nc11, nc12, nc13, nc14, nc15, nc16, nc17, nc18, nc19, nc20, nc21, nc22, nc23, nc35, nc47, nc59, nc60, nc61, nc73, nc74, nc214, nc215, nc1115, nc2230, nc3345, if_true, if_false, Int.reduceToNat]
          exact e3
        · rw [v3 z hz]
          simp only [hwG]
          rw [hs]
          by_cases c1 : (z : Int) < g
          · rw [if_pos (by omega), if_pos c1, up_ne (by omega)]
          · rw [if_neg c1]
            by_cases c2 : g = (z : Int)
            · rw [if_pos (show (z : Int) < g + 1 by omega), if_pos c2, ← c2, up_same]
            · rw [if_neg (show ¬ (z : Int) < g + 1 by omega), if_neg c2, if_neg cq]
/-- the ring of hook z in the evenest -/
def evR (S : Int → Int) (z : Int) : Int := hwG (PmE S) (S 2) z (S 1).toNat 0 (-1) (-1) (fullN S)
theorem m_findsEvenest {d : Nat} {h : Hp} {S nb : Int → Int} (n64 : N64 nb) (gd : Gd S) (ev : EvT h S nb) : ∃ h', cal (d+4) m_Mod_findsEvenest [.inr (.inr (72))] (h) = some (.inl 0, h') ∧ (∀ z : Nat, (z : Int) < S 1 → hI h' 80 z = evR S z) ∧ EvT h' S nb ∧ Fr (fun a _ => a = 80) h h' := by
  have ga := gd.a
  have gb := gd.b
  have fs := fullN_spec S
  have eo := eSq_ok gd
  obtain ⟨h1, e1, v1, f1⟩ := m_foundNone (d := d + 2) ev.1.1.1.1
  have ev1 := ev.fr f1
  have hk := ev.1.1.1.1.k
  have hm1 := ev1.1.1.1.1
  have e27 := ev1.2.1
  have st : EX (d+3) m_Mod_findsEvenest 0 [(0, .inr (.inr (72)))] [] (h) = EX (d+3) m_Mod_findsEvenest 13 [(0, .inr (.inr (72))), (1, .inl (-1)), (2, .inl (-1)), (3, .inl (fullN S))] [] (h1) := by
    simp (disch := omega) only [Mod_findsEvenest_0, wr_id, ix_id, okx, if_pos, if_neg, Int.toNat_of_nonneg, bak_v, bak_n, wr_b01, wr_bt, b01_or, b01_0, b01_1, lc_lt0, lc_gt0, lc_eq0, wl_wr, wr_wr, wl_id, true_and, and_true, true_or, or_true, not_true_eq_false, not_false_eq_true, nc0, nc1, nc2, nc3, nc4, nc5, nc6, nc7, nc8, nc9, nc10, nc11, nc12, nc13, nc14, nc15, nc16, nc17, nc18, nc19, nc20, nc21, nc22, nc23, nc35, nc47, nc59, nc60, nc61, nc73, nc74, nc214, nc215, nc1115, nc2230, nc3345, if_true, if_false, Int.reduceToNat, hk, e1]
    rw [Mod_findsEvenest_4]
    simp (disch := omega) only [wr_id, ix_id, okx, if_pos, if_neg, Int.toNat_of_nonneg, bak_v, bak_n, wr_b01, wr_bt, b01_or, b01_0, b01_1, lc_lt0, lc_gt0, lc_eq0, wl_wr, wr_wr, wl_id, true_and, and_true, true_or, or_true, not_true_eq_false, not_false_eq_true, nc0, nc1, nc2, nc3, nc4, nc5, nc6, nc7, nc8, nc9, nc10, nc11, nc12, nc13, nc14, nc15, nc16, nc17, nc18, nc19, nc20, nc21, nc22, nc23, nc35, nc47, nc59, nc60, nc61, nc73, nc74, nc214, nc215, nc1115, nc2230, nc3345, if_true, if_false, Int.reduceToNat, hm1.k, e27]
  by_cases cf : fullN S = 0
  · refine ⟨h1, ?_, fun z hz => ?_, ev1, f1⟩
    · refine st.trans ?_
      rw [Mod_findsEvenest_13]
      simp (disch := omega) only [Mod_findsEvenest_143, wr_id, ix_id, okx, if_pos, if_neg, Int.toNat_of_nonneg, bak_v, bak_n, wr_b01, wr_bt, b01_or, b01_0, b01_1, lc_lt0, lc_gt0, lc_eq0, wl_wr, wr_wr, wl_id, true_and, and_true, true_or, or_true, not_true_eq_false, not_false_eq_true, nc0, nc1, nc2, nc3, nc4, nc5, nc6, nc7, nc8, nc9, nc10, nc11, nc12, nc13, nc14, nc15, nc16, nc17, nc18, nc19, nc20, nc21, nc22, nc23, nc35, nc47, nc59, nc60, nc61, nc73, nc74, nc214, nc215, nc1115, nc2230, nc3345, if_true, if_false, Int.reduceToNat]
    · rw [v1 z (by omega)]
      refine (hwG_none (PmE S) (S 2) z (by omega) _ 0 (fun g' s' _ _ _ _ => ?_)).symm
      simp [PmE, cf]
  · have hl : ¬ Lv S (eMo S) 1 (fullN S) (-1) (-1) = -1 := by
      have e : eSq S = Lv S (eMo S) 1 (fullN S) (-1) (-1) := rfl
      omega
    obtain ⟨h3, e3, v3, f3⟩ := m_fE_2 (d := d) n64 gd (S 1).toNat 0 (-1) (-1) (fullN S) (fun _ => -1) h1 (by omega) (by omega) (by omega) (by omega) (by omega) hl (by
      obtain ⟨g', s', a1, a2, a3, a4, a5⟩ := PmE_ex (x := -1) (r := -1) (n := fullN S) (by omega) hl
      exact ⟨g', s', by omega, a2, a3, a4, a5⟩) ev1 v1 (fun _ _ _ => rfl)
    refine ⟨h3, ?_, fun z hz => by rw [v3 z hz, if_neg (by omega)]; rfl, ev1.fr f3, f1.tr f3⟩
    refine st.trans ?_
    rw [Mod_findsEvenest_13]
    simp (disch := omega) only [Mod_findsEvenest_17, wr_id, ix_id, okx, if_pos, if_neg, Int.toNat_of_nonneg, bak_v, bak_n, wr_b01, wr_bt, b01_or, b01_0, b01_1, lc_lt0, lc_gt0, lc_eq0, wl_wr, wr_wr, wl_id, true_and, and_true, true_or, or_true, not_true_eq_false, not_false_eq_true, nc0, nc1, nc2, nc3, nc4, nc5, nc6, nc7, nc8, nc9, nc10, nc11, nc12, nc13, nc14, nc15, nc16, nc17, nc18, nc19, nc20, nc21, nc22, nc23, nc35, nc47, nc59, nc60, nc61, nc73, nc74, nc214, nc215, nc1115, nc2230, nc3345, if_true, if_false, Int.reduceToNat]
    rw [show (-1 : Int) + 1 = 0 from rfl]
    exact e3
