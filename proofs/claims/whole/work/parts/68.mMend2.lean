/-! hook by hook; the model's findsRight, mended -/
def hwG (P : Int → Int → Int → Int → Int → Bool) (R z : Int) : Nat → Int → Int → Int → Int → Int
  | 0, _, _, _, _ => -1
  | m + 1, g, x, r, n => if g = z then ff (P x r n g) (r + 1) R else if ff (P x r n g) (r + 1) R = -1 then hwG P R z m (g + 1) x r n else hwG P R z m (g + 1) g (ff (P x r n g) (r + 1) R) (n - 1)
theorem hwG_m (P : Int → Int → Int → Int → Int → Bool) (R z : Int) : ∀ (m m' : Nat) (g x r n : Int), g ≤ z → z < g + m → z < g + m' → hwG P R z m g x r n = hwG P R z m' g x r n := by
  intro m
  induction m with
  | zero => intro m' g x r n h1 h2 h3; omega
  | succ m ih =>
    intro m' g x r n h1 h2 h3
    cases m' with
    | zero => omega
    | succ m' =>
      simp only [hwG]
      by_cases c : g = z
      · rw [if_pos c, if_pos c]
      · rw [if_neg c, if_neg c, ih m' (g + 1) x r n (by omega) (by omega) (by omega), ih m' (g + 1) g (ff (P x r n g) (r + 1) R) (n - 1) (by omega) (by omega) (by omega)]
theorem ff_none {p : Int → Bool} {N : Int} {i : Int} (h : ∀ j, i ≤ j → j < N → p j = false) (h0 : 0 ≤ i) : ff p i N = -1 := by
  rcases ff_spec (p := p) (N := N) i with q | q
  · exact q.1
  · have := h (ff p i N) q.1 q.2.1
    rw [q.2.2.1] at this
    cases this
theorem hwG_none (P : Int → Int → Int → Int → Int → Bool) (R z : Int) {x r n : Int} (hr : -1 ≤ r) : ∀ (m : Nat) (g : Int), (∀ g' s, g ≤ g' → g' < g + m → r < s → s < R → P x r n g' s = false) → hwG P R z m g x r n = -1 := by
  intro m
  induction m with
  | zero => intro g _; rfl
  | succ m ih =>
    intro g h
    have e : ff (P x r n g) (r + 1) R = -1 := ff_none (fun s s1 s2 => h g s (by omega) (by omega) (by omega) s2) (by omega)
    simp only [hwG]
    rw [e]
    split
    · rfl
    · rw [if_pos rfl]
      exact ih (g + 1) (fun g' s a b c d => h g' s (by omega) (by omega) c d)
def PmR (S : Int → Int) : Int → Int → Int → Int → Int → Bool := fun x r _ g s => decide (okR S x r g s = true ∧ kbR S g s + AR S g s = AR S x r)
theorem mx_att {f : Int → Int} {N : Int} : ∀ i m, mx f i N m = m ∨ ∃ j, i ≤ j ∧ j < N ∧ f j = mx f i N m := by
  refine up_ind (hi := N) ?_ ?_
  · intro i hi m
    exact Or.inl (mx_stop hi)
  · intro i hi ih m
    rw [mx_step hi]
    by_cases c : m < f i
    · rw [if_pos c]
      rcases ih (f i) with h | ⟨j, h1, h2, h3⟩
      · exact Or.inr ⟨i, Int.le_refl _, hi, h.symm⟩
      · exact Or.inr ⟨j, by omega, h2, h3⟩
    · rw [if_neg c]
      rcases ih m with h | ⟨j, h1, h2, h3⟩
      · exact Or.inl h
      · exact Or.inr ⟨j, by omega, h2, h3⟩
theorem fo_att {f : Int → Int → Int} {N R b : Int} : ∀ i m, fo (fun g m => mx (f g) b R m) i N m = m ∨ ∃ g s, i ≤ g ∧ g < N ∧ b ≤ s ∧ s < R ∧ f g s = fo (fun g m => mx (f g) b R m) i N m := by
  refine up_ind (hi := N) ?_ ?_
  · intro i hi m
    exact Or.inl (fo_stop hi)
  · intro i hi ih m
    rw [fo_step hi]
    rcases ih (mx (f i) b R m) with h | ⟨g, s, h1, h2, h3, h4, h5⟩
    · rcases mx_att (f := f i) (N := R) b m with h' | ⟨s, h1, h2, h3⟩
      · left; rw [h]; exact h'
      · exact Or.inr ⟨i, s, Int.le_refl _, hi, h1, h2, by rw [h]; exact h3⟩
    · exact Or.inr ⟨g, s, by omega, h2, h3, h4, h5⟩
theorem PmR_ex {S : Int → Int} (gd : Gd S) {x r : Int} (hx : -1 ≤ x) (h : 0 < AR S x r) (n : Int) : ∃ g s, x < g ∧ g < S 1 ∧ r < s ∧ s < S 2 ∧ PmR S x r n g s = true := by
  have e := AR_eq gd (r := r) hx
  rcases fo_att (f := fun g s => if okR S x r g s = true then kbR S g s + AR S g s else 0) (N := S 1) (R := S 2) (b := r + 1) (x + 1) 0 with q | ⟨g, s, h1, h2, h3, h4, h5⟩
  · have : fo (stR S x r) (x + 1) (S 1) 0 = 0 := q
    omega
  · have h6 : fo (stR S x r) (x + 1) (S 1) 0 = if okR S x r g s = true then kbR S g s + AR S g s else 0 := h5.symm
    rw [← e] at h6
    refine ⟨g, s, by omega, h2, by omega, h4, ?_⟩
    unfold PmR
    by_cases c : okR S x r g s = true
    · rw [if_pos c] at h6
      simp [c, h6]
    · rw [if_neg c] at h6
      omega
def p80 (a _k : Nat) : Prop := a = 77 ∨ a = 80
theorem m_fR_1 {d : Nat} {S nb : Int → Int} (n64 : N64 nb) (gd : Gd S) (lo : LawOk S) {x r g : Int} (hx : -1 ≤ x ∧ x < g ∧ g < S 1) (hr : -1 ≤ r ∧ r < S 2) (hxr : x = -1 ↔ r = -1) (n : Int) : ∀ s, r + 1 ≤ s → s ≤ 12 → ∀ h, PT h S nb → (∀ s, 0 ≤ s → s < S 2 → rtV h S g s) → rtV h S x r → ∃ h', EX (d+2) m_Mod_findsRight 57 [(0, .inr (.inr (72))), (1, .inl (x)), (2, .inl (r)), (3, .inl (x)), (4, .inl (r)), (5, .inl (g)), (6, .inl (s))] [] (h) = EX (d+2) m_Mod_findsRight 160 [(0, .inr (.inr (72))), (1, .inl (x)), (2, .inl (r)), (3, .inl (if ff (PmR S x r n g) s (S 2) = -1 then x else g)), (4, .inl (if ff (PmR S x r n g) s (S 2) = -1 then r else ff (PmR S x r n g) s (S 2))), (5, .inl (g))] [] (h') ∧ Fr (fun a _ => a = 77) h h' := by
  have ga := gd.a
  have gb := gd.b
  refine up_ind (hi := S 2) ?_ ?_
  · intro s hs h0 h1 h p rt rx
    have ms := p.1.1
    have hm := ms.1
    refine ⟨h, ?_, Fr.rf⟩
    rw [Mod_findsRight_57, ff_stop hs]
    simp (disch := omega) only [wr_id, ix_id, okx, if_pos, if_neg, Int.toNat_of_nonneg, bak_v, bak_n, wr_b01, wr_bt, b01_or, b01_0, b01_1, lc_lt0, lc_gt0, lc_eq0, wl_wr, wr_wr, wl_id, true_and, and_true, true_or, or_true, not_true_eq_false, not_false_eq_true, nc0, nc1, nc2, nc3, nc4, nc5, nc6, nc7, nc8, nc9, nc10, nc11, nc12, nc13, nc14, nc15, nc16, nc17, nc18, nc19, nc20, nc21, nc22, nc23, nc35, nc47, nc59, nc60, nc61, nc73, nc74, nc214, nc215, nc1115, nc2230, nc3345, if_true, if_false, Int.reduceToNat, hm.k, hm.r1, hm.r2, hm.r3, hm.r4, hm.r15, hm.r16, hm.r19, hm.r23, hm.r24, hm.r25, hm.r26, hm.r29, hm.r30, hm.r31, hm.r33, hm.r34, hm.r35, hm.k73, hm.k74, hm.k75, hm.k76, hm.k77, hm.k78, hm.k79, hm.k80, hm.k81, hm.k82, hm.k83, hm.k84, hm.k85, hm.k86, hm.k87, hm.k88, hm.k89, hm.n73, hm.n74, hm.n75, hm.n76, hm.n77, hm.n78, hm.n79, hm.n80, hm.n81, hm.n82, hm.n83, hm.n84, hm.n85, hm.n86, hm.n87, hm.n88, hm.n89, ms.2]
  · intro s hs ih h0 h1 h p rt rx
    have ms := p.1.1
    have hm := ms.1
    have ef := p.follows (d := d) n64 gd (x := x) (r := r) (y := g) (s := s) hx (by omega) hxr
    have ar := AR_rng S g s
    have ax := AR_rng S x r
    have kr := kbR_rng S g s
    have s1 : ¬ s = -1 := by omega
    rw [Mod_findsRight_57, ff_step hs]
    by_cases c : Fpl S x r g s = true
    · obtain ⟨h1', e1, f1, q⟩ := m_isRight (d := d) ms gd lo (x := g) (y := s) (by omega) (by omega)
      have p1 := p.fr2 f1 (fun a k c => by omega)
      have ms1 := p1.1.1
      have hm1 := ms1.1
      have rt1 : ∀ s, 0 ≤ s → s < S 2 → rtV h1' S g s := fun s s0 s1 => by unfold rtV; rw [f1.I (by omega)]; exact rt s s0 s1
      have rx1 : rtV h1' S x r := by unfold rtV; rw [f1.I (by omega)]; exact rx
      have e81 := rt1 s (by omega) hs
      have e82 := rx1
      unfold rtV at e81 e82
      by_cases cl : lawV S g s = 1
      · have co : okR S x r g s = true := by simp [okR, c, cl]
        by_cases c2 : kbR S g s + AR S g s = AR S x r
        · have cp : PmR S x r n g s = true := by simp [PmR, co, c2]
          rw [if_pos cp, if_neg s1, if_neg s1]
          refine ⟨h1', ?_, f1⟩
          simp (disch := omega) only [Mod_findsRight_68, Mod_findsRight_73, Mod_findsRight_83, Mod_findsRight_86, wr_id, ix_id, okx, if_pos, if_neg, Int.toNat_of_nonneg, bak_v, bak_n, wr_b01, wr_bt, b01_or, b01_0, b01_1, lc_lt0, lc_gt0, lc_eq0, wl_wr, wr_wr, wl_id, true_and, and_true, true_or, or_true, not_true_eq_false, not_false_eq_true, nc0, nc1, nc2, nc3, nc4, nc5, nc6, nc7, nc8, nc9, nc10, nc11, nc12, nc13, nc14, nc15, nc16, nc17, nc18, nc19, nc20, nc21, nc22, nc23, nc35, nc47, nc59, nc60, nc61, nc73, nc74, nc214, nc215, nc1115, nc2230, nc3345, if_true, if_false, Int.reduceToNat, hm.k, hm.r1, hm.r2, hm.r3, hm.r4, hm.r15, hm.r16, hm.r19, hm.r23, hm.r24, hm.r25, hm.r26, hm.r29, hm.r30, hm.r31, hm.r33, hm.r34, hm.r35, hm.k73, hm.k74, hm.k75, hm.k76, hm.k77, hm.k78, hm.k79, hm.k80, hm.k81, hm.k82, hm.k83, hm.k84, hm.k85, hm.k86, hm.k87, hm.k88, hm.k89, hm.n73, hm.n74, hm.n75, hm.n76, hm.n77, hm.n78, hm.n79, hm.n80, hm.n81, hm.n82, hm.n83, hm.n84, hm.n85, hm.n86, hm.n87, hm.n88, hm.n89, ms.2, ef, c, e1]
          have hm := hm1
          simp (disch := omega) only [Mod_findsRight_94, Mod_findsRight_100, Mod_findsRight_108, Mod_findsRight_147, Mod_findsRight_154, wr_id, ix_id, okx, if_pos, if_neg, Int.toNat_of_nonneg, bak_v, bak_n, wr_b01, wr_bt, b01_or, b01_0, b01_1, lc_lt0, lc_gt0, lc_eq0, wl_wr, wr_wr, wl_id, true_and, and_true, true_or, or_true, not_true_eq_false, not_false_eq_true, nc0, nc1, nc2, nc3, nc4, nc5, nc6, nc7, nc8, nc9, nc10, nc11, nc12, nc13, nc14, nc15, nc16, nc17, nc18, nc19, nc20, nc21, nc22, nc23, nc35, nc47, nc59, nc60, nc61, nc73, nc74, nc214, nc215, nc1115, nc2230, nc3345, if_true, if_false, Int.reduceToNat, cl, hm.k, hm.r1, hm.r2, hm.r3, hm.r4, hm.r15, hm.r16, hm.r19, hm.r23, hm.r24, hm.r25, hm.r26, hm.r29, hm.r30, hm.r31, hm.r33, hm.r34, hm.r35, hm.k73, hm.k74, hm.k75, hm.k76, hm.k77, hm.k78, hm.k79, hm.k80, hm.k81, hm.k82, hm.k83, hm.k84, hm.k85, hm.k86, hm.k87, hm.k88, hm.k89, hm.n73, hm.n74, hm.n75, hm.n76, hm.n77, hm.n78, hm.n79, hm.n80, hm.n81, hm.n82, hm.n83, hm.n84, hm.n85, hm.n86, hm.n87, hm.n88, hm.n89, m_keptBy ms1 gd, e81, e82]
          rw [Mod_findsRight_57]
          by_cases c4 : s + 1 < S 2
          · simp (disch := omega) only [Mod_findsRight_68, wr_id, ix_id, okx, if_pos, if_neg, Int.toNat_of_nonneg, bak_v, bak_n, wr_b01, wr_bt, b01_or, b01_0, b01_1, lc_lt0, lc_gt0, lc_eq0, wl_wr, wr_wr, wl_id, true_and, and_true, true_or, or_true, not_true_eq_false, not_false_eq_true, nc0, nc1, nc2, nc3, nc4, nc5, nc6, nc7, nc8, nc9, nc10, nc11, nc12, nc13, nc14, nc15, nc16, nc17, nc18, nc19, nc20, nc21, nc22, nc23, nc35, nc47, nc59, nc60, nc61, nc73, nc74, nc214, nc215, nc1115, nc2230, nc3345, if_true, if_false, Int.reduceToNat, hm.k, hm.r1, hm.r2, hm.r3, hm.r4, hm.r15, hm.r16, hm.r19, hm.r23, hm.r24, hm.r25, hm.r26, hm.r29, hm.r30, hm.r31, hm.r33, hm.r34, hm.r35, hm.k73, hm.k74, hm.k75, hm.k76, hm.k77, hm.k78, hm.k79, hm.k80, hm.k81, hm.k82, hm.k83, hm.k84, hm.k85, hm.k86, hm.k87, hm.k88, hm.k89, hm.n73, hm.n74, hm.n75, hm.n76, hm.n77, hm.n78, hm.n79, hm.n80, hm.n81, hm.n82, hm.n83, hm.n84, hm.n85, hm.n86, hm.n87, hm.n88, hm.n89, ms1.2]
          · simp (disch := omega) only [wr_id, ix_id, okx, if_pos, if_neg, Int.toNat_of_nonneg, bak_v, bak_n, wr_b01, wr_bt, b01_or, b01_0, b01_1, lc_lt0, lc_gt0, lc_eq0, wl_wr, wr_wr, wl_id, true_and, and_true, true_or, or_true, not_true_eq_false, not_false_eq_true, nc0, nc1, nc2, nc3, nc4, nc5, nc6, nc7, nc8, nc9, nc10, nc11, nc12, nc13, nc14, nc15, nc16, nc17, nc18, nc19, nc20, nc21, nc22, nc23, nc35, nc47, nc59, nc60, nc61, nc73, nc74, nc214, nc215, nc1115, nc2230, nc3345, if_true, if_false, Int.reduceToNat, hm.k, hm.r1, hm.r2, hm.r3, hm.r4, hm.r15, hm.r16, hm.r19, hm.r23, hm.r24, hm.r25, hm.r26, hm.r29, hm.r30, hm.r31, hm.r33, hm.r34, hm.r35, hm.k73, hm.k74, hm.k75, hm.k76, hm.k77, hm.k78, hm.k79, hm.k80, hm.k81, hm.k82, hm.k83, hm.k84, hm.k85, hm.k86, hm.k87, hm.k88, hm.k89, hm.n73, hm.n74, hm.n75, hm.n76, hm.n77, hm.n78, hm.n79, hm.n80, hm.n81, hm.n82, hm.n83, hm.n84, hm.n85, hm.n86, hm.n87, hm.n88, hm.n89, ms1.2]
        · have cp : ¬ PmR S x r n g s = true := by simp [PmR, c2]
          rw [if_neg cp]
          obtain ⟨h2, e2, f2⟩ := ih (by omega) (by omega) h1' p1 rt1 rx1
          refine ⟨h2, ?_, f1.tr f2⟩
          simp (disch := omega) only [Mod_findsRight_68, Mod_findsRight_73, Mod_findsRight_83, Mod_findsRight_86, wr_id, ix_id, okx, if_pos, if_neg, Int.toNat_of_nonneg, bak_v, bak_n, wr_b01, wr_bt, b01_or, b01_0, b01_1, lc_lt0, lc_gt0, lc_eq0, wl_wr, wr_wr, wl_id, true_and, and_true, true_or, or_true, not_true_eq_false, not_false_eq_true, nc0, nc1, nc2, nc3, nc4, nc5, nc6, nc7, nc8, nc9, nc10, nc11, nc12, nc13, nc14, nc15, nc16, nc17, nc18, nc19, nc20, nc21, nc22, nc23, nc35, nc47, nc59, nc60, nc61, nc73, nc74, nc214, nc215, nc1115, nc2230, nc3345, if_true, if_false, Int.reduceToNat, hm.k, hm.r1, hm.r2, hm.r3, hm.r4, hm.r15, hm.r16, hm.r19, hm.r23, hm.r24, hm.r25, hm.r26, hm.r29, hm.r30, hm.r31, hm.r33, hm.r34, hm.r35, hm.k73, hm.k74, hm.k75, hm.k76, hm.k77, hm.k78, hm.k79, hm.k80, hm.k81, hm.k82, hm.k83, hm.k84, hm.k85, hm.k86, hm.k87, hm.k88, hm.k89, hm.n73, hm.n74, hm.n75, hm.n76, hm.n77, hm.n78, hm.n79, hm.n80, hm.n81, hm.n82, hm.n83, hm.n84, hm.n85, hm.n86, hm.n87, hm.n88, hm.n89, ms.2, ef, c, e1]
          have hm := hm1
          simp (disch := omega) only [Mod_findsRight_94, Mod_findsRight_100, Mod_findsRight_108, Mod_findsRight_144, Mod_findsRight_154, wr_id, ix_id, okx, if_pos, if_neg, Int.toNat_of_nonneg, bak_v, bak_n, wr_b01, wr_bt, b01_or, b01_0, b01_1, lc_lt0, lc_gt0, lc_eq0, wl_wr, wr_wr, wl_id, true_and, and_true, true_or, or_true, not_true_eq_false, not_false_eq_true, nc0, nc1, nc2, nc3, nc4, nc5, nc6, nc7, nc8, nc9, nc10, nc11, nc12, nc13, nc14, nc15, nc16, nc17, nc18, nc19, nc20, nc21, nc22, nc23, nc35, nc47, nc59, nc60, nc61, nc73, nc74, nc214, nc215, nc1115, nc2230, nc3345, if_true, if_false, Int.reduceToNat, cl, hm.k, hm.r1, hm.r2, hm.r3, hm.r4, hm.r15, hm.r16, hm.r19, hm.r23, hm.r24, hm.r25, hm.r26, hm.r29, hm.r30, hm.r31, hm.r33, hm.r34, hm.r35, hm.k73, hm.k74, hm.k75, hm.k76, hm.k77, hm.k78, hm.k79, hm.k80, hm.k81, hm.k82, hm.k83, hm.k84, hm.k85, hm.k86, hm.k87, hm.k88, hm.k89, hm.n73, hm.n74, hm.n75, hm.n76, hm.n77, hm.n78, hm.n79, hm.n80, hm.n81, hm.n82, hm.n83, hm.n84, hm.n85, hm.n86, hm.n87, hm.n88, hm.n89, m_keptBy ms1 gd, e81, e82]
          exact e2
      · have cl0 : lawV S g s = 0 := by omega
        have cp : ¬ PmR S x r n g s = true := by simp [PmR, okR, cl]
        rw [if_neg cp]
        obtain ⟨h2, e2, f2⟩ := ih (by omega) (by omega) h1' p1 rt1 rx1
        refine ⟨h2, ?_, f1.tr f2⟩
        simp (disch := omega) only [Mod_findsRight_68, Mod_findsRight_73, Mod_findsRight_83, Mod_findsRight_86, Mod_findsRight_94, Mod_findsRight_97, Mod_findsRight_154, wr_id, ix_id, okx, if_pos, if_neg, Int.toNat_of_nonneg, bak_v, bak_n, wr_b01, wr_bt, b01_or, b01_0, b01_1, lc_lt0, lc_gt0, lc_eq0, wl_wr, wr_wr, wl_id, true_and, and_true, true_or, or_true, not_true_eq_false, not_false_eq_true, nc0, nc1, nc2, nc3, nc4, nc5, nc6, nc7, nc8, nc9, nc10, nc11, nc12, nc13, nc14, nc15, nc16, nc17, nc18, nc19, nc20, nc21, nc22, nc23, nc35, nc47, nc59, nc60, nc61, nc73, nc74, nc214, nc215, nc1115, nc2230, nc3345, if_true, if_false, Int.reduceToNat, hm.k, hm.r1, hm.r2, hm.r3, hm.r4, hm.r15, hm.r16, hm.r19, hm.r23, hm.r24, hm.r25, hm.r26, hm.r29, hm.r30, hm.r31, hm.r33, hm.r34, hm.r35, hm.k73, hm.k74, hm.k75, hm.k76, hm.k77, hm.k78, hm.k79, hm.k80, hm.k81, hm.k82, hm.k83, hm.k84, hm.k85, hm.k86, hm.k87, hm.k88, hm.k89, hm.n73, hm.n74, hm.n75, hm.n76, hm.n77, hm.n78, hm.n79, hm.n80, hm.n81, hm.n82, hm.n83, hm.n84, hm.n85, hm.n86, hm.n87, hm.n88, hm.n89, ms.2, ef, c, e1, cl0]
        exact e2
    · have c' : Fpl S x r g s = false := by simpa using c
      have cp : ¬ PmR S x r n g s = true := by simp [PmR, okR, c']
      rw [c'] at ef
      rw [if_neg cp]
      obtain ⟨h2, e2, f2⟩ := ih (by omega) (by omega) h p rt rx
      refine ⟨h2, ?_, f2⟩
      simp (disch := omega) only [Mod_findsRight_68, Mod_findsRight_73, Mod_findsRight_83, Mod_findsRight_154, wr_id, ix_id, okx, if_pos, if_neg, Int.toNat_of_nonneg, bak_v, bak_n, wr_b01, wr_bt, b01_or, b01_0, b01_1, lc_lt0, lc_gt0, lc_eq0, wl_wr, wr_wr, wl_id, true_and, and_true, true_or, or_true, not_true_eq_false, not_false_eq_true, nc0, nc1, nc2, nc3, nc4, nc5, nc6, nc7, nc8, nc9, nc10, nc11, nc12, nc13, nc14, nc15, nc16, nc17, nc18, nc19, nc20, nc21, nc22, nc23, nc35, nc47, nc59, nc60, nc61, nc73, nc74, nc214, nc215, nc1115, nc2230, nc3345, if_true, if_false, Int.reduceToNat, hm.k, hm.r1, hm.r2, hm.r3, hm.r4, hm.r15, hm.r16, hm.r19, hm.r23, hm.r24, hm.r25, hm.r26, hm.r29, hm.r30, hm.r31, hm.r33, hm.r34, hm.r35, hm.k73, hm.k74, hm.k75, hm.k76, hm.k77, hm.k78, hm.k79, hm.k80, hm.k81, hm.k82, hm.k83, hm.k84, hm.k85, hm.k86, hm.k87, hm.k88, hm.k89, hm.n73, hm.n74, hm.n75, hm.n76, hm.n77, hm.n78, hm.n79, hm.n80, hm.n81, hm.n82, hm.n83, hm.n84, hm.n85, hm.n86, hm.n87, hm.n88, hm.n89, ms.2, ef]
      simp only [Bool.false_eq_true, not_false_eq_true, if_true]
      exact e2
theorem m_fR_2 {d : Nat} {S nb : Int → Int} (n64 : N64 nb) (gd : Gd S) (lo : LawOk S) : ∀ (m : Nat) (g x r n : Int) (f : Int → Int) (h : Hp), g + m = S 1 → (-1 ≤ x ∧ x < g) → (-1 ≤ r ∧ r < S 2) → (x = -1 ↔ r = -1) → (∃ g' s, g ≤ g' ∧ g' < S 1 ∧ r < s ∧ s < S 2 ∧ PmR S x r n g' s = true) → PT h S nb → (∀ g s, -1 ≤ g → g < S 1 → -1 ≤ s → s < S 2 → (g = -1 ↔ s = -1) → rtV h S g s) → (∀ j : Nat, j < 12 → hI h 80 j = f j) → (∀ j, g ≤ j → j < 12 → f j = -1) → ∃ h', EX (d+2) m_Mod_findsRight 36 [(0, .inr (.inr (72))), (1, .inl (x)), (2, .inl (r)), (3, .inl (x)), (4, .inl (r)), (5, .inl (g))] [] (h) = some (.inl 0, h') ∧ (∀ z : Nat, (z : Int) < S 1 → hI h' 80 z = if (z : Int) < g then f z else hwG (PmR S) (S 2) z m g x r n) ∧ Fr p80 h h' := by
  have ga := gd.a
  have gb := gd.b
  intro m
  induction m with
  | zero =>
    intro g x r n f h hg hx hr hxr hex
    obtain ⟨g', s, h1, h2, h3, h4, h5⟩ := hex
    omega
  | succ m ih =>
    intro g x r n f h hg hx hr hxr hex p rt vf vn
    have ms := p.1.1
    have hm := ms.1
    obtain ⟨h1, e1, f1⟩ := m_fR_1 (d := d) n64 gd lo (x := x) (r := r) (g := g) (by omega) hr hxr n (r + 1) (by omega) (by omega) h p (fun s s0 s1 => rt g s (by omega) (by omega) (by omega) s1 (by omega)) (rt x r (by omega) (by omega) (by omega) (by omega) hxr)
    have p1 := p.fr2 f1 (fun a k c => by omega)
    have ms1 := p1.1.1
    have rt1 : ∀ g s, -1 ≤ g → g < S 1 → -1 ≤ s → s < S 2 → (g = -1 ↔ s = -1) → rtV h1 S g s := fun g s a b c d e => by unfold rtV; rw [f1.I (by omega)]; exact rt g s a b c d e
    have vf1 : ∀ j : Nat, j < 12 → hI h1 80 j = f j := fun j hj => by rw [f1.I (by omega)]; exact vf j hj
    have fm1 : Fr p80 h h1 := f1.mo (fun a k q => Or.inl q)
    have st : EX (d+2) m_Mod_findsRight 36 [(0, .inr (.inr (72))), (1, .inl (x)), (2, .inl (r)), (3, .inl (x)), (4, .inl (r)), (5, .inl (g))] [] (h) = EX (d+2) m_Mod_findsRight 160 [(0, .inr (.inr (72))), (1, .inl (x)), (2, .inl (r)), (3, .inl (if ff (PmR S x r n g) (r + 1) (S 2) = -1 then x else g)), (4, .inl (if ff (PmR S x r n g) (r + 1) (S 2) = -1 then r else ff (PmR S x r n g) (r + 1) (S 2))), (5, .inl (g))] [] (h1) := by
      rw [Mod_findsRight_36]
      simp (disch := omega) only [Mod_findsRight_47, Mod_findsRight_52, wr_id, ix_id, okx, if_pos, if_neg, Int.toNat_of_nonneg, bak_v, bak_n, wr_b01, wr_bt, b01_or, b01_0, b01_1, lc_lt0, lc_gt0, lc_eq0, wl_wr, wr_wr, wl_id, true_and, and_true, true_or, or_true, not_true_eq_false, not_false_eq_true, nc0, nc1, nc2, nc3, nc4, nc5, nc6, nc7, nc8, nc9, nc10, nc11, nc12, nc13, nc14, nc15, nc16, nc17, nc18, nc19, nc20, nc21, nc22, nc23, nc35, nc47, nc59, nc60, nc61, nc73, nc74, nc214, nc215, nc1115, nc2230, nc3345, if_true, if_false, Int.reduceToNat, hm.k, hm.r1, hm.r2, hm.r3, hm.r4, hm.r15, hm.r16, hm.r19, hm.r23, hm.r24, hm.r25, hm.r26, hm.r29, hm.r30, hm.r31, hm.r33, hm.r34, hm.r35, hm.k73, hm.k74, hm.k75, hm.k76, hm.k77, hm.k78, hm.k79, hm.k80, hm.k81, hm.k82, hm.k83, hm.k84, hm.k85, hm.k86, hm.k87, hm.k88, hm.k89, hm.n73, hm.n74, hm.n75, hm.n76, hm.n77, hm.n78, hm.n79, hm.n80, hm.n81, hm.n82, hm.n83, hm.n84, hm.n85, hm.n86, hm.n87, hm.n88, hm.n89, ms.2]
      exact e1
    have sp := ff_spec (p := PmR S x r n g) (N := S 2) (r + 1)
    by_cases cq : ff (PmR S x r n g) (r + 1) (S 2) = -1
    · rw [if_pos cq, if_pos cq] at st
      obtain ⟨h2, e2, v2, f2⟩ := ih (g + 1) x r n f h1 (by omega) (by omega) hr hxr (by
        obtain ⟨g', s, a1, a2, a3, a4, a5⟩ := hex
        refine ⟨g', s, ?_, a2, a3, a4, a5⟩
        by_cases c : g' = g
        · rw [c] at a5
          rcases sp with q | q
          · rw [q.2 s (by omega) a4] at a5; cases a5
          · omega
        · omega) p1 rt1 vf1 (fun j a b => vn j (by omega) b)
      refine ⟨h2, ?_, fun z hz => ?_, fm1.tr f2⟩
      · refine st.trans ?_
        rw [Mod_findsRight_160]
        exact e2
      · rw [v2 z hz]
        simp only [hwG]
        by_cases c1 : (z : Int) < g
        · rw [if_pos (by omega), if_pos c1]
        · rw [if_neg c1]
          by_cases c2 : g = (z : Int)
          · rw [if_pos (show (z : Int) < g + 1 by omega), if_pos c2, cq]
            exact vn z (by omega) (by omega)
          · rw [if_neg (show ¬ (z : Int) < g + 1 by omega), if_neg c2, if_pos cq]
    · rw [if_neg cq, if_neg cq] at st
      have sq : r + 1 ≤ ff (PmR S x r n g) (r + 1) (S 2) ∧ ff (PmR S x r n g) (r + 1) (S 2) < S 2 := by omega
      generalize hs : ff (PmR S x r n g) (r + 1) (S 2) = s at *
      have f0 : Fr p80 h (pI h1 80 g.toNat s) := fm1.pI (Or.inr rfl)
      have p2 := p.fr2 f0 (fun a k c => by unfold p80 at c; omega)
      have ms2 := p2.1.1
      have hm1 := ms1.1
      have hm2 := ms2.1
      have rt2 : ∀ g s, -1 ≤ g → g < S 1 → -1 ≤ s → s < S 2 → (g = -1 ↔ s = -1) → rtV (pI h1 80 g.toNat s) S g s := fun g s a b c d e => by unfold rtV; rw [hI_pI, if_neg (by omega)]; exact rt1 g s a b c d e
      have rt2' : ∀ g' s', -1 ≤ g' → g' < S 1 → -1 ≤ s' → s' < S 2 → (g' = -1 ↔ s' = -1) → rtV (pI h1 80 g.toNat s) S g' s' := fun g' s' a b c d e => by unfold rtV; rw [hI_pI, if_neg (by omega)]; exact rt1 g' s' a b c d e
      have vf2 : ∀ j : Nat, j < 12 → hI (pI h1 80 g.toNat s) 80 j = up f g s j := fun j hj => by
        rw [hI_pI]
        unfold up
        by_cases c : j = g.toNat
        · rw [if_pos ⟨rfl, c⟩, if_pos (by omega)]
        · rw [if_neg (fun w => c w.2), if_neg (by omega)]; exact vf1 j hj
      have e8 := rt2' g s (by omega) (by omega) (by omega) (by omega) (by omega)
      unfold rtV at e8
      have ag := AR_rng S g s
      have st2 : EX (d+2) m_Mod_findsRight 36 [(0, .inr (.inr (72))), (1, .inl (x)), (2, .inl (r)), (3, .inl (x)), (4, .inl (r)), (5, .inl (g))] [] (h) = EX (d+2) m_Mod_findsRight 8 [(0, .inr (.inr (72))), (1, .inl (g)), (2, .inl (s))] [] (pI h1 80 g.toNat s) := by
        refine st.trans ?_
        rw [Mod_findsRight_160, Mod_findsRight_36]
        have hm := hm1
        by_cases c3 : g + 1 < S 1
        · simp (disch := omega) only [Mod_findsRight_47, Mod_findsRight_166, Mod_findsRight_178, wr_id, ix_id, okx, if_pos, if_neg, Int.toNat_of_nonneg, bak_v, bak_n, wr_b01, wr_bt, b01_or, b01_0, b01_1, lc_lt0, lc_gt0, lc_eq0, wl_wr, wr_wr, wl_id, true_and, and_true, true_or, or_true, not_true_eq_false, not_false_eq_true, nc0, nc1, nc2, nc3, nc4, nc5, nc6, nc7, nc8, nc9, nc10, nc11, nc12, nc13, nc14, nc15, nc16, nc17, nc18, nc19, nc20, nc21, nc22, nc23, nc35, nc47, nc59, nc60, nc61, nc73, nc74, nc214, nc215, nc1115, nc2230, nc3345, if_true, if_false, Int.reduceToNat, hm.k, hm.r1, hm.r2, hm.r3, hm.r4, hm.r15, hm.r16, hm.r19, hm.r23, hm.r24, hm.r25, hm.r26, hm.r29, hm.r30, hm.r31, hm.r33, hm.r34, hm.r35, hm.k73, hm.k74, hm.k75, hm.k76, hm.k77, hm.k78, hm.k79, hm.k80, hm.k81, hm.k82, hm.k83, hm.k84, hm.k85, hm.k86, hm.k87, hm.k88, hm.k89, hm.n73, hm.n74, hm.n75, hm.n76, hm.n77, hm.n78, hm.n79, hm.n80, hm.n81, hm.n82, hm.n83, hm.n84, hm.n85, hm.n86, hm.n87, hm.n88, hm.n89, ms1.2]
        · simp (disch := omega) only [Mod_findsRight_47, Mod_findsRight_166, Mod_findsRight_178, wr_id, ix_id, okx, if_pos, if_neg, Int.toNat_of_nonneg, bak_v, bak_n, wr_b01, wr_bt, b01_or, b01_0, b01_1, lc_lt0, lc_gt0, lc_eq0, wl_wr, wr_wr, wl_id, true_and, and_true, true_or, or_true, not_true_eq_false, not_false_eq_true, nc0, nc1, nc2, nc3, nc4, nc5, nc6, nc7, nc8, nc9, nc10, nc11, nc12, nc13, nc14, nc15, nc16, nc17, nc18, nc19, nc20, nc21, nc22, nc23, nc35, nc47, nc59, nc60, nc61, nc73, nc74, nc214, nc215, nc1115, nc2230, nc3345, if_true, if_false, Int.reduceToNat, hm.k, hm.r1, hm.r2, hm.r3, hm.r4, hm.r15, hm.r16, hm.r19, hm.r23, hm.r24, hm.r25, hm.r26, hm.r29, hm.r30, hm.r31, hm.r33, hm.r34, hm.r35, hm.k73, hm.k74, hm.k75, hm.k76, hm.k77, hm.k78, hm.k79, hm.k80, hm.k81, hm.k82, hm.k83, hm.k84, hm.k85, hm.k86, hm.k87, hm.k88, hm.k89, hm.n73, hm.n74, hm.n75, hm.n76, hm.n77, hm.n78, hm.n79, hm.n80, hm.n81, hm.n82, hm.n83, hm.n84, hm.n85, hm.n86, hm.n87, hm.n88, hm.n89, ms1.2]
      by_cases ca : 0 < AR S g s
      · obtain ⟨h3, e3, v3, f3⟩ := ih (g + 1) g s (n - 1) (up f g s) (pI h1 80 g.toNat s) (by omega) (by omega) (by omega) (by omega) (by
          obtain ⟨g', s', a1, a2, a3, a4, a5⟩ := PmR_ex gd (x := g) (r := s) (by omega) ca (n - 1)
          exact ⟨g', s', by omega, a2, a3, a4, a5⟩) p2 rt2' vf2 (fun j a b => by rw [up_ne (by omega)]; exact vn j (by omega) b)
        refine ⟨h3, ?_, fun z hz => ?_, f0.tr f3⟩
        · refine st2.trans ?_
          rw [Mod_findsRight_8]
          have hm := hm2
          simp (disch := omega) only [Mod_findsRight_26, wr_id, ix_id, okx, if_pos, if_neg, Int.toNat_of_nonneg, bak_v, bak_n, wr_b01, wr_bt, b01_or, b01_0, b01_1, lc_lt0, lc_gt0, lc_eq0, wl_wr, wr_wr, wl_id, true_and, and_true, true_or, or_true, not_true_eq_false, not_false_eq_true, nc0, nc1, nc2, nc3, nc4, nc5, nc6, nc7, nc8, nc9, nc10, nc11, nc12, nc13, nc14, nc15, nc16, nc17, nc18, nc19, nc20, nc21, nc22, nc23, nc35, nc47, nc59, nc60, nc61, nc73, nc74, nc214, nc215, nc1115, nc2230, nc3345, if_true, if_false, Int.reduceToNat, hm.k, hm.r1, hm.r2, hm.r3, hm.r4, hm.r15, hm.r16, hm.r19, hm.r23, hm.r24, hm.r25, hm.r26, hm.r29, hm.r30, hm.r31, hm.r33, hm.r34, hm.r35, hm.k73, hm.k74, hm.k75, hm.k76, hm.k77, hm.k78, hm.k79, hm.k80, hm.k81, hm.k82, hm.k83, hm.k84, hm.k85, hm.k86, hm.k87, hm.k88, hm.k89, hm.n73, hm.n74, hm.n75, hm.n76, hm.n77, hm.n78, hm.n79, hm.n80, hm.n81, hm.n82, hm.n83, hm.n84, hm.n85, hm.n86, hm.n87, hm.n88, hm.n89, e8]
          exact e3
        · rw [v3 z hz]
          simp only [hwG]
          rw [hs]
          by_cases c1 : (z : Int) < g
          · rw [if_pos (by omega), if_pos c1, up_ne (by omega)]
          · rw [if_neg c1]
            by_cases c2 : g = (z : Int)
            · rw [if_pos (show (z : Int) < g + 1 by omega), if_pos c2, ← c2, up_same]
            · rw [if_neg (show ¬ (z : Int) < g + 1 by omega), if_neg c2, if_neg cq]
      · refine ⟨pI h1 80 g.toNat s, ?_, fun z hz => ?_, f0⟩
        · refine st2.trans ?_
          rw [Mod_findsRight_8]
          have hm := hm2
          simp (disch := omega) only [Mod_findsRight_181, wr_id, ix_id, okx, if_pos, if_neg, Int.toNat_of_nonneg, bak_v, bak_n, wr_b01, wr_bt, b01_or, b01_0, b01_1, lc_lt0, lc_gt0, lc_eq0, wl_wr, wr_wr, wl_id, true_and, and_true, true_or, or_true, not_true_eq_false, not_false_eq_true, nc0, nc1, nc2, nc3, nc4, nc5, nc6, nc7, nc8, nc9, nc10, nc11, nc12, nc13, nc14, nc15, nc16, nc17, nc18, nc19, nc20, nc21, nc22, nc23, nc35, nc47, nc59, nc60, nc61, nc73, nc74, nc214, nc215, nc1115, nc2230, nc3345, if_true, if_false, Int.reduceToNat, hm.k, hm.r1, hm.r2, hm.r3, hm.r4, hm.r15, hm.r16, hm.r19, hm.r23, hm.r24, hm.r25, hm.r26, hm.r29, hm.r30, hm.r31, hm.r33, hm.r34, hm.r35, hm.k73, hm.k74, hm.k75, hm.k76, hm.k77, hm.k78, hm.k79, hm.k80, hm.k81, hm.k82, hm.k83, hm.k84, hm.k85, hm.k86, hm.k87, hm.k88, hm.k89, hm.n73, hm.n74, hm.n75, hm.n76, hm.n77, hm.n78, hm.n79, hm.n80, hm.n81, hm.n82, hm.n83, hm.n84, hm.n85, hm.n86, hm.n87, hm.n88, hm.n89, e8]
        · rw [vf2 z (by omega)]
          simp only [hwG]
          rw [hs]
          by_cases c1 : (z : Int) < g
          · rw [if_pos c1, up_ne (by omega)]
          · rw [if_neg c1]
            by_cases c2 : g = (z : Int)
            · rw [if_pos c2, ← c2, up_same]
            · rw [if_neg c2, if_neg cq, up_ne (by omega), vn z (by omega) (by omega)]
              refine (hwG_none (PmR S) (S 2) z (by omega) m (g + 1) (fun g' s' _ _ _ _ => ?_)).symm
              have a1 := AR_rng S g' s'
              have a2 := kbR_rng S g' s'
              simp only [PmR, decide_eq_false_iff_not]
              omega
/-- the ring of hook z in mended -/
def menR (S : Int → Int) (z : Int) : Int := hwG (PmR S) (S 2) z (S 1).toNat 0 (-1) (-1) 0
theorem m_findsRight {d : Nat} {h : Hp} {S nb : Int → Int} (n64 : N64 nb) (gd : Gd S) (lo : LawOk S) (p : PT h S nb) (rt : ∀ g s, -1 ≤ g → g < S 1 → -1 ≤ s → s < S 2 → (g = -1 ↔ s = -1) → rtV h S g s) : ∃ h', cal (d+3) m_Mod_findsRight [.inr (.inr (72))] (h) = some (.inl 0, h') ∧ (∀ z : Nat, (z : Int) < S 1 → hI h' 80 z = menR S z) ∧ Fr p80 h h' := by
  have ga := gd.a
  have gb := gd.b
  obtain ⟨h1, e1, v1, f1⟩ := m_foundNone (d := d + 1) p.1.1.1
  have p1 := p.fr f1 (fun a k c => by omega)
  have rt1 : ∀ g s, -1 ≤ g → g < S 1 → -1 ≤ s → s < S 2 → (g = -1 ↔ s = -1) → rtV h1 S g s := fun g s a b c d e => by unfold rtV; rw [f1.I (by omega)]; exact rt g s a b c d e
  have e8 := rt1 (-1) (-1) (by omega) (by omega) (by omega) (by omega) (by omega)
  unfold rtV at e8
  have ag := AR_rng S (-1) (-1)
  have hk := p.1.1.1.k
  have hm1 := p1.1.1.1
  have fm : Fr p80 h h1 := f1.mo (fun a k q => Or.inr q)
  have st : EX (d+2) m_Mod_findsRight 0 [(0, .inr (.inr (72)))] [] (h) = EX (d+2) m_Mod_findsRight 8 [(0, .inr (.inr (72))), (1, .inl (-1)), (2, .inl (-1))] [] (h1) := by
    simp (disch := omega) only [Mod_findsRight_0, Mod_findsRight_4, wr_id, ix_id, okx, if_pos, if_neg, Int.toNat_of_nonneg, bak_v, bak_n, wr_b01, wr_bt, b01_or, b01_0, b01_1, lc_lt0, lc_gt0, lc_eq0, wl_wr, wr_wr, wl_id, true_and, and_true, true_or, or_true, not_true_eq_false, not_false_eq_true, nc0, nc1, nc2, nc3, nc4, nc5, nc6, nc7, nc8, nc9, nc10, nc11, nc12, nc13, nc14, nc15, nc16, nc17, nc18, nc19, nc20, nc21, nc22, nc23, nc35, nc47, nc59, nc60, nc61, nc73, nc74, nc214, nc215, nc1115, nc2230, nc3345, if_true, if_false, Int.reduceToNat, hk, e1]
  by_cases ca : 0 < AR S (-1) (-1)
  · obtain ⟨h3, e3, v3, f3⟩ := m_fR_2 (d := d) n64 gd lo (S 1).toNat 0 (-1) (-1) 0 (fun _ => -1) h1 (by omega) (by omega) (by omega) (by omega) (by
      obtain ⟨g', s', a1, a2, a3, a4, a5⟩ := PmR_ex gd (x := -1) (r := -1) (by omega) ca 0
      exact ⟨g', s', by omega, a2, a3, a4, a5⟩) p1 rt1 v1 (fun _ _ _ => rfl)
    refine ⟨h3, ?_, fun z hz => ?_, fm.tr f3⟩
    · refine st.trans ?_
      rw [Mod_findsRight_8]
      have hm := hm1
      simp (disch := omega) only [Mod_findsRight_26, wr_id, ix_id, okx, if_pos, if_neg, Int.toNat_of_nonneg, bak_v, bak_n, wr_b01, wr_bt, b01_or, b01_0, b01_1, lc_lt0, lc_gt0, lc_eq0, wl_wr, wr_wr, wl_id, true_and, and_true, true_or, or_true, not_true_eq_false, not_false_eq_true, nc0, nc1, nc2, nc3, nc4, nc5, nc6, nc7, nc8, nc9, nc10, nc11, nc12, nc13, nc14, nc15, nc16, nc17, nc18, nc19, nc20, nc21, nc22, nc23, nc35, nc47, nc59, nc60, nc61, nc73, nc74, nc214, nc215, nc1115, nc2230, nc3345, if_true, if_false, Int.reduceToNat, hm.k, hm.r1, hm.r2, hm.r3, hm.r4, hm.r15, hm.r16, hm.r19, hm.r23, hm.r24, hm.r25, hm.r26, hm.r29, hm.r30, hm.r31, hm.r33, hm.r34, hm.r35, hm.k73, hm.k74, hm.k75, hm.k76, hm.k77, hm.k78, hm.k79, hm.k80, hm.k81, hm.k82, hm.k83, hm.k84, hm.k85, hm.k86, hm.k87, hm.k88, hm.k89, hm.n73, hm.n74, hm.n75, hm.n76, hm.n77, hm.n78, hm.n79, hm.n80, hm.n81, hm.n82, hm.n83, hm.n84, hm.n85, hm.n86, hm.n87, hm.n88, hm.n89, e8]
      rw [show (-1 : Int) + 1 = 0 from rfl]
      exact e3
    · rw [v3 z hz, if_neg (by omega)]
      rfl
  · refine ⟨h1, ?_, fun z hz => ?_, fm⟩
    · refine st.trans ?_
      rw [Mod_findsRight_8]
      have hm := hm1
      simp (disch := omega) only [Mod_findsRight_181, wr_id, ix_id, okx, if_pos, if_neg, Int.toNat_of_nonneg, bak_v, bak_n, wr_b01, wr_bt, b01_or, b01_0, b01_1, lc_lt0, lc_gt0, lc_eq0, wl_wr, wr_wr, wl_id, true_and, and_true, true_or, or_true, not_true_eq_false, not_false_eq_true, nc0, nc1, nc2, nc3, nc4, nc5, nc6, nc7, nc8, nc9, nc10, nc11, nc12, nc13, nc14, nc15, nc16, nc17, nc18, nc19, nc20, nc21, nc22, nc23, nc35, nc47, nc59, nc60, nc61, nc73, nc74, nc214, nc215, nc1115, nc2230, nc3345, if_true, if_false, Int.reduceToNat, hm.k, hm.r1, hm.r2, hm.r3, hm.r4, hm.r15, hm.r16, hm.r19, hm.r23, hm.r24, hm.r25, hm.r26, hm.r29, hm.r30, hm.r31, hm.r33, hm.r34, hm.r35, hm.k73, hm.k74, hm.k75, hm.k76, hm.k77, hm.k78, hm.k79, hm.k80, hm.k81, hm.k82, hm.k83, hm.k84, hm.k85, hm.k86, hm.k87, hm.k88, hm.k89, hm.n73, hm.n74, hm.n75, hm.n76, hm.n77, hm.n78, hm.n79, hm.n80, hm.n81, hm.n82, hm.n83, hm.n84, hm.n85, hm.n86, hm.n87, hm.n88, hm.n89, e8]
    · rw [v1 z (by omega)]
      refine (hwG_none (PmR S) (S 2) z (by omega) _ 0 (fun g' s' _ _ _ _ => ?_)).symm
      have a1 := AR_rng S g' s'
      have a2 := kbR_rng S g' s'
      simp only [PmR, decide_eq_false_iff_not]
      omega
theorem m_asksHook {d : Nat} {h : Hp} {S : Int → Int} (ms : MS h S) (gd : Gd S) {u : Int} (ru : -2147483648 ≤ u ∧ u ≤ 2147483647) : cal (d+2) m_Mod_asksHook [.inr (.inr (72)), .inl (u), .inl (1)] (h) = some (.inl (b01 ((0 ≤ u ∧ u ≤ 1) ∨ (10 ≤ u ∧ u < 10 + S 1))), h) := by
  have hm := ms.1
  have ga := gd.a
  show EX (d+1) m_Mod_asksHook 0 [(0, .inr (.inr (72))), (1, .inl (u)), (2, .inl (1))] [] (h) = _
  by_cases c : 0 ≤ u ∧ u ≤ 1
  · simp (disch := omega) only [Mod_asksHook_0, Mod_asksHook_8, Mod_asksHook_11, Mod_asksHook_29, Mod_asksHook_32, Mod_asksHook_36, Mod_asksHook_37, wr_id, ix_id, okx, if_pos, if_neg, Int.toNat_of_nonneg, bak_v, bak_n, wr_b01, wr_bt, b01_or, b01_0, b01_1, lc_lt0, lc_gt0, lc_eq0, wl_wr, wr_wr, wl_id, true_and, and_true, true_or, or_true, not_true_eq_false, not_false_eq_true, nc0, nc1, nc2, nc3, nc4, nc5, nc6, nc7, nc8, nc9, nc10, nc11, nc12, nc13, nc14, nc15, nc16, nc17, nc18, nc19, nc20, nc21, nc22, nc23, nc35, nc47, nc59, nc60, nc61, nc73, nc74, nc214, nc215, nc1115, nc2230, nc3345, if_true, if_false, Int.reduceToNat, hm.k, hm.r1, hm.r2, hm.r3, hm.r4, hm.r15, hm.r16, hm.r19, hm.r23, hm.r24, hm.r25, hm.r26, hm.r29, hm.r30, hm.r31, hm.r33, hm.r34, hm.r35, hm.k73, hm.k74, hm.k75, hm.k76, hm.k77, hm.k78, hm.k79, hm.k80, hm.k81, hm.k82, hm.k83, hm.k84, hm.k85, hm.k86, hm.k87, hm.k88, hm.k89, hm.n73, hm.n74, hm.n75, hm.n76, hm.n77, hm.n78, hm.n79, hm.n80, hm.n81, hm.n82, hm.n83, hm.n84, hm.n85, hm.n86, hm.n87, hm.n88, hm.n89, ms.2, m_within, b01]
  · by_cases c2 : 10 ≤ u ∧ u < 10 + S 1
    · simp (disch := omega) only [Mod_asksHook_0, Mod_asksHook_8, Mod_asksHook_11, Mod_asksHook_29, Mod_asksHook_32, Mod_asksHook_36, Mod_asksHook_37, wr_id, ix_id, okx, if_pos, if_neg, Int.toNat_of_nonneg, bak_v, bak_n, wr_b01, wr_bt, b01_or, b01_0, b01_1, lc_lt0, lc_gt0, lc_eq0, wl_wr, wr_wr, wl_id, true_and, and_true, true_or, or_true, not_true_eq_false, not_false_eq_true, nc0, nc1, nc2, nc3, nc4, nc5, nc6, nc7, nc8, nc9, nc10, nc11, nc12, nc13, nc14, nc15, nc16, nc17, nc18, nc19, nc20, nc21, nc22, nc23, nc35, nc47, nc59, nc60, nc61, nc73, nc74, nc214, nc215, nc1115, nc2230, nc3345, if_true, if_false, Int.reduceToNat, hm.k, hm.r1, hm.r2, hm.r3, hm.r4, hm.r15, hm.r16, hm.r19, hm.r23, hm.r24, hm.r25, hm.r26, hm.r29, hm.r30, hm.r31, hm.r33, hm.r34, hm.r35, hm.k73, hm.k74, hm.k75, hm.k76, hm.k77, hm.k78, hm.k79, hm.k80, hm.k81, hm.k82, hm.k83, hm.k84, hm.k85, hm.k86, hm.k87, hm.k88, hm.k89, hm.n73, hm.n74, hm.n75, hm.n76, hm.n77, hm.n78, hm.n79, hm.n80, hm.n81, hm.n82, hm.n83, hm.n84, hm.n85, hm.n86, hm.n87, hm.n88, hm.n89, ms.2, m_within, b01]
    · simp (disch := omega) only [Mod_asksHook_0, Mod_asksHook_8, Mod_asksHook_11, Mod_asksHook_29, Mod_asksHook_32, Mod_asksHook_36, Mod_asksHook_37, wr_id, ix_id, okx, if_pos, if_neg, Int.toNat_of_nonneg, bak_v, bak_n, wr_b01, wr_bt, b01_or, b01_0, b01_1, lc_lt0, lc_gt0, lc_eq0, wl_wr, wr_wr, wl_id, true_and, and_true, true_or, or_true, not_true_eq_false, not_false_eq_true, nc0, nc1, nc2, nc3, nc4, nc5, nc6, nc7, nc8, nc9, nc10, nc11, nc12, nc13, nc14, nc15, nc16, nc17, nc18, nc19, nc20, nc21, nc22, nc23, nc35, nc47, nc59, nc60, nc61, nc73, nc74, nc214, nc215, nc1115, nc2230, nc3345, if_true, if_false, Int.reduceToNat, hm.k, hm.r1, hm.r2, hm.r3, hm.r4, hm.r15, hm.r16, hm.r19, hm.r23, hm.r24, hm.r25, hm.r26, hm.r29, hm.r30, hm.r31, hm.r33, hm.r34, hm.r35, hm.k73, hm.k74, hm.k75, hm.k76, hm.k77, hm.k78, hm.k79, hm.k80, hm.k81, hm.k82, hm.k83, hm.k84, hm.k85, hm.k86, hm.k87, hm.k88, hm.k89, hm.n73, hm.n74, hm.n75, hm.n76, hm.n77, hm.n78, hm.n79, hm.n80, hm.n81, hm.n82, hm.n83, hm.n84, hm.n85, hm.n86, hm.n87, hm.n88, hm.n89, ms.2, m_within, b01]
def ansMend (S : Int → Int) (u : Int) : Int := if ¬ ((0 ≤ u ∧ u ≤ 1) ∨ (10 ≤ u ∧ u < 10 + S 1)) then -2 else if u = 0 then AR S (-1) (-1) / 100 else if u = 1 then jnM S - AR S (-1) (-1) % 100 else menR S (u - 10)
theorem mm_mended {d : Nat} {h : Hp} {S G T rs rm nb : Int → Int} {n fk fp : Int} (mb : MB h S G T rs rm nb n fk fp) (gd : Gd S) (lo : LawOk S) (tg : TG rs rm nb) {u : Int} (ru : -2147483648 ≤ u ∧ u ≤ 2147483647) : ∃ h', cal (d+6) m_Mod_mended [.inr (.inr (72)), .inl (u)] (h) = some (.inl (ansMend S u), h') ∧ MB h' S G T rs rm nb n fk fp ∧ Fr wQ h h' := by
  have ms0 : MS (pI h 72 0 0) S := mb.1.o (by omega)
  have f0 : Fr wQ h (pI h 72 0 0) := f72 (by omega)
  have hk := mb.1.1.k
  have hm := ms0.1
  have mb0 := mb.fr f0 ms0
  have ga := gd.a
  have gb := gd.b
  have ea := m_asksHook (d := d + 3) ms0 gd ru
  unfold ansMend
  by_cases c : (0 ≤ u ∧ u ≤ 1) ∨ (10 ≤ u ∧ u < 10 + S 1)
  · rw [if_neg (fun q => q c)]
    obtain ⟨h1, e1, p1, rt1, f1⟩ := m_laysRight (d := d) ms0 mb0.2.2.2.2.2.2 tg.2 gd lo
    have ff1 := f0.tr f1
    have ar := AR_rng S (-1) (-1)
    have hm1 := p1.1.1.1
    by_cases c0 : u = 0
    · subst c0
      refine ⟨h1, ?_, mb.fr ff1 p1.1.1, ff1⟩
      show EX (d+5) m_Mod_mended 0 [(0, .inr (.inr (72))), (1, .inl (0))] [] (h) = _
      simp (disch := omega) only [Mod_mended_0, Mod_mended_5, Mod_mended_11, Mod_mended_17, Mod_mended_21, Mod_mended_26, wr_id, ix_id, okx, if_pos, if_neg, Int.toNat_of_nonneg, bak_v, bak_n, wr_b01, wr_bt, b01_or, b01_0, b01_1, lc_lt0, lc_gt0, lc_eq0, wl_wr, wr_wr, wl_id, true_and, and_true, true_or, or_true, not_true_eq_false, not_false_eq_true, nc0, nc1, nc2, nc3, nc4, nc5, nc6, nc7, nc8, nc9, nc10, nc11, nc12, nc13, nc14, nc15, nc16, nc17, nc18, nc19, nc20, nc21, nc22, nc23, nc35, nc47, nc59, nc60, nc61, nc73, nc74, nc214, nc215, nc1115, nc2230, nc3345, if_true, if_false, Int.reduceToNat, hk, hm.k, ea, e1, bDiv_e]
    · by_cases c1 : u = 1
      · subst c1
        refine ⟨h1, ?_, mb.fr ff1 p1.1.1, ff1⟩
        show EX (d+5) m_Mod_mended 0 [(0, .inr (.inr (72))), (1, .inl (1))] [] (h) = _
        simp (disch := omega) only [Mod_mended_0, Mod_mended_5, Mod_mended_11, Mod_mended_17, Mod_mended_21, Mod_mended_31, Mod_mended_36, Mod_mended_40, wr_id, ix_id, okx, if_pos, if_neg, Int.toNat_of_nonneg, bak_v, bak_n, wr_b01, wr_bt, b01_or, b01_0, b01_1, lc_lt0, lc_gt0, lc_eq0, wl_wr, wr_wr, wl_id, true_and, and_true, true_or, or_true, not_true_eq_false, not_false_eq_true, nc0, nc1, nc2, nc3, nc4, nc5, nc6, nc7, nc8, nc9, nc10, nc11, nc12, nc13, nc14, nc15, nc16, nc17, nc18, nc19, nc20, nc21, nc22, nc23, nc35, nc47, nc59, nc60, nc61, nc73, nc74, nc214, nc215, nc1115, nc2230, nc3345, if_true, if_false, Int.reduceToNat, hk, hm.k, ea, e1, hm1.k, m_joinedMany p1.1.1 gd, bRem_e]
      · obtain ⟨h2, e2, v2, f2⟩ := m_findsRight (d := d + 2) tg.2 gd lo p1 rt1
        have ff2 := ff1.tr (f2.mo (fun a k q => by unfold p80 at q; unfold wQ; omega))
        have p2 := p1.fr2 f2 (fun a k c => by unfold p80 at c; omega)
        have hm2 := p2.1.1.1
        have ez := v2 (u - 10).toNat (by omega)
        rw [Int.toNat_of_nonneg (by omega)] at ez
        refine ⟨h2, ?_, mb.fr ff2 p2.1.1, ff2⟩
        show EX (d+5) m_Mod_mended 0 [(0, .inr (.inr (72))), (1, .inl (u))] [] (h) = _
        simp (disch := omega) only [Mod_mended_0, Mod_mended_5, Mod_mended_11, Mod_mended_17, Mod_mended_21, Mod_mended_31, Mod_mended_46, wr_id, ix_id, okx, if_pos, if_neg, Int.toNat_of_nonneg, bak_v, bak_n, wr_b01, wr_bt, b01_or, b01_0, b01_1, lc_lt0, lc_gt0, lc_eq0, wl_wr, wr_wr, wl_id, true_and, and_true, true_or, or_true, not_true_eq_false, not_false_eq_true, nc0, nc1, nc2, nc3, nc4, nc5, nc6, nc7, nc8, nc9, nc10, nc11, nc12, nc13, nc14, nc15, nc16, nc17, nc18, nc19, nc20, nc21, nc22, nc23, nc35, nc47, nc59, nc60, nc61, nc73, nc74, nc214, nc215, nc1115, nc2230, nc3345, if_true, if_false, Int.reduceToNat, hk, hm.k, ea, e1, hm1.k, e2]
        have hm := hm2
        simp (disch := omega) only [Mod_mended_50, wr_id, ix_id, okx, if_pos, if_neg, Int.toNat_of_nonneg, bak_v, bak_n, wr_b01, wr_bt, b01_or, b01_0, b01_1, lc_lt0, lc_gt0, lc_eq0, wl_wr, wr_wr, wl_id, true_and, and_true, true_or, or_true, not_true_eq_false, not_false_eq_true, nc0, nc1, nc2, nc3, nc4, nc5, nc6, nc7, nc8, nc9, nc10, nc11, nc12, nc13, nc14, nc15, nc16, nc17, nc18, nc19, nc20, nc21, nc22, nc23, nc35, nc47, nc59, nc60, nc61, nc73, nc74, nc214, nc215, nc1115, nc2230, nc3345, if_true, if_false, Int.reduceToNat, hm.k, hm.r1, hm.r2, hm.r3, hm.r4, hm.r15, hm.r16, hm.r19, hm.r23, hm.r24, hm.r25, hm.r26, hm.r29, hm.r30, hm.r31, hm.r33, hm.r34, hm.r35, hm.k73, hm.k74, hm.k75, hm.k76, hm.k77, hm.k78, hm.k79, hm.k80, hm.k81, hm.k82, hm.k83, hm.k84, hm.k85, hm.k86, hm.k87, hm.k88, hm.k89, hm.n73, hm.n74, hm.n75, hm.n76, hm.n77, hm.n78, hm.n79, hm.n80, hm.n81, hm.n82, hm.n83, hm.n84, hm.n85, hm.n86, hm.n87, hm.n88, hm.n89, ez]
  · rw [if_pos c]
    refine ⟨pI h 72 0 0, ?_, mb0, f0⟩
    show EX (d+5) m_Mod_mended 0 [(0, .inr (.inr (72))), (1, .inl (u))] [] (h) = _
    simp (disch := omega) only [Mod_mended_0, Mod_mended_5, Mod_mended_11, Mod_mended_14, wr_id, ix_id, okx, if_pos, if_neg, Int.toNat_of_nonneg, bak_v, bak_n, wr_b01, wr_bt, b01_or, b01_0, b01_1, lc_lt0, lc_gt0, lc_eq0, wl_wr, wr_wr, wl_id, true_and, and_true, true_or, or_true, not_true_eq_false, not_false_eq_true, nc0, nc1, nc2, nc3, nc4, nc5, nc6, nc7, nc8, nc9, nc10, nc11, nc12, nc13, nc14, nc15, nc16, nc17, nc18, nc19, nc20, nc21, nc22, nc23, nc35, nc47, nc59, nc60, nc61, nc73, nc74, nc214, nc215, nc1115, nc2230, nc3345, if_true, if_false, Int.reduceToNat, hk, hm.k, ea]
