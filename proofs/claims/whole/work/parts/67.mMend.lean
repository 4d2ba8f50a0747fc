/-! mended: pure; the model's laysRight -/
def foN (F : Int → Int → Int) : Nat → Int → Int → Int
  | 0, _, m => m
  | k + 1, i, m => foN F k (i + 1) (F i m)
def fo (F : Int → Int → Int) (i N m : Int) : Int := foN F (N - i).toNat i m
theorem fo_stop {F : Int → Int → Int} {i N m : Int} (h : N ≤ i) : fo F i N m = m := by
  unfold fo
  rw [show (N - i).toNat = 0 by omega]
  rfl
theorem fo_step {F : Int → Int → Int} {i N m : Int} (h : i < N) : fo F i N m = fo F (i + 1) N (F i m) := by
  unfold fo
  rw [show (N - i).toNat = (N - (i + 1)).toNat + 1 by omega]
  rfl
theorem fo_congr {F G : Int → Int → Int} {N : Int} : ∀ i, (∀ j m, i ≤ j → j < N → F j m = G j m) → ∀ m, fo F i N m = fo G i N m := by
  refine up_ind (hi := N) ?_ ?_
  · intro i hi _ m
    rw [fo_stop hi, fo_stop hi]
  · intro i hi ih h m
    rw [fo_step hi, fo_step hi, h i m (by omega) hi, ih (fun j m h1 h2 => h j m (by omega) h2)]
theorem mx_congr {f g : Int → Int} {N : Int} : ∀ i, (∀ j, i ≤ j → j < N → f j = g j) → ∀ m, mx f i N m = mx g i N m := by
  refine up_ind (hi := N) ?_ ?_
  · intro i hi _ m
    rw [mx_stop hi, mx_stop hi]
  · intro i hi ih h m
    rw [mx_step hi, mx_step hi, h i (by omega) hi, ih (fun j h1 h2 => h j (by omega) h2)]
theorem mx_rng {f : Int → Int} {N B : Int} : ∀ i, (∀ j, i ≤ j → j < N → f j ≤ B) → ∀ m, m ≤ B → m ≤ mx f i N m ∧ mx f i N m ≤ B := by
  refine up_ind (hi := N) ?_ ?_
  · intro i hi _ m hm
    rw [mx_stop hi]; omega
  · intro i hi ih h m hm
    rw [mx_step hi]
    have h1 := h i (by omega) hi
    by_cases c : m < f i
    · rw [if_pos c]
      have := ih (fun j h1 h2 => h j (by omega) h2) (f i) h1
      omega
    · rw [if_neg c]
      exact ih (fun j h1 h2 => h j (by omega) h2) m hm
theorem fo_rng {F : Int → Int → Int} {N B : Int} : ∀ i, (∀ j m, i ≤ j → j < N → m ≤ B → m ≤ F j m ∧ F j m ≤ B) → ∀ m, m ≤ B → m ≤ fo F i N m ∧ fo F i N m ≤ B := by
  refine up_ind (hi := N) ?_ ?_
  · intro i hi _ m hm
    rw [fo_stop hi]; omega
  · intro i hi ih h m hm
    rw [fo_step hi]
    have h1 := h i m (by omega) hi hm
    have := ih (fun j m h1 h2 => h j m (by omega) h2) (F i m) h1.2
    omega
def okR (S : Int → Int) (x r g s : Int) : Bool := decide (Fpl S x r g s = true ∧ lawV S g s = 1)
def kbR (S : Int → Int) (g s : Int) : Int := 100 + b01 (S (61 + g) = s)
theorem kbR_rng (S : Int → Int) (g s : Int) : 100 ≤ kbR S g s ∧ kbR S g s ≤ 101 := by
  unfold kbR b01
  split <;> omega
def bst (S : Int → Int) : Nat → Int → Int → Int
  | 0, _, _ => 0
  | n + 1, x, r => fo (fun g m => mx (fun s => if okR S x r g s = true then kbR S g s + bst S n g s else 0) (r + 1) (S 2) m) (x + 1) (S 1) 0
theorem bst_rng (S : Int → Int) : ∀ (n : Nat) (x r : Int), 0 ≤ bst S n x r ∧ bst S n x r ≤ 101 * n := by
  intro n
  induction n with
  | zero => intro x r; simp [bst]
  | succ n ih =>
    intro x r
    refine fo_rng (B := 101 * ((n + 1 : Nat) : Int)) _ (fun g m _ _ hm => mx_rng _ (fun s _ _ => ?_) m hm) 0 (by omega)
    have h1 := ih g s
    have h2 := kbR_rng S g s
    split <;> omega
theorem bst_st (S : Int → Int) : ∀ (n : Nat) (x r : Int), S 1 - 1 - x ≤ n → bst S (n + 1) x r = bst S n x r := by
  intro n
  induction n with
  | zero =>
    intro x r h
    show fo _ (x + 1) (S 1) 0 = 0
    rw [fo_stop (by omega)]
  | succ n ih =>
    intro x r h
    refine fo_congr _ (fun g m g1 g2 => mx_congr _ (fun s _ _ => ?_) m) 0
    rw [ih g s (by omega)]
def AR (S : Int → Int) (x r : Int) : Int := bst S 12 x r
theorem AR_rng (S : Int → Int) (x r : Int) : 0 ≤ AR S x r ∧ AR S x r ≤ 1212 := bst_rng S 12 x r
/-- the best that comes of hook g, from m on -/
def stR (S : Int → Int) (x r g m : Int) : Int := mx (fun s => if okR S x r g s = true then kbR S g s + AR S g s else 0) (r + 1) (S 2) m
theorem AR_eq {S : Int → Int} (gd : Gd S) {x r : Int} (hx : -1 ≤ x) : AR S x r = fo (stR S x r) (x + 1) (S 1) 0 := by
  have ga := gd.a
  refine fo_congr _ (fun g m g1 g2 => mx_congr _ (fun s _ _ => ?_) m) 0
  have : AR S g s = bst S 11 g s := bst_st S 11 g s (by omega)
  rw [this]
theorem m_keptBy {d : Nat} {h : Hp} {S : Int → Int} (ms : MS h S) (gd : Gd S) {g s : Int} (hg : 0 ≤ g ∧ g < 12) (hs : 0 ≤ s ∧ s < 12) : cal (d+1) m_Mod_keptBy [.inr (.inr (72)), .inl (g), .inl (s)] (h) = some (.inl (kbR S g s), h) := by
  have hm := ms.1
  have gr := gd.rg hg.1 hg.2
  have gb := gd.b
  show EX (d) m_Mod_keptBy 0 [(0, .inr (.inr (72))), (1, .inl (g)), (2, .inl (s))] [] (h) = _
  unfold kbR b01
  simp (disch := omega) only [Mod_keptBy_0, Mod_keptBy_15, Mod_keptBy_19, Mod_keptBy_20, wr_id, ix_id, okx, if_pos, if_neg, Int.toNat_of_nonneg, bak_v, bak_n, wr_b01, wr_bt, b01_or, b01_0, b01_1, lc_lt0, lc_gt0, lc_eq0, wl_wr, wr_wr, wl_id, true_and, and_true, true_or, or_true, not_true_eq_false, not_false_eq_true, nc0, nc1, nc2, nc3, nc4, nc5, nc6, nc7, nc8, nc9, nc10, nc11, nc12, nc13, nc14, nc15, nc16, nc17, nc18, nc19, nc20, nc21, nc22, nc23, nc35, nc47, nc59, nc60, nc61, nc73, nc74, nc214, nc215, nc1115, nc2230, nc3345, if_true, if_false, Int.reduceToNat, hm.k, hm.r1, hm.r2, hm.r3, hm.r4, hm.r15, hm.r16, hm.r19, hm.r23, hm.r24, hm.r25, hm.r26, hm.r29, hm.r30, hm.r31, hm.r33, hm.r34, hm.r35, hm.k73, hm.k74, hm.k75, hm.k76, hm.k77, hm.k78, hm.k79, hm.k80, hm.k81, hm.k82, hm.k83, hm.k84, hm.k85, hm.k86, hm.k87, hm.k88, hm.k89, hm.n73, hm.n74, hm.n75, hm.n76, hm.n77, hm.n78, hm.n79, hm.n80, hm.n81, hm.n82, hm.n83, hm.n84, hm.n85, hm.n86, hm.n87, hm.n88, hm.n89, ms.2]
  split <;> rfl
def rtV (h : Hp) (S : Int → Int) (x r : Int) : Prop := hI h 81 (13 * (x + 1) + r + 1).toNat = AR S x r
def p81 (a _k : Nat) : Prop := a = 77 ∨ a = 81
theorem PT.fr2 {h h' : Hp} {S nb : Int → Int} (p : PT h S nb) {q : Nat → Nat → Prop} (f : Fr q h h') (hq : ∀ a k, q a k → a = 77 ∨ (80 ≤ a ∧ a ≤ 86)) : PT h' S nb := ⟨p.1.fr f (fun a k c => by have := hq a k c; omega), fun z z1 z2 s s1 s2 s3 m m0 m1 => by rw [f.L (fun c => by have := hq _ _ c; omega)]; exact p.2 z z1 z2 s s1 s2 s3 m m0 m1⟩
theorem m_lR_1 {d : Nat} {S nb : Int → Int} (n64 : N64 nb) (gd : Gd S) (lo : LawOk S) {x r g : Int} (hx : -1 ≤ x ∧ x < g ∧ g < S 1) (hr : -1 ≤ r ∧ r < S 2) (hxr : x = -1 ↔ r = -1) : ∀ s, r + 1 ≤ s → s ≤ 12 → ∀ h m, PT h S nb → (∀ s, 0 ≤ s → s < S 2 → rtV h S g s) → (0 ≤ m ∧ m ≤ 1400) → ∃ h', EX (d+2) m_Mod_laysRight 81 [(0, .inr (.inr (72))), (1, .inl (x)), (2, .inl (r)), (3, .inl (m)), (4, .inl (g)), (5, .inl (s))] [] (h) = EX (d+2) m_Mod_laysRight 166 [(0, .inr (.inr (72))), (1, .inl (x)), (2, .inl (r)), (3, .inl (mx (fun s => if okR S x r g s = true then kbR S g s + AR S g s else 0) s (S 2) m)), (4, .inl (g))] [] (h') ∧ Fr (fun a _ => a = 77) h h' := by
  have ga := gd.a
  have gb := gd.b
  refine up_ind (hi := S 2) ?_ ?_
  · intro s hs h0 h1 h m p rt hm0
    have ms := p.1.1
    have hm := ms.1
    refine ⟨h, ?_, Fr.rf⟩
    rw [Mod_laysRight_81, mx_stop hs]
    simp (disch := omega) only [wr_id, ix_id, okx, if_pos, if_neg, Int.toNat_of_nonneg, bak_v, bak_n, wr_b01, wr_bt, b01_or, b01_0, b01_1, lc_lt0, lc_gt0, lc_eq0, wl_wr, wr_wr, wl_id, true_and, and_true, true_or, or_true, not_true_eq_false, not_false_eq_true, nc0, nc1, nc2, nc3, nc4, nc5, nc6, nc7, nc8, nc9, nc10, nc11, nc12, nc13, nc14, nc15, nc16, nc17, nc18, nc19, nc20, nc21, nc22, nc23, nc35, nc47, nc59, nc60, nc61, nc73, nc74, nc214, nc215, nc1115, nc2230, nc3345, if_true, if_false, Int.reduceToNat, hm.k, hm.r1, hm.r2, hm.r3, hm.r4, hm.r15, hm.r16, hm.r19, hm.r23, hm.r24, hm.r25, hm.r26, hm.r29, hm.r30, hm.r31, hm.r33, hm.r34, hm.r35, hm.k73, hm.k74, hm.k75, hm.k76, hm.k77, hm.k78, hm.k79, hm.k80, hm.k81, hm.k82, hm.k83, hm.k84, hm.k85, hm.k86, hm.k87, hm.k88, hm.k89, hm.n73, hm.n74, hm.n75, hm.n76, hm.n77, hm.n78, hm.n79, hm.n80, hm.n81, hm.n82, hm.n83, hm.n84, hm.n85, hm.n86, hm.n87, hm.n88, hm.n89, ms.2]
  · intro s hs ih h0 h1 h m p rt hm0
    have ms := p.1.1
    have hm := ms.1
    have ef := p.follows (d := d) n64 gd (x := x) (r := r) (y := g) (s := s) hx (by omega) hxr
    have e81 := rt s (by omega) hs
    unfold rtV at e81
    have ar := AR_rng S g s
    have kr := kbR_rng S g s
    rw [Mod_laysRight_81, mx_step hs]
    by_cases c : Fpl S x r g s = true
    · obtain ⟨h1', e1, f1, q⟩ := m_isRight (d := d) ms gd lo (x := g) (y := s) (by omega) (by omega)
      have p1 := p.fr2 f1 (fun a k c => by omega)
      have ms1 := p1.1.1
      have hm1 := ms1.1
      have rt1 : ∀ s, 0 ≤ s → s < S 2 → rtV h1' S g s := fun s s0 s1 => by unfold rtV; rw [f1.I (by omega)]; exact rt s s0 s1
      have e81' := rt1 s (by omega) hs
      unfold rtV at e81'
      by_cases cl : lawV S g s = 1
      · have co : okR S x r g s = true := by simp [okR, c, cl]
        rw [if_pos co]
        by_cases c2 : m < kbR S g s + AR S g s
        · obtain ⟨h2, e2, f2⟩ := ih (by omega) (by omega) h1' (kbR S g s + AR S g s) p1 rt1 (by omega)
          refine ⟨h2, ?_, f1.tr f2⟩
          rw [if_pos c2]
          simp (disch := omega) only [Mod_laysRight_92, Mod_laysRight_102, Mod_laysRight_105, wr_id, ix_id, okx, if_pos, if_neg, Int.toNat_of_nonneg, bak_v, bak_n, wr_b01, wr_bt, b01_or, b01_0, b01_1, lc_lt0, lc_gt0, lc_eq0, wl_wr, wr_wr, wl_id, true_and, and_true, true_or, or_true, not_true_eq_false, not_false_eq_true, nc0, nc1, nc2, nc3, nc4, nc5, nc6, nc7, nc8, nc9, nc10, nc11, nc12, nc13, nc14, nc15, nc16, nc17, nc18, nc19, nc20, nc21, nc22, nc23, nc35, nc47, nc59, nc60, nc61, nc73, nc74, nc214, nc215, nc1115, nc2230, nc3345, if_true, if_false, Int.reduceToNat, hm.k, hm.r1, hm.r2, hm.r3, hm.r4, hm.r15, hm.r16, hm.r19, hm.r23, hm.r24, hm.r25, hm.r26, hm.r29, hm.r30, hm.r31, hm.r33, hm.r34, hm.r35, hm.k73, hm.k74, hm.k75, hm.k76, hm.k77, hm.k78, hm.k79, hm.k80, hm.k81, hm.k82, hm.k83, hm.k84, hm.k85, hm.k86, hm.k87, hm.k88, hm.k89, hm.n73, hm.n74, hm.n75, hm.n76, hm.n77, hm.n78, hm.n79, hm.n80, hm.n81, hm.n82, hm.n83, hm.n84, hm.n85, hm.n86, hm.n87, hm.n88, hm.n89, ms.2, ef, c, e1]
          have hm := hm1
          simp (disch := omega) only [Mod_laysRight_113, Mod_laysRight_119, Mod_laysRight_127, Mod_laysRight_153, Mod_laysRight_159, Mod_laysRight_160, wr_id, ix_id, okx, if_pos, if_neg, Int.toNat_of_nonneg, bak_v, bak_n, wr_b01, wr_bt, b01_or, b01_0, b01_1, lc_lt0, lc_gt0, lc_eq0, wl_wr, wr_wr, wl_id, true_and, and_true, true_or, or_true, not_true_eq_false, not_false_eq_true, nc0, nc1, nc2, nc3, nc4, nc5, nc6, nc7, nc8, nc9, nc10, nc11, nc12, nc13, nc14, nc15, nc16, nc17, nc18, nc19, nc20, nc21, nc22, nc23, nc35, nc47, nc59, nc60, nc61, nc73, nc74, nc214, nc215, nc1115, nc2230, nc3345, if_true, if_false, Int.reduceToNat, cl, hm.k, hm.r1, hm.r2, hm.r3, hm.r4, hm.r15, hm.r16, hm.r19, hm.r23, hm.r24, hm.r25, hm.r26, hm.r29, hm.r30, hm.r31, hm.r33, hm.r34, hm.r35, hm.k73, hm.k74, hm.k75, hm.k76, hm.k77, hm.k78, hm.k79, hm.k80, hm.k81, hm.k82, hm.k83, hm.k84, hm.k85, hm.k86, hm.k87, hm.k88, hm.k89, hm.n73, hm.n74, hm.n75, hm.n76, hm.n77, hm.n78, hm.n79, hm.n80, hm.n81, hm.n82, hm.n83, hm.n84, hm.n85, hm.n86, hm.n87, hm.n88, hm.n89, m_keptBy ms1 gd, e81', e2]
        · obtain ⟨h2, e2, f2⟩ := ih (by omega) (by omega) h1' m p1 rt1 hm0
          refine ⟨h2, ?_, f1.tr f2⟩
          rw [if_neg c2]
          simp (disch := omega) only [Mod_laysRight_92, Mod_laysRight_102, Mod_laysRight_105, wr_id, ix_id, okx, if_pos, if_neg, Int.toNat_of_nonneg, bak_v, bak_n, wr_b01, wr_bt, b01_or, b01_0, b01_1, lc_lt0, lc_gt0, lc_eq0, wl_wr, wr_wr, wl_id, true_and, and_true, true_or, or_true, not_true_eq_false, not_false_eq_true, nc0, nc1, nc2, nc3, nc4, nc5, nc6, nc7, nc8, nc9, nc10, nc11, nc12, nc13, nc14, nc15, nc16, nc17, nc18, nc19, nc20, nc21, nc22, nc23, nc35, nc47, nc59, nc60, nc61, nc73, nc74, nc214, nc215, nc1115, nc2230, nc3345, if_true, if_false, Int.reduceToNat, hm.k, hm.r1, hm.r2, hm.r3, hm.r4, hm.r15, hm.r16, hm.r19, hm.r23, hm.r24, hm.r25, hm.r26, hm.r29, hm.r30, hm.r31, hm.r33, hm.r34, hm.r35, hm.k73, hm.k74, hm.k75, hm.k76, hm.k77, hm.k78, hm.k79, hm.k80, hm.k81, hm.k82, hm.k83, hm.k84, hm.k85, hm.k86, hm.k87, hm.k88, hm.k89, hm.n73, hm.n74, hm.n75, hm.n76, hm.n77, hm.n78, hm.n79, hm.n80, hm.n81, hm.n82, hm.n83, hm.n84, hm.n85, hm.n86, hm.n87, hm.n88, hm.n89, ms.2, ef, c, e1]
          have hm := hm1
          simp (disch := omega) only [Mod_laysRight_113, Mod_laysRight_119, Mod_laysRight_127, Mod_laysRight_158, Mod_laysRight_159, Mod_laysRight_160, wr_id, ix_id, okx, if_pos, if_neg, Int.toNat_of_nonneg, bak_v, bak_n, wr_b01, wr_bt, b01_or, b01_0, b01_1, lc_lt0, lc_gt0, lc_eq0, wl_wr, wr_wr, wl_id, true_and, and_true, true_or, or_true, not_true_eq_false, not_false_eq_true, nc0, nc1, nc2, nc3, nc4, nc5, nc6, nc7, nc8, nc9, nc10, nc11, nc12, nc13, nc14, nc15, nc16, nc17, nc18, nc19, nc20, nc21, nc22, nc23, nc35, nc47, nc59, nc60, nc61, nc73, nc74, nc214, nc215, nc1115, nc2230, nc3345, if_true, if_false, Int.reduceToNat, cl, hm.k, hm.r1, hm.r2, hm.r3, hm.r4, hm.r15, hm.r16, hm.r19, hm.r23, hm.r24, hm.r25, hm.r26, hm.r29, hm.r30, hm.r31, hm.r33, hm.r34, hm.r35, hm.k73, hm.k74, hm.k75, hm.k76, hm.k77, hm.k78, hm.k79, hm.k80, hm.k81, hm.k82, hm.k83, hm.k84, hm.k85, hm.k86, hm.k87, hm.k88, hm.k89, hm.n73, hm.n74, hm.n75, hm.n76, hm.n77, hm.n78, hm.n79, hm.n80, hm.n81, hm.n82, hm.n83, hm.n84, hm.n85, hm.n86, hm.n87, hm.n88, hm.n89, m_keptBy ms1 gd, e81', e2]
      · have cl0 : lawV S g s = 0 := by omega
        have co : ¬ okR S x r g s = true := by simp [okR, cl]
        rw [if_neg co, if_neg (show ¬ m < 0 by omega)]
        obtain ⟨h2, e2, f2⟩ := ih (by omega) (by omega) h1' m p1 rt1 hm0
        refine ⟨h2, ?_, f1.tr f2⟩
        simp (disch := omega) only [Mod_laysRight_92, Mod_laysRight_102, Mod_laysRight_105, wr_id, ix_id, okx, if_pos, if_neg, Int.toNat_of_nonneg, bak_v, bak_n, wr_b01, wr_bt, b01_or, b01_0, b01_1, lc_lt0, lc_gt0, lc_eq0, wl_wr, wr_wr, wl_id, true_and, and_true, true_or, or_true, not_true_eq_false, not_false_eq_true, nc0, nc1, nc2, nc3, nc4, nc5, nc6, nc7, nc8, nc9, nc10, nc11, nc12, nc13, nc14, nc15, nc16, nc17, nc18, nc19, nc20, nc21, nc22, nc23, nc35, nc47, nc59, nc60, nc61, nc73, nc74, nc214, nc215, nc1115, nc2230, nc3345, if_true, if_false, Int.reduceToNat, hm.k, hm.r1, hm.r2, hm.r3, hm.r4, hm.r15, hm.r16, hm.r19, hm.r23, hm.r24, hm.r25, hm.r26, hm.r29, hm.r30, hm.r31, hm.r33, hm.r34, hm.r35, hm.k73, hm.k74, hm.k75, hm.k76, hm.k77, hm.k78, hm.k79, hm.k80, hm.k81, hm.k82, hm.k83, hm.k84, hm.k85, hm.k86, hm.k87, hm.k88, hm.k89, hm.n73, hm.n74, hm.n75, hm.n76, hm.n77, hm.n78, hm.n79, hm.n80, hm.n81, hm.n82, hm.n83, hm.n84, hm.n85, hm.n86, hm.n87, hm.n88, hm.n89, ms.2, ef, c, e1]
        simp (disch := omega) only [Mod_laysRight_113, Mod_laysRight_116, Mod_laysRight_160, wr_id, ix_id, okx, if_pos, if_neg, Int.toNat_of_nonneg, bak_v, bak_n, wr_b01, wr_bt, b01_or, b01_0, b01_1, lc_lt0, lc_gt0, lc_eq0, wl_wr, wr_wr, wl_id, true_and, and_true, true_or, or_true, not_true_eq_false, not_false_eq_true, nc0, nc1, nc2, nc3, nc4, nc5, nc6, nc7, nc8, nc9, nc10, nc11, nc12, nc13, nc14, nc15, nc16, nc17, nc18, nc19, nc20, nc21, nc22, nc23, nc35, nc47, nc59, nc60, nc61, nc73, nc74, nc214, nc215, nc1115, nc2230, nc3345, if_true, if_false, Int.reduceToNat, cl0, e2]
    · have c' : Fpl S x r g s = false := by simpa using c
      have co : ¬ okR S x r g s = true := by simp [okR, c']
      rw [c'] at ef
      rw [if_neg co, if_neg (show ¬ m < 0 by omega)]
      obtain ⟨h2, e2, f2⟩ := ih (by omega) (by omega) h m p rt hm0
      refine ⟨h2, ?_, f2⟩
      simp (disch := omega) only [Mod_laysRight_92, Mod_laysRight_102, Mod_laysRight_160, wr_id, ix_id, okx, if_pos, if_neg, Int.toNat_of_nonneg, bak_v, bak_n, wr_b01, wr_bt, b01_or, b01_0, b01_1, lc_lt0, lc_gt0, lc_eq0, wl_wr, wr_wr, wl_id, true_and, and_true, true_or, or_true, not_true_eq_false, not_false_eq_true, nc0, nc1, nc2, nc3, nc4, nc5, nc6, nc7, nc8, nc9, nc10, nc11, nc12, nc13, nc14, nc15, nc16, nc17, nc18, nc19, nc20, nc21, nc22, nc23, nc35, nc47, nc59, nc60, nc61, nc73, nc74, nc214, nc215, nc1115, nc2230, nc3345, if_true, if_false, Int.reduceToNat, hm.k, hm.r1, hm.r2, hm.r3, hm.r4, hm.r15, hm.r16, hm.r19, hm.r23, hm.r24, hm.r25, hm.r26, hm.r29, hm.r30, hm.r31, hm.r33, hm.r34, hm.r35, hm.k73, hm.k74, hm.k75, hm.k76, hm.k77, hm.k78, hm.k79, hm.k80, hm.k81, hm.k82, hm.k83, hm.k84, hm.k85, hm.k86, hm.k87, hm.k88, hm.k89, hm.n73, hm.n74, hm.n75, hm.n76, hm.n77, hm.n78, hm.n79, hm.n80, hm.n81, hm.n82, hm.n83, hm.n84, hm.n85, hm.n86, hm.n87, hm.n88, hm.n89, ms.2, ef, e2]
      simp
theorem m_lR_2 {d : Nat} {S nb : Int → Int} (n64 : N64 nb) (gd : Gd S) (lo : LawOk S) {x r : Int} (hx : -1 ≤ x) (hr : -1 ≤ r ∧ r < S 2) (hxr : x = -1 ↔ r = -1) : ∀ g, x + 1 ≤ g → g ≤ 12 → ∀ h m, PT h S nb → (∀ g s, x < g → g < S 1 → 0 ≤ s → s < S 2 → rtV h S g s) → (0 ≤ m ∧ m ≤ 1400) → ∃ h', EX (d+2) m_Mod_laysRight 65 [(0, .inr (.inr (72))), (1, .inl (x)), (2, .inl (r)), (3, .inl (m)), (4, .inl (g))] [] (h) = EX (d+2) m_Mod_laysRight 172 [(0, .inr (.inr (72))), (1, .inl (x)), (2, .inl (r)), (3, .inl (fo (stR S x r) g (S 1) m))] [] (h') ∧ Fr (fun a _ => a = 77) h h' := by
  have ga := gd.a
  have gb := gd.b
  refine up_ind (hi := S 1) ?_ ?_
  · intro g hg h0 h1 h m p rt hm0
    have ms := p.1.1
    have hm := ms.1
    refine ⟨h, ?_, Fr.rf⟩
    rw [Mod_laysRight_65, fo_stop hg]
    simp (disch := omega) only [wr_id, ix_id, okx, if_pos, if_neg, Int.toNat_of_nonneg, bak_v, bak_n, wr_b01, wr_bt, b01_or, b01_0, b01_1, lc_lt0, lc_gt0, lc_eq0, wl_wr, wr_wr, wl_id, true_and, and_true, true_or, or_true, not_true_eq_false, not_false_eq_true, nc0, nc1, nc2, nc3, nc4, nc5, nc6, nc7, nc8, nc9, nc10, nc11, nc12, nc13, nc14, nc15, nc16, nc17, nc18, nc19, nc20, nc21, nc22, nc23, nc35, nc47, nc59, nc60, nc61, nc73, nc74, nc214, nc215, nc1115, nc2230, nc3345, if_true, if_false, Int.reduceToNat, hm.k, hm.r1, hm.r2, hm.r3, hm.r4, hm.r15, hm.r16, hm.r19, hm.r23, hm.r24, hm.r25, hm.r26, hm.r29, hm.r30, hm.r31, hm.r33, hm.r34, hm.r35, hm.k73, hm.k74, hm.k75, hm.k76, hm.k77, hm.k78, hm.k79, hm.k80, hm.k81, hm.k82, hm.k83, hm.k84, hm.k85, hm.k86, hm.k87, hm.k88, hm.k89, hm.n73, hm.n74, hm.n75, hm.n76, hm.n77, hm.n78, hm.n79, hm.n80, hm.n81, hm.n82, hm.n83, hm.n84, hm.n85, hm.n86, hm.n87, hm.n88, hm.n89, ms.2]
  · intro g hg ih h0 h1 h m p rt hm0
    have ms := p.1.1
    have hm := ms.1
    obtain ⟨h1', e1, f1⟩ := m_lR_1 (d := d) n64 gd lo (x := x) (r := r) (g := g) (by omega) hr hxr (r + 1) (by omega) (by omega) h m p (fun s s0 s1 => rt g s (by omega) hg s0 s1) hm0
    have mr := mx_rng (f := fun s => if okR S x r g s = true then kbR S g s + AR S g s else 0) (N := S 2) (B := 1400) (r + 1) (fun s _ _ => by
      have h1 := AR_rng S g s
      have h2 := kbR_rng S g s
      split <;> omega) m (by omega)
    obtain ⟨h2, e2, f2⟩ := ih (by omega) (by omega) h1' (stR S x r g m) (p.fr2 f1 (fun a k c => by omega)) (fun g s z1 z2 z3 z4 => by unfold rtV; rw [f1.I (by omega)]; exact rt g s z1 z2 z3 z4) (by unfold stR; omega)
    refine ⟨h2, ?_, f1.tr f2⟩
    rw [Mod_laysRight_65, fo_step hg]
    simp (disch := omega) only [Mod_laysRight_76, wr_id, ix_id, okx, if_pos, if_neg, Int.toNat_of_nonneg, bak_v, bak_n, wr_b01, wr_bt, b01_or, b01_0, b01_1, lc_lt0, lc_gt0, lc_eq0, wl_wr, wr_wr, wl_id, true_and, and_true, true_or, or_true, not_true_eq_false, not_false_eq_true, nc0, nc1, nc2, nc3, nc4, nc5, nc6, nc7, nc8, nc9, nc10, nc11, nc12, nc13, nc14, nc15, nc16, nc17, nc18, nc19, nc20, nc21, nc22, nc23, nc35, nc47, nc59, nc60, nc61, nc73, nc74, nc214, nc215, nc1115, nc2230, nc3345, if_true, if_false, Int.reduceToNat, hm.k, hm.r1, hm.r2, hm.r3, hm.r4, hm.r15, hm.r16, hm.r19, hm.r23, hm.r24, hm.r25, hm.r26, hm.r29, hm.r30, hm.r31, hm.r33, hm.r34, hm.r35, hm.k73, hm.k74, hm.k75, hm.k76, hm.k77, hm.k78, hm.k79, hm.k80, hm.k81, hm.k82, hm.k83, hm.k84, hm.k85, hm.k86, hm.k87, hm.k88, hm.k89, hm.n73, hm.n74, hm.n75, hm.n76, hm.n77, hm.n78, hm.n79, hm.n80, hm.n81, hm.n82, hm.n83, hm.n84, hm.n85, hm.n86, hm.n87, hm.n88, hm.n89, ms.2]
    refine e1.trans ?_
    rw [Mod_laysRight_166]
    exact e2
theorem m_lR_3 {d : Nat} {S nb : Int → Int} (n64 : N64 nb) (gd : Gd S) (lo : LawOk S) {x : Int} (hx : -1 ≤ x ∧ x < S 1) : ∀ r, -2 ≤ r → r < S 2 → ∀ h, PT h S nb → (∀ g s, x < g → g < S 1 → 0 ≤ s → s < S 2 → rtV h S g s) → (∀ s, r < s → s < S 2 → (x = -1 ↔ s = -1) → rtV h S x s) → ∃ h', EX (d+2) m_Mod_laysRight 27 [(0, .inr (.inr (72))), (1, .inl (x)), (2, .inl (r))] [] (h) = EX (d+2) m_Mod_laysRight 194 [(0, .inr (.inr (72))), (1, .inl (x))] [] (h') ∧ (∀ g s, x ≤ g → g < S 1 → -1 ≤ s → s < S 2 → (g = -1 ↔ s = -1) → rtV h' S g s) ∧ Fr p81 h h' := by
  have ga := gd.a
  have gb := gd.b
  refine dn_ind (lo := -1) ?_ ?_
  · intro r hr h0 h1 h p rt rx
    refine ⟨h, ?_, fun g s z1 z2 z3 z4 z5 => ?_, Fr.rf⟩
    · rw [Mod_laysRight_27]
      simp (disch := omega) only [wr_id, ix_id, okx, if_pos, if_neg, Int.toNat_of_nonneg, bak_v, bak_n, wr_b01, wr_bt, b01_or, b01_0, b01_1, lc_lt0, lc_gt0, lc_eq0, wl_wr, wr_wr, wl_id, true_and, and_true, true_or, or_true, not_true_eq_false, not_false_eq_true, nc0, nc1, nc2, nc3, nc4, nc5, nc6, nc7, nc8, nc9, nc10, nc11, nc12, nc13, nc14, nc15, nc16, nc17, nc18, nc19, nc20, nc21, nc22, nc23, nc35, nc47, nc59, nc60, nc61, nc73, nc74, nc214, nc215, nc1115, nc2230, nc3345, if_true, if_false, Int.reduceToNat]
    · by_cases c : g = x
      · rw [c] at z5 ⊢; exact rx s (by omega) z4 z5
      · exact rt g s (by omega) z2 (by omega) z4
  · intro r hr ih h0 h1 h p rt rx
    have er : r + -1 = r - 1 := by omega
    by_cases c : x = -1 ↔ r = -1
    · obtain ⟨h1', e1, f1⟩ := m_lR_2 (d := d) n64 gd lo (x := x) (r := r) (by omega) ⟨hr, h1⟩ c (x + 1) (by omega) (by omega) h 0 p rt (by omega)
      have p1 := p.fr2 f1 (fun a k c => by omega)
      have hm1 := p1.1.1.1
      have f2 : Fr p81 h (pI h1' 81 (13 * (x + 1) + r + 1).toNat (AR S x r)) := (f1.mo (fun a k q => Or.inl q)).pI (Or.inr rfl)
      have rt2 : ∀ g s, ¬ (g = x ∧ s = r) → -1 ≤ g → -1 ≤ s → s ≤ 11 → rtV h S g s → rtV (pI h1' 81 (13 * (x + 1) + r + 1).toNat (AR S x r)) S g s := fun g s ne g0 s0 s1 v => by
        unfold rtV at *
        rw [hI_pI, if_neg (fun q => ne (by have := q.2; omega)), f1.I (by omega)]
        exact v
      obtain ⟨h2, e2, k2, f3⟩ := ih (by omega) (by omega) (pI h1' 81 (13 * (x + 1) + r + 1).toNat (AR S x r)) (p.fr2 f2 (fun a k c => by unfold p81 at c; omega)) (fun g s z1 z2 z3 z4 => rt2 g s (by omega) (by omega) (by omega) (by omega) (rt g s z1 z2 z3 z4)) (fun s s1 s2 s3 => by
        by_cases cs : s = r
        · rw [cs]; unfold rtV; rw [hI_pI, if_pos ⟨rfl, rfl⟩]
        · exact rt2 x s (by omega) (by omega) (by omega) (by omega) (rx s (by omega) s2 s3))
      refine ⟨h2, ?_, k2, f2.tr f3⟩
      have st : EX (d+2) m_Mod_laysRight 58 [(0, .inr (.inr (72))), (1, .inl (x)), (2, .inl (r))] [] (h) = EX (d+2) m_Mod_laysRight 27 [(0, .inr (.inr (72))), (1, .inl (x)), (2, .inl (r - 1))] [] (pI h1' 81 (13 * (x + 1) + r + 1).toNat (AR S x r)) := by
        rw [Mod_laysRight_58]
        refine e1.trans ?_
        rw [← AR_eq gd (by omega)]
        have hm := hm1
        simp (disch := omega) only [Mod_laysRight_172, Mod_laysRight_188, wr_id, ix_id, okx, if_pos, if_neg, Int.toNat_of_nonneg, bak_v, bak_n, wr_b01, wr_bt, b01_or, b01_0, b01_1, lc_lt0, lc_gt0, lc_eq0, wl_wr, wr_wr, wl_id, true_and, and_true, true_or, or_true, not_true_eq_false, not_false_eq_true, nc0, nc1, nc2, nc3, nc4, nc5, nc6, nc7, nc8, nc9, nc10, nc11, nc12, nc13, nc14, nc15, nc16, nc17, nc18, nc19, nc20, nc21, nc22, nc23, nc35, nc47, nc59, nc60, nc61, nc73, nc74, nc214, nc215, nc1115, nc2230, nc3345, if_true, if_false, Int.reduceToNat, hm.k, hm.r1, hm.r2, hm.r3, hm.r4, hm.r15, hm.r16, hm.r19, hm.r23, hm.r24, hm.r25, hm.r26, hm.r29, hm.r30, hm.r31, hm.r33, hm.r34, hm.r35, hm.k73, hm.k74, hm.k75, hm.k76, hm.k77, hm.k78, hm.k79, hm.k80, hm.k81, hm.k82, hm.k83, hm.k84, hm.k85, hm.k86, hm.k87, hm.k88, hm.k89, hm.n73, hm.n74, hm.n75, hm.n76, hm.n77, hm.n78, hm.n79, hm.n80, hm.n81, hm.n82, hm.n83, hm.n84, hm.n85, hm.n86, hm.n87, hm.n88, hm.n89, er]
      rw [show m_Mod_laysRight = 204 from rfl] at st
      rw [Mod_laysRight_27]
      by_cases cx : x = -1
      · have cr := c.mp cx
        simp (disch := omega) only [Mod_laysRight_32, Mod_laysRight_37, Mod_laysRight_42, Mod_laysRight_47, Mod_laysRight_52, wr_id, ix_id, okx, if_pos, if_neg, Int.toNat_of_nonneg, bak_v, bak_n, wr_b01, wr_bt, b01_or, b01_0, b01_1, lc_lt0, lc_gt0, lc_eq0, wl_wr, wr_wr, wl_id, true_and, and_true, true_or, or_true, not_true_eq_false, not_false_eq_true, nc0, nc1, nc2, nc3, nc4, nc5, nc6, nc7, nc8, nc9, nc10, nc11, nc12, nc13, nc14, nc15, nc16, nc17, nc18, nc19, nc20, nc21, nc22, nc23, nc35, nc47, nc59, nc60, nc61, nc73, nc74, nc214, nc215, nc1115, nc2230, nc3345, if_true, if_false, Int.reduceToNat]
        exact st.trans e2
      · have cr : ¬ r = -1 := fun q => cx (c.mpr q)
        simp (disch := omega) only [Mod_laysRight_32, Mod_laysRight_41, Mod_laysRight_42, Mod_laysRight_51, Mod_laysRight_52, wr_id, ix_id, okx, if_pos, if_neg, Int.toNat_of_nonneg, bak_v, bak_n, wr_b01, wr_bt, b01_or, b01_0, b01_1, lc_lt0, lc_gt0, lc_eq0, wl_wr, wr_wr, wl_id, true_and, and_true, true_or, or_true, not_true_eq_false, not_false_eq_true, nc0, nc1, nc2, nc3, nc4, nc5, nc6, nc7, nc8, nc9, nc10, nc11, nc12, nc13, nc14, nc15, nc16, nc17, nc18, nc19, nc20, nc21, nc22, nc23, nc35, nc47, nc59, nc60, nc61, nc73, nc74, nc214, nc215, nc1115, nc2230, nc3345, if_true, if_false, Int.reduceToNat]
        exact st.trans e2
    · obtain ⟨h2, e2, k2, f2⟩ := ih (by omega) (by omega) h p rt (fun s s1 s2 s3 => by
        by_cases cs : s = r
        · rw [cs] at s3; exact absurd s3 c
        · exact rx s (by omega) s2 s3)
      refine ⟨h2, ?_, k2, f2⟩
      rw [Mod_laysRight_27]
      by_cases cx : x = -1
      · have cr : ¬ r = -1 := fun q => c ⟨fun _ => q, fun _ => cx⟩
        simp (disch := omega) only [Mod_laysRight_32, Mod_laysRight_37, Mod_laysRight_42, Mod_laysRight_51, Mod_laysRight_52, Mod_laysRight_55, Mod_laysRight_188, wr_id, ix_id, okx, if_pos, if_neg, Int.toNat_of_nonneg, bak_v, bak_n, wr_b01, wr_bt, b01_or, b01_0, b01_1, lc_lt0, lc_gt0, lc_eq0, wl_wr, wr_wr, wl_id, true_and, and_true, true_or, or_true, not_true_eq_false, not_false_eq_true, nc0, nc1, nc2, nc3, nc4, nc5, nc6, nc7, nc8, nc9, nc10, nc11, nc12, nc13, nc14, nc15, nc16, nc17, nc18, nc19, nc20, nc21, nc22, nc23, nc35, nc47, nc59, nc60, nc61, nc73, nc74, nc214, nc215, nc1115, nc2230, nc3345, if_true, if_false, Int.reduceToNat, er, e2]
      · have cr : r = -1 := by
          refine Decidable.not_not.mp fun q => c ⟨fun z => absurd z cx, fun z => absurd z q⟩
        simp (disch := omega) only [Mod_laysRight_32, Mod_laysRight_41, Mod_laysRight_42, Mod_laysRight_47, Mod_laysRight_52, Mod_laysRight_55, Mod_laysRight_188, wr_id, ix_id, okx, if_pos, if_neg, Int.toNat_of_nonneg, bak_v, bak_n, wr_b01, wr_bt, b01_or, b01_0, b01_1, lc_lt0, lc_gt0, lc_eq0, wl_wr, wr_wr, wl_id, true_and, and_true, true_or, or_true, not_true_eq_false, not_false_eq_true, nc0, nc1, nc2, nc3, nc4, nc5, nc6, nc7, nc8, nc9, nc10, nc11, nc12, nc13, nc14, nc15, nc16, nc17, nc18, nc19, nc20, nc21, nc22, nc23, nc35, nc47, nc59, nc60, nc61, nc73, nc74, nc214, nc215, nc1115, nc2230, nc3345, if_true, if_false, Int.reduceToNat, er, e2]
theorem m_lR_4 {d : Nat} {S nb : Int → Int} (n64 : N64 nb) (gd : Gd S) (lo : LawOk S) : ∀ x, -2 ≤ x → x < S 1 → ∀ h, PT h S nb → (∀ g s, x < g → g < S 1 → -1 ≤ s → s < S 2 → (g = -1 ↔ s = -1) → rtV h S g s) → ∃ h', EX (d+2) m_Mod_laysRight 13 [(0, .inr (.inr (72))), (1, .inl (x))] [] (h) = some (.inl (AR S (-1) (-1)), h') ∧ (∀ g s, -1 ≤ g → g < S 1 → -1 ≤ s → s < S 2 → (g = -1 ↔ s = -1) → rtV h' S g s) ∧ Fr p81 h h' := by
  have ga := gd.a
  have gb := gd.b
  refine dn_ind (lo := -1) ?_ ?_
  · intro x hx h0 h1 h p rt
    have hm := p.1.1.1
    have e0 := rt (-1) (-1) (by omega) (by omega) (by omega) (by omega) (by omega)
    unfold rtV at e0
    rw [show (13 * (-1 + 1) + -1 + 1 : Int).toNat = 0 from rfl] at e0
    refine ⟨h, ?_, fun g s z1 z2 z3 z4 z5 => rt g s (by omega) z2 z3 z4 z5, Fr.rf⟩
    rw [Mod_laysRight_13]
    simp (disch := omega) only [Mod_laysRight_200, wr_id, ix_id, okx, if_pos, if_neg, Int.toNat_of_nonneg, bak_v, bak_n, wr_b01, wr_bt, b01_or, b01_0, b01_1, lc_lt0, lc_gt0, lc_eq0, wl_wr, wr_wr, wl_id, true_and, and_true, true_or, or_true, not_true_eq_false, not_false_eq_true, nc0, nc1, nc2, nc3, nc4, nc5, nc6, nc7, nc8, nc9, nc10, nc11, nc12, nc13, nc14, nc15, nc16, nc17, nc18, nc19, nc20, nc21, nc22, nc23, nc35, nc47, nc59, nc60, nc61, nc73, nc74, nc214, nc215, nc1115, nc2230, nc3345, if_true, if_false, Int.reduceToNat, hm.k, hm.r1, hm.r2, hm.r3, hm.r4, hm.r15, hm.r16, hm.r19, hm.r23, hm.r24, hm.r25, hm.r26, hm.r29, hm.r30, hm.r31, hm.r33, hm.r34, hm.r35, hm.k73, hm.k74, hm.k75, hm.k76, hm.k77, hm.k78, hm.k79, hm.k80, hm.k81, hm.k82, hm.k83, hm.k84, hm.k85, hm.k86, hm.k87, hm.k88, hm.k89, hm.n73, hm.n74, hm.n75, hm.n76, hm.n77, hm.n78, hm.n79, hm.n80, hm.n81, hm.n82, hm.n83, hm.n84, hm.n85, hm.n86, hm.n87, hm.n88, hm.n89, e0]
  · intro x hx ih h0 h1 h p rt
    have ms := p.1.1
    have hm := ms.1
    obtain ⟨h1', e1, k1, f1⟩ := m_lR_3 (d := d) n64 gd lo (x := x) ⟨hx, h1⟩ (S 2 - 1) (by omega) (by omega) h p (fun g s z1 z2 z3 z4 => rt g s z1 z2 (by omega) z4 (by omega)) (fun s s1 s2 _ => by omega)
    obtain ⟨h2, e2, k2, f2⟩ := ih (by omega) (by omega) h1' (p.fr2 f1 (fun a k c => by unfold p81 at c; omega)) (fun g s z1 z2 z3 z4 z5 => k1 g s (by omega) z2 z3 z4 z5)
    refine ⟨h2, ?_, k2, f1.tr f2⟩
    rw [Mod_laysRight_13]
    simp (disch := omega) only [Mod_laysRight_18, wr_id, ix_id, okx, if_pos, if_neg, Int.toNat_of_nonneg, bak_v, bak_n, wr_b01, wr_bt, b01_or, b01_0, b01_1, lc_lt0, lc_gt0, lc_eq0, wl_wr, wr_wr, wl_id, true_and, and_true, true_or, or_true, not_true_eq_false, not_false_eq_true, nc0, nc1, nc2, nc3, nc4, nc5, nc6, nc7, nc8, nc9, nc10, nc11, nc12, nc13, nc14, nc15, nc16, nc17, nc18, nc19, nc20, nc21, nc22, nc23, nc35, nc47, nc59, nc60, nc61, nc73, nc74, nc214, nc215, nc1115, nc2230, nc3345, if_true, if_false, Int.reduceToNat, hm.k, hm.r1, hm.r2, hm.r3, hm.r4, hm.r15, hm.r16, hm.r19, hm.r23, hm.r24, hm.r25, hm.r26, hm.r29, hm.r30, hm.r31, hm.r33, hm.r34, hm.r35, hm.k73, hm.k74, hm.k75, hm.k76, hm.k77, hm.k78, hm.k79, hm.k80, hm.k81, hm.k82, hm.k83, hm.k84, hm.k85, hm.k86, hm.k87, hm.k88, hm.k89, hm.n73, hm.n74, hm.n75, hm.n76, hm.n77, hm.n78, hm.n79, hm.n80, hm.n81, hm.n82, hm.n83, hm.n84, hm.n85, hm.n86, hm.n87, hm.n88, hm.n89, ms.2]
    refine e1.trans ?_
    rw [Mod_laysRight_194, show x + -1 = x - 1 by omega]
    exact e2
theorem m_laysRight {d : Nat} {h : Hp} {S nb : Int → Int} (ms : MS h S) (hnb : ∀ k : Nat, hL h 89 k = nb k) (n64 : N64 nb) (gd : Gd S) (lo : LawOk S) : ∃ h', cal (d+5) m_Mod_laysRight [.inr (.inr (72))] (h) = some (.inl (AR S (-1) (-1)), h') ∧ PT h' S nb ∧ (∀ g s, -1 ≤ g → g < S 1 → -1 ≤ s → s < S 2 → (g = -1 ↔ s = -1) → rtV h' S g s) ∧ Fr wQ h h' := by
  have ga := gd.a
  obtain ⟨h1, e1, w1, tb1, f1⟩ := m_laysAll (d := d) ms hnb n64 gd
  obtain ⟨h2, e2, k2, f2⟩ := m_lR_4 (d := d + 2) n64 gd lo (S 1 - 1) (by omega) (by omega) h1 ⟨w1, tb1⟩ (fun g s z1 z2 _ _ _ => by omega)
  refine ⟨h2, ?_, PT.fr2 ⟨w1, tb1⟩ f2 (fun a k c => by unfold p81 at c; omega), k2, (fWy f1).tr (f2.mo (fun a k q => by unfold p81 at q; unfold wQ; omega))⟩
  show EX (d+4) m_Mod_laysRight 0 [(0, .inr (.inr (72)))] [] (h) = _
  have hk := ms.1.k
  have hm := w1.1.1
  simp (disch := omega) only [Mod_laysRight_0, wr_id, ix_id, okx, if_pos, if_neg, Int.toNat_of_nonneg, bak_v, bak_n, wr_b01, wr_bt, b01_or, b01_0, b01_1, lc_lt0, lc_gt0, lc_eq0, wl_wr, wr_wr, wl_id, true_and, and_true, true_or, or_true, not_true_eq_false, not_false_eq_true, nc0, nc1, nc2, nc3, nc4, nc5, nc6, nc7, nc8, nc9, nc10, nc11, nc12, nc13, nc14, nc15, nc16, nc17, nc18, nc19, nc20, nc21, nc22, nc23, nc35, nc47, nc59, nc60, nc61, nc73, nc74, nc214, nc215, nc1115, nc2230, nc3345, if_true, if_false, Int.reduceToNat, hk, e1]
  rw [Mod_laysRight_4]
  simp (disch := omega) only [wr_id, ix_id, okx, if_pos, if_neg, Int.toNat_of_nonneg, bak_v, bak_n, wr_b01, wr_bt, b01_or, b01_0, b01_1, lc_lt0, lc_gt0, lc_eq0, wl_wr, wr_wr, wl_id, true_and, and_true, true_or, or_true, not_true_eq_false, not_false_eq_true, nc0, nc1, nc2, nc3, nc4, nc5, nc6, nc7, nc8, nc9, nc10, nc11, nc12, nc13, nc14, nc15, nc16, nc17, nc18, nc19, nc20, nc21, nc22, nc23, nc35, nc47, nc59, nc60, nc61, nc73, nc74, nc214, nc215, nc1115, nc2230, nc3345, if_true, if_false, Int.reduceToNat, hm.k, hm.r1, hm.r2, hm.r3, hm.r4, hm.r15, hm.r16, hm.r19, hm.r23, hm.r24, hm.r25, hm.r26, hm.r29, hm.r30, hm.r31, hm.r33, hm.r34, hm.r35, hm.k73, hm.k74, hm.k75, hm.k76, hm.k77, hm.k78, hm.k79, hm.k80, hm.k81, hm.k82, hm.k83, hm.k84, hm.k85, hm.k86, hm.k87, hm.k88, hm.k89, hm.n73, hm.n74, hm.n75, hm.n76, hm.n77, hm.n78, hm.n79, hm.n80, hm.n81, hm.n82, hm.n83, hm.n84, hm.n85, hm.n86, hm.n87, hm.n88, hm.n89, w1.1.2]
  exact e2
