/-! how many chains: pure; the model's shows and follows -/
def cnt (F : Int → Int → Int → Int → Bool) (B : Int → Int) (N R : Int) : Nat → Int → Int → Int
  | 0, _, r => B r
  | n + 1, h, r => sm (fun g => sm (fun s => if F h r g s = true then cnt F B N R n g s else 0) (r + 1) R) (h + 1) N
def pw (z : Int) : Int := 2 ^ z.toNat
theorem pw_pos (z : Int) : 1 ≤ pw z := by
  have : (0 : Int) < 2 ^ z.toNat := Int.pow_pos (by decide)
  unfold pw
  omega
theorem pw_s {z : Int} (h : 0 ≤ z) : pw (z + 1) = 2 * pw z := by
  unfold pw
  rw [show (z + 1).toNat = z.toNat + 1 by omega, Int.pow_succ]
  omega
theorem sm_pw {N : Int} : ∀ i, i ≤ N → sm (fun g => pw (N - 1 - g)) i N = pw (N - i) - 1 := by
  refine up_ind (hi := N) ?_ ?_
  · intro i hi h0
    rw [sm_stop hi, show N - i = 0 by omega]
    rfl
  · intro i hi ih h0
    rw [sm_step hi, ih (by omega), show N - i = (N - 1 - i) + 1 by omega, pw_s (by omega), show N - (i + 1) = N - 1 - i by omega]
    omega
theorem sm_le {f g : Int → Int} {N : Int} : ∀ i, (∀ j, i ≤ j → j < N → f j ≤ g j) → sm f i N ≤ sm g i N := by
  refine up_ind (hi := N) ?_ ?_
  · intro i hi _
    rw [sm_stop hi, sm_stop hi]
    exact Int.le_refl 0
  · intro i hi ih h
    rw [sm_step hi, sm_step hi]
    have h1 := ih (fun j h1 h2 => h j (by omega) h2)
    have h2 := h i (by omega) hi
    omega
theorem sm_nn {f : Int → Int} {N : Int} : ∀ i, (∀ j, i ≤ j → j < N → 0 ≤ f j) → 0 ≤ sm f i N := by
  refine up_ind (hi := N) ?_ ?_
  · intro i hi _
    rw [sm_stop hi]
    exact Int.le_refl 0
  · intro i hi ih h
    rw [sm_step hi]
    have h1 := ih (fun j h1 h2 => h j (by omega) h2)
    have h2 := h i (by omega) hi
    omega
theorem sm_mul {f : Int → Int} {N c : Int} : ∀ i, sm (fun j => c * f j) i N = c * sm f i N := by
  refine up_ind (hi := N) ?_ ?_
  · intro i hi
    rw [sm_stop hi, sm_stop hi, Int.mul_zero]
  · intro i hi ih
    rw [sm_step hi, sm_step hi, ih, Int.mul_add]
theorem cnt_nn {F : Int → Int → Int → Int → Bool} {B : Int → Int} {N R : Int} (hB : ∀ r, 0 ≤ B r) : ∀ (n : Nat) (h r : Int), 0 ≤ cnt F B N R n h r := by
  intro n
  induction n with
  | zero => intro h r; exact hB r
  | succ n ih =>
    intro h r
    refine sm_nn _ (fun g _ _ => sm_nn _ (fun s _ _ => ?_))
    split
    · exact ih g s
    · exact Int.le_refl 0
theorem cnt_le {F : Int → Int → Int → Int → Bool} {B : Int → Int} {N R : Int} (hB : ∀ r, 0 ≤ B r ∧ B r ≤ 1) : ∀ (n : Nat) (h r : Int), h ≤ N - 1 → r ≤ R - 1 → cnt F B N R n h r ≤ pw (N - 1 - h) * pw (R - 1 - r) := by
  intro n
  induction n with
  | zero =>
    intro h r _ _
    have h1 := pw_pos (N - 1 - h)
    have h2 := pw_pos (R - 1 - r)
    have h3 := hB r
    have h4 : 1 * 1 ≤ pw (N - 1 - h) * pw (R - 1 - r) := Int.mul_le_mul h1 h2 (by omega) (by omega)
    show B r ≤ _
    omega
  | succ n ih =>
    intro h r hh hr
    have a : cnt F B N R (n + 1) h r ≤ sm (fun g => pw (N - 1 - g) * (pw (R - 1 - r) - 1)) (h + 1) N := by
      refine sm_le _ (fun g hg1 hg2 => ?_)
      have b : sm (fun s => pw (N - 1 - g) * pw (R - 1 - s)) (r + 1) R = pw (N - 1 - g) * (pw (R - 1 - r) - 1) := by
        rw [sm_mul, sm_pw _ (by omega), show R - (r + 1) = R - 1 - r by omega]
      rw [← b]
      refine sm_le _ (fun s hs1 hs2 => ?_)
      have c := ih g s (by omega) (by omega)
      split
      · exact c
      · exact Int.le_trans (cnt_nn (F := F) (fun r => (hB r).1) n g s) c
    have b : sm (fun g => pw (N - 1 - g) * (pw (R - 1 - r) - 1)) (h + 1) N = (pw (R - 1 - r) - 1) * (pw (N - 1 - h) - 1) := by
      have e : (fun g => pw (N - 1 - g) * (pw (R - 1 - r) - 1)) = (fun g => (pw (R - 1 - r) - 1) * pw (N - 1 - g)) := by
        funext g; exact Int.mul_comm _ _
      rw [e, sm_mul, sm_pw _ (by omega), show N - (h + 1) = N - 1 - h by omega]
    have h1 := pw_pos (N - 1 - h)
    have h2 := pw_pos (R - 1 - r)
    have c : (pw (R - 1 - r) - 1) * (pw (N - 1 - h) - 1) ≤ pw (R - 1 - r) * pw (N - 1 - h) := Int.mul_le_mul (by omega) (by omega) (by omega) (by omega)
    rw [Int.mul_comm (pw (N - 1 - h))]
    omega
theorem pw_mono {a b : Int} (h : a ≤ b) : pw a ≤ pw b := by
  unfold pw
  have := Nat.pow_le_pow_right (n := 2) (by omega) (show a.toNat ≤ b.toNat by omega)
  exact_mod_cast this
theorem cnt_rng {F : Int → Int → Int → Int → Bool} {B : Int → Int} {N R : Int} (hB : ∀ r, 0 ≤ B r ∧ B r ≤ 1) (hN : N ≤ 12) (hR : R ≤ 12) (n : Nat) {h r : Int} (hh : -1 ≤ h ∧ h ≤ N - 1) (hr : -1 ≤ r ∧ r ≤ R - 1) : 0 ≤ cnt F B N R n h r ∧ cnt F B N R n h r ≤ 16777216 := by
  refine ⟨cnt_nn (fun r => (hB r).1) n h r, ?_⟩
  have h1 := cnt_le (F := F) hB n h r hh.2 hr.2
  have h2 := pw_pos (N - 1 - h)
  have h3 := pw_pos (R - 1 - r)
  have h4 : pw (N - 1 - h) ≤ pw 12 := pw_mono (by omega)
  have h5 : pw (R - 1 - r) ≤ pw 12 := pw_mono (by omega)
  have h6 : pw (N - 1 - h) * pw (R - 1 - r) ≤ pw 12 * pw 12 := Int.mul_le_mul h4 h5 (by omega) (by have := pw_pos 12; omega)
  have h7 : pw 12 * pw 12 = 16777216 := by decide
  omega
/-! what a tray tells of the gaps -/
def shB (nb : Int → Int) (t a b v : Int) : Bool := decide (t = -1 ∨ ff (fun z => decide (¬ nb (40 * t + z) = -1 ∧ ¬ nb (40 * t + z) = v)) a b = -1)
/-- may another hook follow -/
def FF (S nb : Int → Int) (oh or t : Int) : Int → Int → Int → Int → Bool := fun h r g s => decide (bt (S 10) s = 0 ∧ ¬ (g = oh ∧ (or = -1 ∨ or = s)) ∧ (if h = -1 then shB nb t 0 s (-2) = true else (0 ≤ sagM S h r g s ∧ shB nb t r s (sagM S h r g s) = true)))
def BB (S nb : Int → Int) (t : Int) : Int → Int := fun r => b01 (shB nb t (if r = -1 then 0 else r) (S 2 - 1) (-2) = true)
theorem BB_01 (S nb : Int → Int) (t r : Int) : 0 ≤ BB S nb t r ∧ BB S nb t r ≤ 1 := by
  unfold BB b01
  split <;> omega
/-- the model's world for ways -/
def W6 (h : Hp) (S nb : Int → Int) (oh or t : Int) : Prop := MS h S ∧ (∀ k : Nat, hL h 89 k = nb k) ∧ hI h 72 20 = oh ∧ hI h 72 21 = or ∧ hI h 72 22 = t
theorem W6.fr {h h' : Hp} {S nb : Int → Int} {oh or t : Int} (w : W6 h S nb oh or t) {p : Nat → Nat → Prop} (f : Fr p h h') (hp : ∀ a k, p a k → 76 ≤ a ∧ a ≤ 86) : W6 h' S nb oh or t := by
  have q : ∀ a k, ¬ (76 ≤ a ∧ a ≤ 86) → ¬ p a k := fun a k h1 h2 => h1 (hp a k h2)
  exact ⟨w.1.fr f (fun k => q _ _ (by omega)), fun k => by rw [f.L (q _ _ (by omega))]; exact w.2.1 k, by rw [f.I (q _ _ (by omega))]; exact w.2.2.1, by rw [f.I (q _ _ (by omega))]; exact w.2.2.2.1, by rw [f.I (q _ _ (by omega))]; exact w.2.2.2.2⟩
/-- numbers a tray may have -/
def N64 (nb : Int → Int) : Prop := ∀ k, -9223372036854775808 ≤ nb k ∧ nb k ≤ 9223372036854775807
theorem m_shows_l {d : Nat} {h : Hp} {S nb : Int → Int} {oh or t : Int} (w : W6 h S nb oh or t) (n64 : N64 nb) (ht : 0 ≤ t ∧ t < 4) {b v : Int} (hb : b ≤ 20) (hb' : -1 ≤ b) (hv : -5000 ≤ v ∧ v ≤ 5000) : ∀ i, 0 ≤ i → i ≤ 20 → EX (d) m_Mod_shows 13 [(0, .inr (.inr (72))), (2, .inl (b)), (3, .inl (v)), (4, .inl (i))] [] (h) = some (.inl (b01 (ff (fun z => decide (¬ nb (40 * t + z) = -1 ∧ ¬ nb (40 * t + z) = v)) i b = -1)), h) := by
  have hm := w.1.1
  obtain ⟨w1, w2, w3, w4, w5⟩ := w
  refine up_ind (hi := b) ?_ ?_
  · intro i hi h0 h1
    rw [Mod_shows_13, ff_stop hi]
    simp (disch := omega) only [Mod_shows_61, wr_id, ix_id, okx, if_pos, if_neg, Int.toNat_of_nonneg, bak_v, bak_n, wr_b01, wr_bt, b01_or, b01_0, b01_1, lc_lt0, lc_gt0, lc_eq0, wl_wr, wr_wr, wl_id, true_and, and_true, true_or, or_true, not_true_eq_false, not_false_eq_true, nc0, nc1, nc2, nc3, nc4, nc5, nc6, nc7, nc8, nc9, nc10, nc11, nc12, nc13, nc14, nc15, nc16, nc17, nc18, nc19, nc20, nc21, nc22, nc23, nc35, nc47, nc59, nc60, nc61, nc73, nc74, nc214, nc215, nc1115, nc2230, nc3345, if_true, if_false, Int.reduceToNat, b01]
  · intro i hi ih h0 h1
    have nn := n64 (40 * t + i)
    rw [Mod_shows_13, ff_step hi]
    have i1 : ¬ i = -1 := by omega
    simp (disch := omega) only [Mod_shows_19, Mod_shows_45, Mod_shows_53, Mod_shows_55, wr_id, ix_id, okx, if_pos, if_neg, Int.toNat_of_nonneg, bak_v, bak_n, wr_b01, wr_bt, b01_or, b01_0, b01_1, lc_lt0, lc_gt0, lc_eq0, wl_wr, wr_wr, wl_id, true_and, and_true, true_or, or_true, not_true_eq_false, not_false_eq_true, nc0, nc1, nc2, nc3, nc4, nc5, nc6, nc7, nc8, nc9, nc10, nc11, nc12, nc13, nc14, nc15, nc16, nc17, nc18, nc19, nc20, nc21, nc22, nc23, nc35, nc47, nc59, nc60, nc61, nc73, nc74, nc214, nc215, nc1115, nc2230, nc3345, if_true, if_false, Int.reduceToNat, hm.k, hm.r1, hm.r2, hm.r3, hm.r4, hm.r15, hm.r16, hm.r19, hm.r23, hm.r24, hm.r25, hm.r26, hm.r29, hm.r30, hm.r31, hm.r33, hm.r34, hm.r35, hm.k73, hm.k74, hm.k75, hm.k76, hm.k77, hm.k78, hm.k79, hm.k80, hm.k81, hm.k82, hm.k83, hm.k84, hm.k85, hm.k86, hm.k87, hm.k88, hm.k89, hm.n73, hm.n74, hm.n75, hm.n76, hm.n77, hm.n78, hm.n79, hm.n80, hm.n81, hm.n82, hm.n83, hm.n84, hm.n85, hm.n86, hm.n87, hm.n88, hm.n89, w2, w5, ih]
    by_cases c1 : nb (40 * t + i) = -1
    · simp [c1]
    · by_cases c2 : nb (40 * t + i) = v
      · simp [c1, c2]
      · simp [c1, c2, i1, b01]
theorem m_shows {d : Nat} {h : Hp} {S nb : Int → Int} {oh or t : Int} (w : W6 h S nb oh or t) (n64 : N64 nb) (ht : t = -1 ∨ (0 ≤ t ∧ t < 4)) {a b v : Int} (ha : 0 ≤ a ∧ a ≤ 20) (hb : -1 ≤ b ∧ b ≤ 20) (hv : -5000 ≤ v ∧ v ≤ 5000) : cal (d+1) m_Mod_shows [.inr (.inr (72)), .inl (a), .inl (b), .inl (v)] (h) = some (.inl (b01 (shB nb t a b v = true)), h) := by
  have hm := w.1.1
  show EX (d) m_Mod_shows 0 [(0, .inr (.inr (72))), (1, .inl (a)), (2, .inl (b)), (3, .inl (v))] [] (h) = _
  have w5 := w.2.2.2.2
  rcases ht with c | c
  · subst c
    simp (disch := omega) only [Mod_shows_0, Mod_shows_8, wr_id, ix_id, okx, if_pos, if_neg, Int.toNat_of_nonneg, bak_v, bak_n, wr_b01, wr_bt, b01_or, b01_0, b01_1, lc_lt0, lc_gt0, lc_eq0, wl_wr, wr_wr, wl_id, true_and, and_true, true_or, or_true, not_true_eq_false, not_false_eq_true, nc0, nc1, nc2, nc3, nc4, nc5, nc6, nc7, nc8, nc9, nc10, nc11, nc12, nc13, nc14, nc15, nc16, nc17, nc18, nc19, nc20, nc21, nc22, nc23, nc35, nc47, nc59, nc60, nc61, nc73, nc74, nc214, nc215, nc1115, nc2230, nc3345, if_true, if_false, Int.reduceToNat, hm.k, w5]
    simp [shB, b01]
  · simp (disch := omega) only [Mod_shows_0, Mod_shows_10, wr_id, ix_id, okx, if_pos, if_neg, Int.toNat_of_nonneg, bak_v, bak_n, wr_b01, wr_bt, b01_or, b01_0, b01_1, lc_lt0, lc_gt0, lc_eq0, wl_wr, wr_wr, wl_id, true_and, and_true, true_or, or_true, not_true_eq_false, not_false_eq_true, nc0, nc1, nc2, nc3, nc4, nc5, nc6, nc7, nc8, nc9, nc10, nc11, nc12, nc13, nc14, nc15, nc16, nc17, nc18, nc19, nc20, nc21, nc22, nc23, nc35, nc47, nc59, nc60, nc61, nc73, nc74, nc214, nc215, nc1115, nc2230, nc3345, if_true, if_false, Int.reduceToNat, hm.k, w5]
    rw [m_shows_l w n64 c hb.2 hb.1 hv a ha.1 ha.2]
    have c' : ¬ t = -1 := by omega
    simp [shB, b01, c']
theorem m_follows {d : Nat} {h : Hp} {S nb : Int → Int} {oh or t : Int} (w : W6 h S nb oh or t) (n64 : N64 nb) (ht : t = -1 ∨ (0 ≤ t ∧ t < 4)) (ho : -1 ≤ oh ∧ oh ≤ 12) (hor : -1 ≤ or ∧ or ≤ 12) (g : Gd S) {x r y s : Int} (hx : -1 ≤ x ∧ x < y ∧ y < S 1) (hr : -1 ≤ r ∧ r < s ∧ s < S 2) (hxr : x = -1 ↔ r = -1) : cal (d+2) m_Mod_follows [.inr (.inr (72)), .inl (x), .inl (r), .inl (y), .inl (s)] (h) = some (.inl (b01 (FF S nb oh or t x r y s = true)), h) := by
  have hm := w.1.1
  have ga := g.a
  have gb := g.b
  have gk := g.1.2.2.2.2.2.2.2.2.1
  have w3 := w.2.2.1
  have w4 := w.2.2.2.1
  have e43 : EX (d+1) m_Mod_follows 43 [(0, .inr (.inr (72))), (1, .inl (x)), (2, .inl (r)), (3, .inl (y)), (4, .inl (s))] [] (h) = some (.inl (b01 (if x = -1 then shB nb t 0 s (-2) = true else (0 ≤ sagM S x r y s ∧ shB nb t r s (sagM S x r y s) = true))), h) := by
    by_cases c : x = -1
    · have e := m_shows (d := d) w n64 ht (a := 0) (b := s) (v := -2) (by omega) (by omega) (by omega)
      subst c
      simp (disch := omega) only [Mod_follows_43, Mod_follows_48, Mod_follows_57, wr_id, ix_id, okx, if_pos, if_neg, Int.toNat_of_nonneg, bak_v, bak_n, wr_b01, wr_bt, b01_or, b01_0, b01_1, lc_lt0, lc_gt0, lc_eq0, wl_wr, wr_wr, wl_id, true_and, and_true, true_or, or_true, not_true_eq_false, not_false_eq_true, nc0, nc1, nc2, nc3, nc4, nc5, nc6, nc7, nc8, nc9, nc10, nc11, nc12, nc13, nc14, nc15, nc16, nc17, nc18, nc19, nc20, nc21, nc22, nc23, nc35, nc47, nc59, nc60, nc61, nc73, nc74, nc214, nc215, nc1115, nc2230, nc3345, if_true, if_false, Int.reduceToNat, hm.k, e]
      by_cases q : shB nb t 0 s (-2) = true <;> simp [q]
    · have sg := g.1.sag (x := x) (r := r) (y := y) (s := s) (by omega) (by omega) (by omega) (by omega)
      have e1 := m_sag (d := d) w.1.rs (x1 := x) (x2 := r) (x3 := y) (x4 := s) (by omega) (by omega) (by omega) (by omega)
      have e2 := m_shows (d := d) w n64 ht (a := r) (b := s) (v := sagM S x r y s) (by omega) (by omega) (by omega)
      simp (disch := omega) only [Mod_follows_43, Mod_follows_58, Mod_follows_70, Mod_follows_77, Mod_follows_86, Mod_follows_89, Mod_follows_93, Mod_follows_94, wr_id, ix_id, okx, if_pos, if_neg, Int.toNat_of_nonneg, bak_v, bak_n, wr_b01, wr_bt, b01_or, b01_0, b01_1, lc_lt0, lc_gt0, lc_eq0, wl_wr, wr_wr, wl_id, true_and, and_true, true_or, or_true, not_true_eq_false, not_false_eq_true, nc0, nc1, nc2, nc3, nc4, nc5, nc6, nc7, nc8, nc9, nc10, nc11, nc12, nc13, nc14, nc15, nc16, nc17, nc18, nc19, nc20, nc21, nc22, nc23, nc35, nc47, nc59, nc60, nc61, nc73, nc74, nc214, nc215, nc1115, nc2230, nc3345, if_true, if_false, Int.reduceToNat, hm.k, hm.r1, e1, e2, c]
      unfold b01
      by_cases c1 : sagM S x r y s < 0
      · have c1' : ¬ 0 ≤ sagM S x r y s := by omega
        simp [c1, c1']
      · have c1' : 0 ≤ sagM S x r y s := by omega
        by_cases c2 : shB nb t r s (sagM S x r y s) = true <;> simp [c1, c1', c2]
  show EX (d+1) m_Mod_follows 0 [(0, .inr (.inr (72))), (1, .inl (x)), (2, .inl (r)), (3, .inl (y)), (4, .inl (s))] [] (h) = _
  unfold FF
  rcases bt_01 (S 10) s with e | e
  · by_cases c1 : y = oh
    · by_cases c2 : or = -1
      · simp (disch := omega) only [Mod_follows_0, Mod_follows_13, Mod_follows_16, Mod_follows_24, Mod_follows_32, Mod_follows_41, wr_id, ix_id, okx, if_pos, if_neg, Int.toNat_of_nonneg, bak_v, bak_n, wr_b01, wr_bt, b01_or, b01_0, b01_1, lc_lt0, lc_gt0, lc_eq0, wl_wr, wr_wr, wl_id, true_and, and_true, true_or, or_true, not_true_eq_false, not_false_eq_true, nc0, nc1, nc2, nc3, nc4, nc5, nc6, nc7, nc8, nc9, nc10, nc11, nc12, nc13, nc14, nc15, nc16, nc17, nc18, nc19, nc20, nc21, nc22, nc23, nc35, nc47, nc59, nc60, nc61, nc73, nc74, nc214, nc215, nc1115, nc2230, nc3345, if_true, if_false, Int.reduceToNat, hm.k, hm.r1, hm.r2, hm.r3, hm.r4, hm.r15, hm.r16, hm.r19, hm.r23, hm.r24, hm.r25, hm.r26, hm.r29, hm.r30, hm.r31, hm.r33, hm.r34, hm.r35, hm.k73, hm.k74, hm.k75, hm.k76, hm.k77, hm.k78, hm.k79, hm.k80, hm.k81, hm.k82, hm.k83, hm.k84, hm.k85, hm.k86, hm.k87, hm.k88, hm.k89, hm.n73, hm.n74, hm.n75, hm.n76, hm.n77, hm.n78, hm.n79, hm.n80, hm.n81, hm.n82, hm.n83, hm.n84, hm.n85, hm.n86, hm.n87, hm.n88, hm.n89, w.1.2, w3, w4, m_isIn, e]
        simp [b01, c1, c2]
      · by_cases c3 : or = s
        · simp (disch := omega) only [Mod_follows_0, Mod_follows_13, Mod_follows_16, Mod_follows_24, Mod_follows_32, Mod_follows_41, wr_id, ix_id, okx, if_pos, if_neg, Int.toNat_of_nonneg, bak_v, bak_n, wr_b01, wr_bt, b01_or, b01_0, b01_1, lc_lt0, lc_gt0, lc_eq0, wl_wr, wr_wr, wl_id, true_and, and_true, true_or, or_true, not_true_eq_false, not_false_eq_true, nc0, nc1, nc2, nc3, nc4, nc5, nc6, nc7, nc8, nc9, nc10, nc11, nc12, nc13, nc14, nc15, nc16, nc17, nc18, nc19, nc20, nc21, nc22, nc23, nc35, nc47, nc59, nc60, nc61, nc73, nc74, nc214, nc215, nc1115, nc2230, nc3345, if_true, if_false, Int.reduceToNat, hm.k, hm.r1, hm.r2, hm.r3, hm.r4, hm.r15, hm.r16, hm.r19, hm.r23, hm.r24, hm.r25, hm.r26, hm.r29, hm.r30, hm.r31, hm.r33, hm.r34, hm.r35, hm.k73, hm.k74, hm.k75, hm.k76, hm.k77, hm.k78, hm.k79, hm.k80, hm.k81, hm.k82, hm.k83, hm.k84, hm.k85, hm.k86, hm.k87, hm.k88, hm.k89, hm.n73, hm.n74, hm.n75, hm.n76, hm.n77, hm.n78, hm.n79, hm.n80, hm.n81, hm.n82, hm.n83, hm.n84, hm.n85, hm.n86, hm.n87, hm.n88, hm.n89, w.1.2, w3, w4, m_isIn, e]
          simp [b01, c1, c3]
        · rw [show m_Mod_follows = 185 from rfl] at e43
          simp (disch := omega) only [Mod_follows_0, Mod_follows_13, Mod_follows_16, Mod_follows_24, Mod_follows_32, Mod_follows_41, wr_id, ix_id, okx, if_pos, if_neg, Int.toNat_of_nonneg, bak_v, bak_n, wr_b01, wr_bt, b01_or, b01_0, b01_1, lc_lt0, lc_gt0, lc_eq0, wl_wr, wr_wr, wl_id, true_and, and_true, true_or, or_true, not_true_eq_false, not_false_eq_true, nc0, nc1, nc2, nc3, nc4, nc5, nc6, nc7, nc8, nc9, nc10, nc11, nc12, nc13, nc14, nc15, nc16, nc17, nc18, nc19, nc20, nc21, nc22, nc23, nc35, nc47, nc59, nc60, nc61, nc73, nc74, nc214, nc215, nc1115, nc2230, nc3345, if_true, if_false, Int.reduceToNat, hm.k, hm.r1, hm.r2, hm.r3, hm.r4, hm.r15, hm.r16, hm.r19, hm.r23, hm.r24, hm.r25, hm.r26, hm.r29, hm.r30, hm.r31, hm.r33, hm.r34, hm.r35, hm.k73, hm.k74, hm.k75, hm.k76, hm.k77, hm.k78, hm.k79, hm.k80, hm.k81, hm.k82, hm.k83, hm.k84, hm.k85, hm.k86, hm.k87, hm.k88, hm.k89, hm.n73, hm.n74, hm.n75, hm.n76, hm.n77, hm.n78, hm.n79, hm.n80, hm.n81, hm.n82, hm.n83, hm.n84, hm.n85, hm.n86, hm.n87, hm.n88, hm.n89, w.1.2, w3, w4, m_isIn, e, e43]
          simp [b01, c2, c3, e]
    · rw [show m_Mod_follows = 185 from rfl] at e43
      simp (disch := omega) only [Mod_follows_0, Mod_follows_13, Mod_follows_16, Mod_follows_24, Mod_follows_32, Mod_follows_41, wr_id, ix_id, okx, if_pos, if_neg, Int.toNat_of_nonneg, bak_v, bak_n, wr_b01, wr_bt, b01_or, b01_0, b01_1, lc_lt0, lc_gt0, lc_eq0, wl_wr, wr_wr, wl_id, true_and, and_true, true_or, or_true, not_true_eq_false, not_false_eq_true, nc0, nc1, nc2, nc3, nc4, nc5, nc6, nc7, nc8, nc9, nc10, nc11, nc12, nc13, nc14, nc15, nc16, nc17, nc18, nc19, nc20, nc21, nc22, nc23, nc35, nc47, nc59, nc60, nc61, nc73, nc74, nc214, nc215, nc1115, nc2230, nc3345, if_true, if_false, Int.reduceToNat, hm.k, hm.r1, hm.r2, hm.r3, hm.r4, hm.r15, hm.r16, hm.r19, hm.r23, hm.r24, hm.r25, hm.r26, hm.r29, hm.r30, hm.r31, hm.r33, hm.r34, hm.r35, hm.k73, hm.k74, hm.k75, hm.k76, hm.k77, hm.k78, hm.k79, hm.k80, hm.k81, hm.k82, hm.k83, hm.k84, hm.k85, hm.k86, hm.k87, hm.k88, hm.k89, hm.n73, hm.n74, hm.n75, hm.n76, hm.n77, hm.n78, hm.n79, hm.n80, hm.n81, hm.n82, hm.n83, hm.n84, hm.n85, hm.n86, hm.n87, hm.n88, hm.n89, w.1.2, w3, w4, m_isIn, e, e43]
      simp [b01, c1, e]
  · simp (disch := omega) only [Mod_follows_0, Mod_follows_13, Mod_follows_41, wr_id, ix_id, okx, if_pos, if_neg, Int.toNat_of_nonneg, bak_v, bak_n, wr_b01, wr_bt, b01_or, b01_0, b01_1, lc_lt0, lc_gt0, lc_eq0, wl_wr, wr_wr, wl_id, true_and, and_true, true_or, or_true, not_true_eq_false, not_false_eq_true, nc0, nc1, nc2, nc3, nc4, nc5, nc6, nc7, nc8, nc9, nc10, nc11, nc12, nc13, nc14, nc15, nc16, nc17, nc18, nc19, nc20, nc21, nc22, nc23, nc35, nc47, nc59, nc60, nc61, nc73, nc74, nc214, nc215, nc1115, nc2230, nc3345, if_true, if_false, Int.reduceToNat, hm.k, hm.r1, hm.r2, hm.r3, hm.r4, hm.r15, hm.r16, hm.r19, hm.r23, hm.r24, hm.r25, hm.r26, hm.r29, hm.r30, hm.r31, hm.r33, hm.r34, hm.r35, hm.k73, hm.k74, hm.k75, hm.k76, hm.k77, hm.k78, hm.k79, hm.k80, hm.k81, hm.k82, hm.k83, hm.k84, hm.k85, hm.k86, hm.k87, hm.k88, hm.k89, hm.n73, hm.n74, hm.n75, hm.n76, hm.n77, hm.n78, hm.n79, hm.n80, hm.n81, hm.n82, hm.n83, hm.n84, hm.n85, hm.n86, hm.n87, hm.n88, hm.n89, w.1.2, m_isIn, e]
    simp [b01, e]
