/-! the model: fullAt -/
theorem FF_plain (S nb : Int → Int) {x r g s : Int} (hg : 0 ≤ g) : FF S nb (-1) (-1) (-1) x r g s = Fpl S x r g s := by
  have c : ¬ g = -1 := by omega
  unfold FF Fpl
  by_cases c2 : x = -1 <;> simp [shB, c, c2]
theorem hwF_m (S : Int → Int) (z : Int) : ∀ (m m' : Nat) (g x r n k : Int), g ≤ z → z < g + m → z < g + m' → hwF S z m g x r n k = hwF S z m' g x r n k := by
  intro m
  induction m with
  | zero => intro m' g x r n k h1 h2 h3; omega
  | succ m ih =>
    intro m' g x r n k h1 h2 h3
    cases m' with
    | zero => omega
    | succ m' =>
      simp only [hwF]
      by_cases c : g = z
      · rw [if_pos c, if_pos c]
      · rw [if_neg c, if_neg c]
        rw [ih m' (g + 1) x r n k (by omega) (by omega) (by omega), ih m' (g + 1) x r n (sc (wtF S x r g n) (r + 1) (S 2) k).2 (by omega) (by omega) (by omega), ih m' (g + 1) g (sc (wtF S x r g n) (r + 1) (S 2) k).1 (n - 1) (sc (wtF S x r g n) (r + 1) (S 2) k).2 (by omega) (by omega) (by omega)]
theorem m_foundNone_l {d : Nat} : ∀ i, 0 ≤ i → i ≤ 12 → ∀ h, MR h → (∀ k : Nat, (k : Int) < i → hI h 80 k = -1) → ∃ h', EX (d) m_Mod_foundNone 2 [(0, .inr (.inr (72))), (1, .inl (i))] [] (h) = some (.inl 0, h') ∧ (∀ k : Nat, k < 12 → hI h' 80 k = -1) ∧ Fr (fun a _ => a = 80) h h' := by
  refine up_ind (hi := 12) ?_ ?_
  · intro i hi h0 h1 h hm hk
    refine ⟨h, ?_, fun k hk' => hk k (by omega), Fr.rf⟩
    rw [Mod_foundNone_2]
    simp (disch := omega) only [Mod_foundNone_0, Mod_foundNone_8, Mod_foundNone_15, Mod_foundNone_21, wr_id, ix_id, okx, if_pos, if_neg, Int.toNat_of_nonneg, bak_v, bak_n, wr_b01, wr_bt, b01_or, b01_0, b01_1, lc_lt0, lc_gt0, lc_eq0, wl_wr, wr_wr, wl_id, true_and, and_true, true_or, or_true, not_true_eq_false, not_false_eq_true, nc0, nc1, nc2, nc3, nc4, nc5, nc6, nc7, nc8, nc9, nc10, nc11, nc12, nc13, nc14, nc15, nc16, nc17, nc18, nc19, nc20, nc21, nc22, nc23, nc35, nc47, nc59, nc60, nc61, nc73, nc74, nc214, nc215, nc1115, nc2230, nc3345, if_true, if_false, Int.reduceToNat]
  · intro i hi ih h0 h1 h hm hk
    obtain ⟨h', e, k1, f1⟩ := ih (by omega) (by omega) (pI h 80 i.toNat (-1)) (hm.pI _ _ _) (fun k hk' => by
      rw [hI_pI]
      by_cases c : k = i.toNat
      · rw [if_pos ⟨rfl, c⟩]
      · rw [if_neg (fun q => c q.2)]; exact hk k (by omega))
    refine ⟨h', ?_, k1, Fr.tr (Fr.pI Fr.rf (by rfl)) f1⟩
    rw [Mod_foundNone_2]
    simp (disch := omega) only [Mod_foundNone_0, Mod_foundNone_8, Mod_foundNone_15, Mod_foundNone_21, wr_id, ix_id, okx, if_pos, if_neg, Int.toNat_of_nonneg, bak_v, bak_n, wr_b01, wr_bt, b01_or, b01_0, b01_1, lc_lt0, lc_gt0, lc_eq0, wl_wr, wr_wr, wl_id, true_and, and_true, true_or, or_true, not_true_eq_false, not_false_eq_true, nc0, nc1, nc2, nc3, nc4, nc5, nc6, nc7, nc8, nc9, nc10, nc11, nc12, nc13, nc14, nc15, nc16, nc17, nc18, nc19, nc20, nc21, nc22, nc23, nc35, nc47, nc59, nc60, nc61, nc73, nc74, nc214, nc215, nc1115, nc2230, nc3345, if_true, if_false, Int.reduceToNat, hm.k, hm.r1, hm.r2, hm.r3, hm.r4, hm.r15, hm.r16, hm.r19, hm.r23, hm.r24, hm.r25, hm.r26, hm.r29, hm.r30, hm.r31, hm.r33, hm.r34, hm.r35, hm.k73, hm.k74, hm.k75, hm.k76, hm.k77, hm.k78, hm.k79, hm.k80, hm.k81, hm.k82, hm.k83, hm.k84, hm.k85, hm.k86, hm.k87, hm.k88, hm.k89, hm.n73, hm.n74, hm.n75, hm.n76, hm.n77, hm.n78, hm.n79, hm.n80, hm.n81, hm.n82, hm.n83, hm.n84, hm.n85, hm.n86, hm.n87, hm.n88, hm.n89, e]
theorem m_foundNone {d : Nat} {h : Hp} (hm : MR h) : ∃ h', cal (d+1) m_Mod_foundNone [.inr (.inr (72))] (h) = some (.inl 0, h') ∧ (∀ k : Nat, k < 12 → hI h' 80 k = -1) ∧ Fr (fun a _ => a = 80) h h' := by
  obtain ⟨h', e, k, f⟩ := m_foundNone_l (d := d) 0 (by omega) (by omega) h hm (fun k hk => by omega)
  refine ⟨h', ?_, k, f⟩
  show EX (d) m_Mod_foundNone 0 [(0, .inr (.inr (72)))] [] (h) = _
  rw [Mod_foundNone_0, e]
/-- the plain tables lie in the heap -/
def PT (h : Hp) (S nb : Int → Int) : Prop := W6 h S nb (-1) (-1) (-1) ∧ ∀ z, -1 ≤ z → z < S 1 → tabY h (FF S nb (-1) (-1) (-1)) (BB S nb (-1)) (S 1) (S 2) z
theorem PT.fr {h h' : Hp} {S nb : Int → Int} (p : PT h S nb) {q : Nat → Nat → Prop} (f : Fr q h h') (hq : ∀ a k, q a k → 80 ≤ a ∧ a ≤ 86) : PT h' S nb := ⟨p.1.fr f (fun a k c => by have := hq a k c; omega), fun z z1 z2 s s1 s2 s3 m m0 m1 => by rw [f.L (fun c => by have := hq _ _ c; omega)]; exact p.2 z z1 z2 s s1 s2 s3 m m0 m1⟩
theorem PT.at {h : Hp} {S nb : Int → Int} (p : PT h S nb) {y s m : Int} (hy : 0 ≤ y ∧ y < S 1) (hs : 0 ≤ s ∧ s < S 2) (hm : 0 ≤ m ∧ m ≤ 12) : hL h 79 (169 * (y + 1) + 13 * (s + 1) + m).toNat = Cpl S m y s := by
  have := p.2 y (by omega) (by omega) s (by omega) (by omega) (by omega) m hm.1 hm.2
  rw [this]
  exact Ctr_plain S nb m (by omega) (by omega)
theorem PT.follows {d : Nat} {h : Hp} {S nb : Int → Int} (p : PT h S nb) (n64 : N64 nb) (g : Gd S) {x r y s : Int} (hx : -1 ≤ x ∧ x < y ∧ y < S 1) (hr : -1 ≤ r ∧ r < s ∧ s < S 2) (hxr : x = -1 ↔ r = -1) : cal (d+2) m_Mod_follows [.inr (.inr (72)), .inl (x), .inl (r), .inl (y), .inl (s)] (h) = some (.inl (b01 (Fpl S x r y s = true)), h) := by
  rw [m_follows p.1 n64 (Or.inl rfl) (by omega) (by omega) g hx hr hxr, FF_plain S nb (by omega)]
theorem wtF_le {S : Int → Int} (gd : Gd S) (x r n : Int) {g s : Int} (hg : 0 ≤ g ∧ g < S 1) (hs : 0 ≤ s ∧ s < S 2) : wtF S x r g n s ≤ Cpl S (n - 1) g s := by
  have := Cpl_rng gd (n - 1) (x := g) (r := s) (by omega) (by omega)
  unfold wtF
  split <;> omega
theorem m_fA_1 {d : Nat} {h : Hp} {S nb : Int → Int} (p : PT h S nb) (n64 : N64 nb) (gd : Gd S) {z n x r g : Int} (hx : -1 ≤ x ∧ x < g ∧ g < S 1) (hr : -1 ≤ r ∧ r < S 2) (hxr : x = -1 ↔ r = -1) (hn : 1 ≤ n ∧ n ≤ 12) : ∀ s, r + 1 ≤ s → s ≤ 12 → ∀ k, (0 ≤ k ∧ k ≤ 2147483647) → EX (d+2) m_Mod_fullAt 98 [(0, .inr (.inr (72))), (2, .inl (z)), (3, .inl (n)), (4, .inr (.inl (k))), (6, .inl (x)), (7, .inl (r)), (8, .inl (x)), (9, .inl (r)), (10, .inl (g)), (11, .inl (s))] [] (h) = EX (d+2) m_Mod_fullAt 192 [(0, .inr (.inr (72))), (2, .inl (z)), (3, .inl (n)), (4, .inr (.inl ((sc (wtF S x r g n) s (S 2) k).2))), (6, .inl (x)), (7, .inl (r)), (8, .inl (if (sc (wtF S x r g n) s (S 2) k).1 = -1 then x else g)), (9, .inl (if (sc (wtF S x r g n) s (S 2) k).1 = -1 then r else (sc (wtF S x r g n) s (S 2) k).1)), (10, .inl (g))] [] (h) := by
  have ga := gd.a
  have gb := gd.b
  have ms := p.1.1
  have hm := ms.1
  refine up_ind (hi := S 2) ?_ ?_
  · intro s hs h0 h1 k hk
    rw [Mod_fullAt_98, sc_stop hs]
    simp (disch := omega) only [wr_id, ix_id, okx, if_pos, if_neg, Int.toNat_of_nonneg, bak_v, bak_n, wr_b01, wr_bt, b01_or, b01_0, b01_1, lc_lt0, lc_gt0, lc_eq0, wl_wr, wr_wr, wl_id, true_and, and_true, true_or, or_true, not_true_eq_false, not_false_eq_true, nc0, nc1, nc2, nc3, nc4, nc5, nc6, nc7, nc8, nc9, nc10, nc11, nc12, nc13, nc14, nc15, nc16, nc17, nc18, nc19, nc20, nc21, nc22, nc23, nc35, nc47, nc59, nc60, nc61, nc73, nc74, nc214, nc215, nc1115, nc2230, nc3345, if_true, if_false, Int.reduceToNat, hm.k, hm.r1, hm.r2, hm.r3, hm.r4, hm.r15, hm.r16, hm.r19, hm.r23, hm.r24, hm.r25, hm.r26, hm.r29, hm.r30, hm.r31, hm.r33, hm.r34, hm.r35, hm.k73, hm.k74, hm.k75, hm.k76, hm.k77, hm.k78, hm.k79, hm.k80, hm.k81, hm.k82, hm.k83, hm.k84, hm.k85, hm.k86, hm.k87, hm.k88, hm.k89, hm.n73, hm.n74, hm.n75, hm.n76, hm.n77, hm.n78, hm.n79, hm.n80, hm.n81, hm.n82, hm.n83, hm.n84, hm.n85, hm.n86, hm.n87, hm.n88, hm.n89, ms.2]
  · intro s hs ih h0 h1 k hk
    have ef := p.follows (d := d) n64 gd (x := x) (r := r) (y := g) (s := s) hx (by omega) hxr
    have et := p.at (y := g) (s := s) (m := n - 1) (by omega) (by omega) (by omega)
    have cr := Cpl_rng gd (n - 1) (x := g) (r := s) (by omega) (by omega)
    rw [Mod_fullAt_98, sc_step hs]
    by_cases c : Fpl S x r g s = true
    · have ew : wtF S x r g n s = Cpl S (n - 1) g s := by unfold wtF; rw [if_pos c]
      rw [ew]
      by_cases c2 : k < Cpl S (n - 1) g s
      · rw [if_pos c2]
        have c3 : ¬ s = -1 := by omega
        simp (disch := omega) only [Mod_fullAt_109, Mod_fullAt_116, Mod_fullAt_128, Mod_fullAt_134, Mod_fullAt_150, Mod_fullAt_178, Mod_fullAt_186, wr_id, ix_id, okx, if_pos, if_neg, Int.toNat_of_nonneg, bak_v, bak_n, wr_b01, wr_bt, b01_or, b01_0, b01_1, lc_lt0, lc_gt0, lc_eq0, wl_wr, wr_wr, wl_id, true_and, and_true, true_or, or_true, not_true_eq_false, not_false_eq_true, nc0, nc1, nc2, nc3, nc4, nc5, nc6, nc7, nc8, nc9, nc10, nc11, nc12, nc13, nc14, nc15, nc16, nc17, nc18, nc19, nc20, nc21, nc22, nc23, nc35, nc47, nc59, nc60, nc61, nc73, nc74, nc214, nc215, nc1115, nc2230, nc3345, if_true, if_false, Int.reduceToNat, hm.k, hm.r1, hm.r2, hm.r3, hm.r4, hm.r15, hm.r16, hm.r19, hm.r23, hm.r24, hm.r25, hm.r26, hm.r29, hm.r30, hm.r31, hm.r33, hm.r34, hm.r35, hm.k73, hm.k74, hm.k75, hm.k76, hm.k77, hm.k78, hm.k79, hm.k80, hm.k81, hm.k82, hm.k83, hm.k84, hm.k85, hm.k86, hm.k87, hm.k88, hm.k89, hm.n73, hm.n74, hm.n75, hm.n76, hm.n77, hm.n78, hm.n79, hm.n80, hm.n81, hm.n82, hm.n83, hm.n84, hm.n85, hm.n86, hm.n87, hm.n88, hm.n89, ms.2, ef, c, m_spot, et]
        rw [Mod_fullAt_98]
        by_cases c4 : s + 1 < S 2
        · simp (disch := omega) only [Mod_fullAt_109, wr_id, ix_id, okx, if_pos, if_neg, Int.toNat_of_nonneg, bak_v, bak_n, wr_b01, wr_bt, b01_or, b01_0, b01_1, lc_lt0, lc_gt0, lc_eq0, wl_wr, wr_wr, wl_id, true_and, and_true, true_or, or_true, not_true_eq_false, not_false_eq_true, nc0, nc1, nc2, nc3, nc4, nc5, nc6, nc7, nc8, nc9, nc10, nc11, nc12, nc13, nc14, nc15, nc16, nc17, nc18, nc19, nc20, nc21, nc22, nc23, nc35, nc47, nc59, nc60, nc61, nc73, nc74, nc214, nc215, nc1115, nc2230, nc3345, if_true, if_false, Int.reduceToNat, hm.k, hm.r1, hm.r2, hm.r3, hm.r4, hm.r15, hm.r16, hm.r19, hm.r23, hm.r24, hm.r25, hm.r26, hm.r29, hm.r30, hm.r31, hm.r33, hm.r34, hm.r35, hm.k73, hm.k74, hm.k75, hm.k76, hm.k77, hm.k78, hm.k79, hm.k80, hm.k81, hm.k82, hm.k83, hm.k84, hm.k85, hm.k86, hm.k87, hm.k88, hm.k89, hm.n73, hm.n74, hm.n75, hm.n76, hm.n77, hm.n78, hm.n79, hm.n80, hm.n81, hm.n82, hm.n83, hm.n84, hm.n85, hm.n86, hm.n87, hm.n88, hm.n89, ms.2]
        · simp (disch := omega) only [wr_id, ix_id, okx, if_pos, if_neg, Int.toNat_of_nonneg, bak_v, bak_n, wr_b01, wr_bt, b01_or, b01_0, b01_1, lc_lt0, lc_gt0, lc_eq0, wl_wr, wr_wr, wl_id, true_and, and_true, true_or, or_true, not_true_eq_false, not_false_eq_true, nc0, nc1, nc2, nc3, nc4, nc5, nc6, nc7, nc8, nc9, nc10, nc11, nc12, nc13, nc14, nc15, nc16, nc17, nc18, nc19, nc20, nc21, nc22, nc23, nc35, nc47, nc59, nc60, nc61, nc73, nc74, nc214, nc215, nc1115, nc2230, nc3345, if_true, if_false, Int.reduceToNat, hm.k, hm.r1, hm.r2, hm.r3, hm.r4, hm.r15, hm.r16, hm.r19, hm.r23, hm.r24, hm.r25, hm.r26, hm.r29, hm.r30, hm.r31, hm.r33, hm.r34, hm.r35, hm.k73, hm.k74, hm.k75, hm.k76, hm.k77, hm.k78, hm.k79, hm.k80, hm.k81, hm.k82, hm.k83, hm.k84, hm.k85, hm.k86, hm.k87, hm.k88, hm.k89, hm.n73, hm.n74, hm.n75, hm.n76, hm.n77, hm.n78, hm.n79, hm.n80, hm.n81, hm.n82, hm.n83, hm.n84, hm.n85, hm.n86, hm.n87, hm.n88, hm.n89, ms.2]
      · rw [if_neg c2]
        simp (disch := omega) only [Mod_fullAt_109, Mod_fullAt_116, Mod_fullAt_128, Mod_fullAt_134, Mod_fullAt_150, Mod_fullAt_155, Mod_fullAt_171, Mod_fullAt_186, wr_id, ix_id, okx, if_pos, if_neg, Int.toNat_of_nonneg, bak_v, bak_n, wr_b01, wr_bt, b01_or, b01_0, b01_1, lc_lt0, lc_gt0, lc_eq0, wl_wr, wr_wr, wl_id, true_and, and_true, true_or, or_true, not_true_eq_false, not_false_eq_true, nc0, nc1, nc2, nc3, nc4, nc5, nc6, nc7, nc8, nc9, nc10, nc11, nc12, nc13, nc14, nc15, nc16, nc17, nc18, nc19, nc20, nc21, nc22, nc23, nc35, nc47, nc59, nc60, nc61, nc73, nc74, nc214, nc215, nc1115, nc2230, nc3345, if_true, if_false, Int.reduceToNat, hm.k, hm.r1, hm.r2, hm.r3, hm.r4, hm.r15, hm.r16, hm.r19, hm.r23, hm.r24, hm.r25, hm.r26, hm.r29, hm.r30, hm.r31, hm.r33, hm.r34, hm.r35, hm.k73, hm.k74, hm.k75, hm.k76, hm.k77, hm.k78, hm.k79, hm.k80, hm.k81, hm.k82, hm.k83, hm.k84, hm.k85, hm.k86, hm.k87, hm.k88, hm.k89, hm.n73, hm.n74, hm.n75, hm.n76, hm.n77, hm.n78, hm.n79, hm.n80, hm.n81, hm.n82, hm.n83, hm.n84, hm.n85, hm.n86, hm.n87, hm.n88, hm.n89, ms.2, ef, c, m_spot, et]
        exact ih (by omega) (by omega) _ (by omega)
    · have ew : wtF S x r g n s = 0 := by unfold wtF; rw [if_neg c]
      rw [ew, if_neg (show ¬ k < 0 by omega), Int.sub_zero]
      have c' : Fpl S x r g s = false := by simpa using c
      rw [c'] at ef
      simp (disch := omega) only [Mod_fullAt_109, Mod_fullAt_116, Mod_fullAt_128, Mod_fullAt_131, Mod_fullAt_186, wr_id, ix_id, okx, if_pos, if_neg, Int.toNat_of_nonneg, bak_v, bak_n, wr_b01, wr_bt, b01_or, b01_0, b01_1, lc_lt0, lc_gt0, lc_eq0, wl_wr, wr_wr, wl_id, true_and, and_true, true_or, or_true, not_true_eq_false, not_false_eq_true, nc0, nc1, nc2, nc3, nc4, nc5, nc6, nc7, nc8, nc9, nc10, nc11, nc12, nc13, nc14, nc15, nc16, nc17, nc18, nc19, nc20, nc21, nc22, nc23, nc35, nc47, nc59, nc60, nc61, nc73, nc74, nc214, nc215, nc1115, nc2230, nc3345, if_true, if_false, Int.reduceToNat, hm.k, hm.r1, hm.r2, hm.r3, hm.r4, hm.r15, hm.r16, hm.r19, hm.r23, hm.r24, hm.r25, hm.r26, hm.r29, hm.r30, hm.r31, hm.r33, hm.r34, hm.r35, hm.k73, hm.k74, hm.k75, hm.k76, hm.k77, hm.k78, hm.k79, hm.k80, hm.k81, hm.k82, hm.k83, hm.k84, hm.k85, hm.k86, hm.k87, hm.k88, hm.k89, hm.n73, hm.n74, hm.n75, hm.n76, hm.n77, hm.n78, hm.n79, hm.n80, hm.n81, hm.n82, hm.n83, hm.n84, hm.n85, hm.n86, hm.n87, hm.n88, hm.n89, ms.2, ef]
      simp only [Bool.false_eq_true, not_false_eq_true, if_true]
      exact ih (by omega) (by omega) _ hk
theorem m_fA_2 {d : Nat} {S nb : Int → Int} (n64 : N64 nb) (gd : Gd S) {z : Int} (hz : 0 ≤ z ∧ z < S 1) : ∀ (m : Nat) (g x r n k : Int) (f : Int → Int) (h : Hp), g + m = S 1 → (-1 ≤ x ∧ x < g) → (-1 ≤ r ∧ r < S 2) → (x = -1 ↔ r = -1) → (1 ≤ n ∧ n ≤ 12) → 0 ≤ k → k ≤ 2147483647 → k < sm (fun g => sm (wtF S x r g n) (r + 1) (S 2)) g (S 1) → PT h S nb → (∀ j : Nat, j < 12 → hI h 80 j = f j) → (∀ j, g ≤ j → j < 12 → f j = -1) → ∃ h', EX (d+2) m_Mod_fullAt 74 [(0, .inr (.inr (72))), (2, .inl (z)), (3, .inl (n)), (4, .inr (.inl (k))), (6, .inl (x)), (7, .inl (r)), (8, .inl (x)), (9, .inl (r)), (10, .inl (g))] [] (h) = some (.inl (if z < g then f z else hwF S z m g x r n k), h') ∧ Fr (fun a _ => a = 80) h h' := by
  have ga := gd.a
  have gb := gd.b
  intro m
  induction m with
  | zero =>
    intro g x r n k f h hg hx hr hxr hn k0 k1 ks
    rw [sm_stop (by omega)] at ks
    omega
  | succ m ih =>
    intro g x r n k f h hg hx hr hxr hn k0 k1 ks p vf vn
    have ms := p.1.1
    have hm := ms.1
    have e := m_fA_1 (d := d) p n64 gd (z := z) (n := n) (x := x) (r := r) (g := g) (by omega) hr hxr hn (r + 1) (by omega) (by omega) k ⟨k0, k1⟩
    have sp := sc_spec (w := wtF S x r g n) (R := S 2) (r + 1) (by omega) (fun j h1 h2 => (wtF_rng gd x r n (g := g) (s := j) (by omega) (by omega)).1) k k0
    rw [sm_step (by omega)] at ks
    rw [show m_Mod_fullAt = 223 from rfl] at e
    simp only [hwF]
    rcases sp with ⟨q1, q2, q3⟩ | ⟨q1, q2, q3, q4, q5⟩
    · obtain ⟨h', e2, f2⟩ := ih (g + 1) x r n (k - sm (wtF S x r g n) (r + 1) (S 2)) f h (by omega) (by omega) hr hxr hn (by omega) (by
          have := sm_nn (f := wtF S x r g n) (N := S 2) (r + 1) (fun j h1 h2 => (wtF_rng gd x r n (g := g) (s := j) (by omega) (by omega)).1)
          omega) (by omega) p vf (fun j h1 h2 => vn j (by omega) h2)
      refine ⟨h', ?_, f2⟩
      rw [Mod_fullAt_74]
      simp (disch := omega) only [Mod_fullAt_85, Mod_fullAt_92, wr_id, ix_id, okx, if_pos, if_neg, Int.toNat_of_nonneg, bak_v, bak_n, wr_b01, wr_bt, b01_or, b01_0, b01_1, lc_lt0, lc_gt0, lc_eq0, wl_wr, wr_wr, wl_id, true_and, and_true, true_or, or_true, not_true_eq_false, not_false_eq_true, nc0, nc1, nc2, nc3, nc4, nc5, nc6, nc7, nc8, nc9, nc10, nc11, nc12, nc13, nc14, nc15, nc16, nc17, nc18, nc19, nc20, nc21, nc22, nc23, nc35, nc47, nc59, nc60, nc61, nc73, nc74, nc214, nc215, nc1115, nc2230, nc3345, if_true, if_false, Int.reduceToNat, hm.k, hm.r1, hm.r2, hm.r3, hm.r4, hm.r15, hm.r16, hm.r19, hm.r23, hm.r24, hm.r25, hm.r26, hm.r29, hm.r30, hm.r31, hm.r33, hm.r34, hm.r35, hm.k73, hm.k74, hm.k75, hm.k76, hm.k77, hm.k78, hm.k79, hm.k80, hm.k81, hm.k82, hm.k83, hm.k84, hm.k85, hm.k86, hm.k87, hm.k88, hm.k89, hm.n73, hm.n74, hm.n75, hm.n76, hm.n77, hm.n78, hm.n79, hm.n80, hm.n81, hm.n82, hm.n83, hm.n84, hm.n85, hm.n86, hm.n87, hm.n88, hm.n89, ms.2]
      refine e.trans ?_
      rw [q1, q2, if_pos rfl, if_pos rfl, Mod_fullAt_192]
      refine e2.trans ?_
      by_cases c1 : z < g
      · rw [if_pos (by omega), if_pos c1]
      · rw [if_neg c1]
        by_cases c2 : g = z
        · rw [if_pos (by omega), if_pos c2]
          rw [vn z (by omega) (by omega)]
        · rw [if_neg (by omega), if_neg c2]
    · have wb := wtF_rng gd x r n (g := g) (s := (sc (wtF S x r g n) (r + 1) (S 2) k).1) (by omega) (by omega)
      have wc : (sc (wtF S x r g n) (r + 1) (S 2) k).2 < Cpl S (n - 1) g (sc (wtF S x r g n) (r + 1) (S 2) k).1 := by
        exact Int.lt_of_lt_of_le q4 (wtF_le gd x r n (by omega) (by omega))
      generalize sc (wtF S x r g n) (r + 1) (S 2) k = q at *
      have cq : ¬ q.1 = -1 := by omega
      have f0 : Fr (fun a _ => a = 80) h (pI h 80 g.toNat q.1) := Fr.pI Fr.rf (by rfl)
      have p1 := p.fr f0 (fun a k c => by omega)
      have hm1 := p1.1.1.1
      have vf1 : ∀ j : Nat, j < 12 → hI (pI h 80 g.toNat q.1) 80 j = up f g q.1 j := fun j hj => by
        rw [hI_pI]
        unfold up
        by_cases c : j = g.toNat
        · rw [if_pos ⟨rfl, c⟩, if_pos (by omega)]
        · rw [if_neg (fun w => c w.2), if_neg (by omega)]; exact vf j hj
      have st : EX (d+2) m_Mod_fullAt 74 [(0, .inr (.inr (72))), (2, .inl (z)), (3, .inl (n)), (4, .inr (.inl (k))), (6, .inl (x)), (7, .inl (r)), (8, .inl (x)), (9, .inl (r)), (10, .inl (g))] [] (h) = EX (d+2) m_Mod_fullAt 56 [(0, .inr (.inr (72))), (2, .inl (z)), (3, .inl (n + -1)), (4, .inr (.inl (q.2))), (6, .inl (g)), (7, .inl (q.1))] [] (pI h 80 g.toNat q.1) := by
        rw [Mod_fullAt_74]
        simp (disch := omega) only [Mod_fullAt_85, Mod_fullAt_92, wr_id, ix_id, okx, if_pos, if_neg, Int.toNat_of_nonneg, bak_v, bak_n, wr_b01, wr_bt, b01_or, b01_0, b01_1, lc_lt0, lc_gt0, lc_eq0, wl_wr, wr_wr, wl_id, true_and, and_true, true_or, or_true, not_true_eq_false, not_false_eq_true, nc0, nc1, nc2, nc3, nc4, nc5, nc6, nc7, nc8, nc9, nc10, nc11, nc12, nc13, nc14, nc15, nc16, nc17, nc18, nc19, nc20, nc21, nc22, nc23, nc35, nc47, nc59, nc60, nc61, nc73, nc74, nc214, nc215, nc1115, nc2230, nc3345, if_true, if_false, Int.reduceToNat, hm.k, hm.r1, hm.r2, hm.r3, hm.r4, hm.r15, hm.r16, hm.r19, hm.r23, hm.r24, hm.r25, hm.r26, hm.r29, hm.r30, hm.r31, hm.r33, hm.r34, hm.r35, hm.k73, hm.k74, hm.k75, hm.k76, hm.k77, hm.k78, hm.k79, hm.k80, hm.k81, hm.k82, hm.k83, hm.k84, hm.k85, hm.k86, hm.k87, hm.k88, hm.k89, hm.n73, hm.n74, hm.n75, hm.n76, hm.n77, hm.n78, hm.n79, hm.n80, hm.n81, hm.n82, hm.n83, hm.n84, hm.n85, hm.n86, hm.n87, hm.n88, hm.n89, ms.2]
        refine e.trans ?_
        rw [if_neg cq, if_neg cq, Mod_fullAt_192, Mod_fullAt_74]
        by_cases c3 : g + 1 < S 1
        · simp (disch := omega) only [Mod_fullAt_85, Mod_fullAt_198, Mod_fullAt_215, wr_id, ix_id, okx, if_pos, if_neg, Int.toNat_of_nonneg, bak_v, bak_n, wr_b01, wr_bt, b01_or, b01_0, b01_1, lc_lt0, lc_gt0, lc_eq0, wl_wr, wr_wr, wl_id, true_and, and_true, true_or, or_true, not_true_eq_false, not_false_eq_true, nc0, nc1, nc2, nc3, nc4, nc5, nc6, nc7, nc8, nc9, nc10, nc11, nc12, nc13, nc14, nc15, nc16, nc17, nc18, nc19, nc20, nc21, nc22, nc23, nc35, nc47, nc59, nc60, nc61, nc73, nc74, nc214, nc215, nc1115, nc2230, nc3345, if_true, if_false, Int.reduceToNat, hm.k, hm.r1, hm.r2, hm.r3, hm.r4, hm.r15, hm.r16, hm.r19, hm.r23, hm.r24, hm.r25, hm.r26, hm.r29, hm.r30, hm.r31, hm.r33, hm.r34, hm.r35, hm.k73, hm.k74, hm.k75, hm.k76, hm.k77, hm.k78, hm.k79, hm.k80, hm.k81, hm.k82, hm.k83, hm.k84, hm.k85, hm.k86, hm.k87, hm.k88, hm.k89, hm.n73, hm.n74, hm.n75, hm.n76, hm.n77, hm.n78, hm.n79, hm.n80, hm.n81, hm.n82, hm.n83, hm.n84, hm.n85, hm.n86, hm.n87, hm.n88, hm.n89, ms.2]
        · simp (disch := omega) only [Mod_fullAt_85, Mod_fullAt_198, Mod_fullAt_215, wr_id, ix_id, okx, if_pos, if_neg, Int.toNat_of_nonneg, bak_v, bak_n, wr_b01, wr_bt, b01_or, b01_0, b01_1, lc_lt0, lc_gt0, lc_eq0, wl_wr, wr_wr, wl_id, true_and, and_true, true_or, or_true, not_true_eq_false, not_false_eq_true, nc0, nc1, nc2, nc3, nc4, nc5, nc6, nc7, nc8, nc9, nc10, nc11, nc12, nc13, nc14, nc15, nc16, nc17, nc18, nc19, nc20, nc21, nc22, nc23, nc35, nc47, nc59, nc60, nc61, nc73, nc74, nc214, nc215, nc1115, nc2230, nc3345, if_true, if_false, Int.reduceToNat, hm.k, hm.r1, hm.r2, hm.r3, hm.r4, hm.r15, hm.r16, hm.r19, hm.r23, hm.r24, hm.r25, hm.r26, hm.r29, hm.r30, hm.r31, hm.r33, hm.r34, hm.r35, hm.k73, hm.k74, hm.k75, hm.k76, hm.k77, hm.k78, hm.k79, hm.k80, hm.k81, hm.k82, hm.k83, hm.k84, hm.k85, hm.k86, hm.k87, hm.k88, hm.k89, hm.n73, hm.n74, hm.n75, hm.n76, hm.n77, hm.n78, hm.n79, hm.n80, hm.n81, hm.n82, hm.n83, hm.n84, hm.n85, hm.n86, hm.n87, hm.n88, hm.n89, ms.2]
      by_cases cn : n = 1
      · refine ⟨pI h 80 g.toNat q.1, ?_, f0⟩
        refine st.trans ?_
        have ez := vf1 z.toNat (by omega)
        rw [Int.toNat_of_nonneg hz.1] at ez
        rw [Mod_fullAt_56]
        have hm := hm1
        subst cn
        simp (disch := omega) only [Mod_fullAt_221, wr_id, ix_id, okx, if_pos, if_neg, Int.toNat_of_nonneg, bak_v, bak_n, wr_b01, wr_bt, b01_or, b01_0, b01_1, lc_lt0, lc_gt0, lc_eq0, wl_wr, wr_wr, wl_id, true_and, and_true, true_or, or_true, not_true_eq_false, not_false_eq_true, nc0, nc1, nc2, nc3, nc4, nc5, nc6, nc7, nc8, nc9, nc10, nc11, nc12, nc13, nc14, nc15, nc16, nc17, nc18, nc19, nc20, nc21, nc22, nc23, nc35, nc47, nc59, nc60, nc61, nc73, nc74, nc214, nc215, nc1115, nc2230, nc3345, if_true, if_false, Int.reduceToNat, hm.k, hm.r1, hm.r2, hm.r3, hm.r4, hm.r15, hm.r16, hm.r19, hm.r23, hm.r24, hm.r25, hm.r26, hm.r29, hm.r30, hm.r31, hm.r33, hm.r34, hm.r35, hm.k73, hm.k74, hm.k75, hm.k76, hm.k77, hm.k78, hm.k79, hm.k80, hm.k81, hm.k82, hm.k83, hm.k84, hm.k85, hm.k86, hm.k87, hm.k88, hm.k89, hm.n73, hm.n74, hm.n75, hm.n76, hm.n77, hm.n78, hm.n79, hm.n80, hm.n81, hm.n82, hm.n83, hm.n84, hm.n85, hm.n86, hm.n87, hm.n88, hm.n89, ez]
        unfold up
        by_cases c1 : z < g
        · rw [if_pos c1, if_neg (by omega)]
        · rw [if_neg c1]
          by_cases c2 : g = z
          · rw [if_pos c2.symm, if_pos c2]
          · rw [if_neg (fun w => c2 w.symm), if_neg c2, show (1 : Int) - 1 = 0 from rfl, hwF_0, vn z (by omega) (by omega)]
      · have es : Cpl S (n - 1) g q.1 = sm (fun g' => sm (wtF S g q.1 g' (n - 1)) (q.1 + 1) (S 2)) (g + 1) (S 1) := by
          unfold Cpl
          rw [show (n - 1).toNat = (n - 1 - 1).toNat + 1 by omega]
          rfl
        obtain ⟨h', e2, f2⟩ := ih (g + 1) g q.1 (n - 1) q.2 (up f g q.1) (pI h 80 g.toNat q.1) (by omega) (by omega) (by omega) (by omega) (by omega) q3 (by omega) (by omega) p1 vf1 (fun j h1 h2 => by rw [up_ne (by omega)]; exact vn j (by omega) h2)
        refine ⟨h', ?_, f0.tr f2⟩
        refine st.trans ?_
        rw [Mod_fullAt_56]
        simp (disch := omega) only [Mod_fullAt_60, wr_id, ix_id, okx, if_pos, if_neg, Int.toNat_of_nonneg, bak_v, bak_n, wr_b01, wr_bt, b01_or, b01_0, b01_1, lc_lt0, lc_gt0, lc_eq0, wl_wr, wr_wr, wl_id, true_and, and_true, true_or, or_true, not_true_eq_false, not_false_eq_true, nc0, nc1, nc2, nc3, nc4, nc5, nc6, nc7, nc8, nc9, nc10, nc11, nc12, nc13, nc14, nc15, nc16, nc17, nc18, nc19, nc20, nc21, nc22, nc23, nc35, nc47, nc59, nc60, nc61, nc73, nc74, nc214, nc215, nc1115, nc2230, nc3345, if_true, if_false, Int.reduceToNat]
        rw [show n + -1 = n - 1 by omega]
        refine e2.trans ?_
        by_cases c1 : z < g
        · rw [if_pos (by omega), if_pos c1, up_ne (by omega)]
        · rw [if_neg c1]
          by_cases c2 : g = z
          · rw [if_pos (by omega), if_pos c2, ← c2, up_same]
          · rw [if_neg (by omega), if_neg c2]
def ansFullAt (S : Int → Int) (k z : Int) : Int := if ¬ (0 ≤ z ∧ z < S 1) then -2 else if k < 0 then -3 else if Cpl S (fullN S) (-1) (-1) ≤ k then -5 else hwF S z (z + 1).toNat 0 (-1) (-1) (fullN S) k
theorem mm_fullAt {d : Nat} {h : Hp} {S G T rs rm nb : Int → Int} {n fk fp : Int} (mb : MB h S G T rs rm nb n fk fp) (g : Gd S) (tg : TG rs rm nb) {k z : Int} (rk : -2147483648 ≤ k ∧ k ≤ 2147483647) (rz : -2147483648 ≤ z ∧ z ≤ 2147483647) : ∃ h', cal (d+6) m_Mod_fullAt [.inr (.inr (72)), .inl (k), .inl (z)] (h) = some (.inl (ansFullAt S k z), h') ∧ MB h' S G T rs rm nb n fk fp ∧ Fr wQ h h' := by
  have ms0 : MS (pI h 72 0 0) S := mb.1.o (by omega)
  have f0 : Fr wQ h (pI h 72 0 0) := f72 (by omega)
  have hk := mb.1.1.k
  have hm := ms0.1
  have mb0 := mb.fr f0 ms0
  have ga := g.a
  have gb := g.b
  have fs := fullN_spec S
  have eh := m_isHook (d := d + 3) ms0 ga (x := z) rz
  unfold ansFullAt
  by_cases cz : 0 ≤ z ∧ z < S 1
  · rw [if_neg (fun q => q cz)]
    by_cases ck : k < 0
    · rw [if_pos ck]
      refine ⟨pI h 72 0 0, ?_, mb0, f0⟩
      show EX (d+5) m_Mod_fullAt 0 [(0, .inr (.inr (72))), (1, .inl (k)), (2, .inl (z))] [] (h) = _
      simp (disch := omega) only [Mod_fullAt_0, Mod_fullAt_5, Mod_fullAt_10, Mod_fullAt_16, Mod_fullAt_20, wr_id, ix_id, okx, if_pos, if_neg, Int.toNat_of_nonneg, bak_v, bak_n, wr_b01, wr_bt, b01_or, b01_0, b01_1, lc_lt0, lc_gt0, lc_eq0, wl_wr, wr_wr, wl_id, true_and, and_true, true_or, or_true, not_true_eq_false, not_false_eq_true, nc0, nc1, nc2, nc3, nc4, nc5, nc6, nc7, nc8, nc9, nc10, nc11, nc12, nc13, nc14, nc15, nc16, nc17, nc18, nc19, nc20, nc21, nc22, nc23, nc35, nc47, nc59, nc60, nc61, nc73, nc74, nc214, nc215, nc1115, nc2230, nc3345, if_true, if_false, Int.reduceToNat, hk, hm.k, eh]
    · rw [if_neg ck]
      obtain ⟨h1, e1, w1, tb1, f1⟩ := m_fullOf (d := d) ms0 mb0.2.2.2.2.2.2 tg.2 g
      have e2 := m_waysOf (d := d + 3) w1 g tb1 (n := fullN S) (by omega)
      rw [Ctr_plain S nb (fullN S) (by omega) (by omega)] at e2
      have rg := Cpl_rng g (fullN S) (x := -1) (r := -1) (by omega) (by omega)
      have ff1 := f0.tr (fWy f1)
      by_cases cc : Cpl S (fullN S) (-1) (-1) ≤ k
      · rw [if_pos cc]
        refine ⟨h1, ?_, mb.fr ff1 w1.1, ff1⟩
        show EX (d+5) m_Mod_fullAt 0 [(0, .inr (.inr (72))), (1, .inl (k)), (2, .inl (z))] [] (h) = _
        simp (disch := omega) only [Mod_fullAt_0, Mod_fullAt_5, Mod_fullAt_10, Mod_fullAt_16, Mod_fullAt_23, Mod_fullAt_27, Mod_fullAt_33, Mod_fullAt_39, wr_id, ix_id, okx, if_pos, if_neg, Int.toNat_of_nonneg, bak_v, bak_n, wr_b01, wr_bt, b01_or, b01_0, b01_1, lc_lt0, lc_gt0, lc_eq0, wl_wr, wr_wr, wl_id, true_and, and_true, true_or, or_true, not_true_eq_false, not_false_eq_true, nc0, nc1, nc2, nc3, nc4, nc5, nc6, nc7, nc8, nc9, nc10, nc11, nc12, nc13, nc14, nc15, nc16, nc17, nc18, nc19, nc20, nc21, nc22, nc23, nc35, nc47, nc59, nc60, nc61, nc73, nc74, nc214, nc215, nc1115, nc2230, nc3345, if_true, if_false, Int.reduceToNat, hk, hm.k, eh, e1, w1.1.1.k, e2]
      · rw [if_neg cc]
        obtain ⟨h2, e3, v2, f2⟩ := m_foundNone (d := d + 4) w1.1.1
        have p2 : PT h2 S nb := PT.fr ⟨w1, tb1⟩ f2 (fun a k q => by omega)
        have ff2 := ff1.tr (f2.mo (fun a k q => by unfold wQ; omega))
        have st : EX (d+5) m_Mod_fullAt 0 [(0, .inr (.inr (72))), (1, .inl (k)), (2, .inl (z))] [] (h) = EX (d+5) m_Mod_fullAt 56 [(0, .inr (.inr (72))), (2, .inl (z)), (3, .inl (fullN S)), (4, .inr (.inl (k))), (6, .inl (-1)), (7, .inl (-1))] [] (h2) := by
          simp (disch := omega) only [Mod_fullAt_0, Mod_fullAt_5, Mod_fullAt_10, Mod_fullAt_16, Mod_fullAt_23, Mod_fullAt_27, Mod_fullAt_33, Mod_fullAt_42, Mod_fullAt_50, wr_id, ix_id, okx, if_pos, if_neg, Int.toNat_of_nonneg, bak_v, bak_n, wr_b01, wr_bt, b01_or, b01_0, b01_1, lc_lt0, lc_gt0, lc_eq0, wl_wr, wr_wr, wl_id, true_and, and_true, true_or, or_true, not_true_eq_false, not_false_eq_true, nc0, nc1, nc2, nc3, nc4, nc5, nc6, nc7, nc8, nc9, nc10, nc11, nc12, nc13, nc14, nc15, nc16, nc17, nc18, nc19, nc20, nc21, nc22, nc23, nc35, nc47, nc59, nc60, nc61, nc73, nc74, nc214, nc215, nc1115, nc2230, nc3345, if_true, if_false, Int.reduceToNat, hk, hm.k, eh, e1, w1.1.1.k, e2, e3]
        by_cases cf : fullN S = 0
        · refine ⟨h2, ?_, mb.fr ff2 p2.1.1, ff2⟩
          refine st.trans ?_
          have ez := v2 z.toNat (by omega)
          have hm := p2.1.1.1
          rw [cf, hwF_0, Mod_fullAt_56]
          simp (disch := omega) only [Mod_fullAt_221, wr_id, ix_id, okx, if_pos, if_neg, Int.toNat_of_nonneg, bak_v, bak_n, wr_b01, wr_bt, b01_or, b01_0, b01_1, lc_lt0, lc_gt0, lc_eq0, wl_wr, wr_wr, wl_id, true_and, and_true, true_or, or_true, not_true_eq_false, not_false_eq_true, nc0, nc1, nc2, nc3, nc4, nc5, nc6, nc7, nc8, nc9, nc10, nc11, nc12, nc13, nc14, nc15, nc16, nc17, nc18, nc19, nc20, nc21, nc22, nc23, nc35, nc47, nc59, nc60, nc61, nc73, nc74, nc214, nc215, nc1115, nc2230, nc3345, if_true, if_false, Int.reduceToNat, hm.k, hm.r1, hm.r2, hm.r3, hm.r4, hm.r15, hm.r16, hm.r19, hm.r23, hm.r24, hm.r25, hm.r26, hm.r29, hm.r30, hm.r31, hm.r33, hm.r34, hm.r35, hm.k73, hm.k74, hm.k75, hm.k76, hm.k77, hm.k78, hm.k79, hm.k80, hm.k81, hm.k82, hm.k83, hm.k84, hm.k85, hm.k86, hm.k87, hm.k88, hm.k89, hm.n73, hm.n74, hm.n75, hm.n76, hm.n77, hm.n78, hm.n79, hm.n80, hm.n81, hm.n82, hm.n83, hm.n84, hm.n85, hm.n86, hm.n87, hm.n88, hm.n89, ez]
        · have es : Cpl S (fullN S) (-1) (-1) = sm (fun g' => sm (wtF S (-1) (-1) g' (fullN S)) (-1 + 1) (S 2)) 0 (S 1) := by
            unfold Cpl
            rw [show (fullN S).toNat = (fullN S - 1).toNat + 1 by omega]
            rfl
          obtain ⟨h3, e4, f3⟩ := m_fA_2 (d := d + 3) tg.2 g cz (S 1).toNat 0 (-1) (-1) (fullN S) k (fun _ => -1) h2 (by omega) (by omega) (by omega) (by omega) (by omega) (by omega) (by omega) (by omega) p2 v2 (fun _ _ _ => rfl)
          have ff3 := ff2.tr (f3.mo (fun a k q => by unfold wQ; omega))
          refine ⟨h3, ?_, mb.fr ff3 (p2.fr f3 (fun a k q => by omega)).1.1, ff3⟩
          refine st.trans ?_
          rw [Mod_fullAt_56]
          simp (disch := omega) only [Mod_fullAt_60, wr_id, ix_id, okx, if_pos, if_neg, Int.toNat_of_nonneg, bak_v, bak_n, wr_b01, wr_bt, b01_or, b01_0, b01_1, lc_lt0, lc_gt0, lc_eq0, wl_wr, wr_wr, wl_id, true_and, and_true, true_or, or_true, not_true_eq_false, not_false_eq_true, nc0, nc1, nc2, nc3, nc4, nc5, nc6, nc7, nc8, nc9, nc10, nc11, nc12, nc13, nc14, nc15, nc16, nc17, nc18, nc19, nc20, nc21, nc22, nc23, nc35, nc47, nc59, nc60, nc61, nc73, nc74, nc214, nc215, nc1115, nc2230, nc3345, if_true, if_false, Int.reduceToNat]
          rw [show (-1 : Int) + 1 = 0 from rfl]
          refine e4.trans ?_
          rw [if_neg (by omega), hwF_m S z (S 1).toNat (z + 1).toNat 0 (-1) (-1) (fullN S) k (by omega) (by omega) (by omega)]
  · rw [if_pos cz]
    refine ⟨pI h 72 0 0, ?_, mb0, f0⟩
    show EX (d+5) m_Mod_fullAt 0 [(0, .inr (.inr (72))), (1, .inl (k)), (2, .inl (z))] [] (h) = _
    simp (disch := omega) only [Mod_fullAt_0, Mod_fullAt_5, Mod_fullAt_10, Mod_fullAt_13, wr_id, ix_id, okx, if_pos, if_neg, Int.toNat_of_nonneg, bak_v, bak_n, wr_b01, wr_bt, b01_or, b01_0, b01_1, lc_lt0, lc_gt0, lc_eq0, wl_wr, wr_wr, wl_id, true_and, and_true, true_or, or_true, not_true_eq_false, not_false_eq_true, nc0, nc1, nc2, nc3, nc4, nc5, nc6, nc7, nc8, nc9, nc10, nc11, nc12, nc13, nc14, nc15, nc16, nc17, nc18, nc19, nc20, nc21, nc22, nc23, nc35, nc47, nc59, nc60, nc61, nc73, nc74, nc214, nc215, nc1115, nc2230, nc3345, if_true, if_false, Int.reduceToNat, hk, hm.k, eh]
