/-! the model: joinings, full, seen, sure -/
theorem cnt_congr {F F' : Int → Int → Int → Int → Bool} {B B' : Int → Int} {N R : Int} (hF : ∀ x r g s, -1 ≤ x → x < g → g < N → -1 ≤ r → r < s → s < R → F x r g s = F' x r g s) (hB : ∀ r, -1 ≤ r → B r = B' r) : ∀ (n : Nat) (x r : Int), -1 ≤ x → -1 ≤ r → cnt F B N R n x r = cnt F' B' N R n x r := by
  intro n
  induction n with
  | zero => intro x r _ hr; exact hB r hr
  | succ n ih =>
    intro x r hx hr
    refine sm_congr _ (fun g g1 g2 => sm_congr _ (fun s s1 s2 => ?_))
    rw [hF x r g s hx (by omega) g2 hr (by omega) s2, ih g s (by omega) (by omega)]
/-- the plain rule -/
def Fpl (S : Int → Int) : Int → Int → Int → Int → Bool := fun x r g s => decide (bt (S 10) s = 0 ∧ (x = -1 ∨ 0 ≤ sagM S x r g s))
def Bpl : Int → Int := fun _ => 1
def Cpl (S : Int → Int) (n x r : Int) : Int := cnt (Fpl S) Bpl (S 1) (S 2) n.toNat x r
def Ctr (S nb : Int → Int) (oh or t n x r : Int) : Int := cnt (FF S nb oh or t) (BB S nb t) (S 1) (S 2) n.toNat x r
theorem Ctr_plain (S nb : Int → Int) (n : Int) {x r : Int} (hx : -1 ≤ x) (hr : -1 ≤ r) : Ctr S nb (-1) (-1) (-1) n x r = Cpl S n x r := by
  refine cnt_congr (fun x r g s h1 h2 h3 h4 h5 h6 => ?_) (fun r _ => ?_) _ _ _ hx hr
  · have c : ¬ g = -1 := by omega
    unfold FF Fpl
    by_cases c2 : x = -1 <;> simp [shB, c, c2]
  · simp [BB, shB, b01, Bpl]
theorem Cpl_rng {S : Int → Int} (g : Gd S) (n : Int) {x r : Int} (hx : -1 ≤ x ∧ x < S 1) (hr : -1 ≤ r ∧ r < S 2) : 0 ≤ Cpl S n x r ∧ Cpl S n x r ≤ 16777216 := by
  have ga := g.a
  have gb := g.b
  exact cnt_rng (fun r => by simp [Bpl]) (by omega) (by omega) _ (by omega) (by omega)
theorem Ctr_rng {S : Int → Int} (g : Gd S) (nb : Int → Int) (oh or t n : Int) {x r : Int} (hx : -1 ≤ x ∧ x < S 1) (hr : -1 ≤ r ∧ r < S 2) : 0 ≤ Ctr S nb oh or t n x r ∧ Ctr S nb oh or t n x r ≤ 16777216 := by
  have ga := g.a
  have gb := g.b
  exact cnt_rng (fun r => BB_01 S nb t r) (by omega) (by omega) _ (by omega) (by omega)
/-- how many are joined in full ones -/
def fullN (S : Int → Int) : Int := fl (fun n => decide (¬ Cpl S n (-1) (-1) = 0)) 13
theorem fullN_spec (S : Int → Int) : 0 ≤ fullN S ∧ fullN S ≤ 12 ∧ ¬ Cpl S (fullN S) (-1) (-1) = 0 ∧ ∀ n, fullN S < n → n ≤ 12 → Cpl S n (-1) (-1) = 0 := by
  have h := fl_spec (p := fun n => decide (¬ Cpl S n (-1) (-1) = 0)) 13 (by omega)
  rcases h with ⟨-, h⟩ | ⟨h1, h2, h3, h4⟩
  · have := h 0 (by omega) (by omega)
    simp [Cpl, cnt, Bpl] at this
  · unfold fullN
    refine ⟨h1, by omega, by simpa using h3, fun n n1 n2 => ?_⟩
    simpa using h4 n n1 (by omega)
theorem m_laysAll {d : Nat} {h : Hp} {S nb : Int → Int} (ms : MS h S) (hnb : ∀ k : Nat, hL h 89 k = nb k) (n64 : N64 nb) (g : Gd S) : ∃ h', cal (d+4) m_Mod_laysAll [.inr (.inr (72))] (h) = some (.inl 0, h') ∧ W6 h' S nb (-1) (-1) (-1) ∧ (∀ z, -1 ≤ z → z < S 1 → tabY h' (FF S nb (-1) (-1) (-1)) (BB S nb (-1)) (S 1) (S 2) z) ∧ Fr pWy h h' := by
  obtain ⟨h', e, w, tb, f⟩ := m_laysWays (d := d) (oh := -1) (or := -1) (t := -1) ms hnb n64 (Or.inl rfl) (by omega) (by omega) g
  refine ⟨h', ?_, w, tb, f⟩
  show EX (d+3) m_Mod_laysAll 0 [(0, .inr (.inr (72)))] [] (h) = _
  have hk := ms.1.k
  simp (disch := omega) only [Mod_laysAll_0, Mod_laysAll_7, wr_id, ix_id, okx, if_pos, if_neg, Int.toNat_of_nonneg, bak_v, bak_n, wr_b01, wr_bt, b01_or, b01_0, b01_1, lc_lt0, lc_gt0, lc_eq0, wl_wr, wr_wr, wl_id, true_and, and_true, true_or, or_true, not_true_eq_false, not_false_eq_true, nc0, nc1, nc2, nc3, nc4, nc5, nc6, nc7, nc8, nc9, nc10, nc11, nc12, nc13, nc14, nc15, nc16, nc17, nc18, nc19, nc20, nc21, nc22, nc23, nc35, nc47, nc59, nc60, nc61, nc73, nc74, nc214, nc215, nc1115, nc2230, nc3345, if_true, if_false, Int.reduceToNat, hk, e]
theorem m_waysOf {d : Nat} {h : Hp} {S nb : Int → Int} {oh or t : Int} (w : W6 h S nb oh or t) (g : Gd S) (tb : ∀ z, -1 ≤ z → z < S 1 → tabY h (FF S nb oh or t) (BB S nb t) (S 1) (S 2) z) {n : Int} (hn : 0 ≤ n ∧ n ≤ 12) : cal (d+2) m_Mod_waysOf [.inr (.inr (72)), .inl (n)] (h) = some (.inr (.inl (Ctr S nb oh or t n (-1) (-1))), h) := by
  have hm := w.1.1
  have ga := g.a
  have gb := g.b
  have e := tb (-1) (by omega) (by omega) (-1) (by omega) (by omega) (by omega) n hn.1 hn.2
  show EX (d+1) m_Mod_waysOf 0 [(0, .inr (.inr (72))), (1, .inl (n))] [] (h) = _
  simp (disch := omega) only [Mod_waysOf_0, Mod_waysOf_10, wr_id, ix_id, okx, if_pos, if_neg, Int.toNat_of_nonneg, bak_v, bak_n, wr_b01, wr_bt, b01_or, b01_0, b01_1, lc_lt0, lc_gt0, lc_eq0, wl_wr, wr_wr, wl_id, true_and, and_true, true_or, or_true, not_true_eq_false, not_false_eq_true, nc0, nc1, nc2, nc3, nc4, nc5, nc6, nc7, nc8, nc9, nc10, nc11, nc12, nc13, nc14, nc15, nc16, nc17, nc18, nc19, nc20, nc21, nc22, nc23, nc35, nc47, nc59, nc60, nc61, nc73, nc74, nc214, nc215, nc1115, nc2230, nc3345, if_true, if_false, Int.reduceToNat, hm.k, hm.r1, hm.r2, hm.r3, hm.r4, hm.r15, hm.r16, hm.r19, hm.r23, hm.r24, hm.r25, hm.r26, hm.r29, hm.r30, hm.r31, hm.r33, hm.r34, hm.r35, hm.k73, hm.k74, hm.k75, hm.k76, hm.k77, hm.k78, hm.k79, hm.k80, hm.k81, hm.k82, hm.k83, hm.k84, hm.k85, hm.k86, hm.k87, hm.k88, hm.k89, hm.n73, hm.n74, hm.n75, hm.n76, hm.n77, hm.n78, hm.n79, hm.n80, hm.n81, hm.n82, hm.n83, hm.n84, hm.n85, hm.n86, hm.n87, hm.n88, hm.n89, m_spot, e]
  rfl
theorem m_fullOf_l {d : Nat} {h : Hp} {S nb : Int → Int} (w : W6 h S nb (-1) (-1) (-1)) (g : Gd S) (tb : ∀ z, -1 ≤ z → z < S 1 → tabY h (FF S nb (-1) (-1) (-1)) (BB S nb (-1)) (S 1) (S 2) z) : ∀ n, 0 ≤ n → n ≤ 12 → fl (fun n => decide (¬ Cpl S n (-1) (-1) = 0)) (n + 1) = fullN S → EX (d+2) m_Mod_fullOf 7 [(0, .inr (.inr (72))), (1, .inl (n))] [] (h) = some (.inl (fullN S), h) := by
  have hm := w.1.1
  have ga := g.a
  have gb := g.b
  refine dn_ind (lo := 0) ?_ ?_
  · intro n hn h0; omega
  · intro n hn ih h0 h1 hf
    have e := m_waysOf (d := d) w g tb (n := n) (by omega)
    rw [Ctr_plain S nb n (by omega) (by omega)] at e
    have rg := Cpl_rng g n (x := -1) (r := -1) (by omega) (by omega)
    have fs := fullN_spec S
    rw [fl_step (by omega), show n + 1 - 1 = n by omega] at hf
    rw [Mod_fullOf_7]
    by_cases c : Cpl S n (-1) (-1) = 0
    · have hf' : fl (fun n => decide (¬ Cpl S n (-1) (-1) = 0)) n = fullN S := by simpa [c] using hf
      by_cases c0 : n = 0
      · subst c0
        rw [fl_stop (Int.le_refl 0)] at hf'
        omega
      · have ih := ih (by omega) (by omega) (by rw [show n - 1 + 1 = n by omega]; exact hf')
        simp (disch := omega) only [Mod_fullOf_12, Mod_fullOf_17, wr_id, ix_id, okx, if_pos, if_neg, Int.toNat_of_nonneg, bak_v, bak_n, wr_b01, wr_bt, b01_or, b01_0, b01_1, lc_lt0, lc_gt0, lc_eq0, wl_wr, wr_wr, wl_id, true_and, and_true, true_or, or_true, not_true_eq_false, not_false_eq_true, nc0, nc1, nc2, nc3, nc4, nc5, nc6, nc7, nc8, nc9, nc10, nc11, nc12, nc13, nc14, nc15, nc16, nc17, nc18, nc19, nc20, nc21, nc22, nc23, nc35, nc47, nc59, nc60, nc61, nc73, nc74, nc214, nc215, nc1115, nc2230, nc3345, if_true, if_false, Int.reduceToNat, hm.k, e, c]
        rw [show n + -1 = n - 1 by omega]
        exact ih
    · have hf' : n = fullN S := by simpa [c] using hf
      simp (disch := omega) only [Mod_fullOf_12, Mod_fullOf_23, wr_id, ix_id, okx, if_pos, if_neg, Int.toNat_of_nonneg, bak_v, bak_n, wr_b01, wr_bt, b01_or, b01_0, b01_1, lc_lt0, lc_gt0, lc_eq0, wl_wr, wr_wr, wl_id, true_and, and_true, true_or, or_true, not_true_eq_false, not_false_eq_true, nc0, nc1, nc2, nc3, nc4, nc5, nc6, nc7, nc8, nc9, nc10, nc11, nc12, nc13, nc14, nc15, nc16, nc17, nc18, nc19, nc20, nc21, nc22, nc23, nc35, nc47, nc59, nc60, nc61, nc73, nc74, nc214, nc215, nc1115, nc2230, nc3345, if_true, if_false, Int.reduceToNat, hm.k, e, ← hf']
theorem m_fullOf {d : Nat} {h : Hp} {S nb : Int → Int} (ms : MS h S) (hnb : ∀ k : Nat, hL h 89 k = nb k) (n64 : N64 nb) (g : Gd S) : ∃ h', cal (d+5) m_Mod_fullOf [.inr (.inr (72))] (h) = some (.inl (fullN S), h') ∧ W6 h' S nb (-1) (-1) (-1) ∧ (∀ z, -1 ≤ z → z < S 1 → tabY h' (FF S nb (-1) (-1) (-1)) (BB S nb (-1)) (S 1) (S 2) z) ∧ Fr pWy h h' := by
  obtain ⟨h', e, w, tb, f⟩ := m_laysAll (d := d) ms hnb n64 g
  refine ⟨h', ?_, w, tb, f⟩
  show EX (d+4) m_Mod_fullOf 0 [(0, .inr (.inr (72)))] [] (h) = _
  have hk := ms.1.k
  have e2 := m_fullOf_l (d := d + 2) w g tb 12 (by omega) (by omega) rfl
  simp (disch := omega) only [Mod_fullOf_0, Mod_fullOf_4, wr_id, ix_id, okx, if_pos, if_neg, Int.toNat_of_nonneg, bak_v, bak_n, wr_b01, wr_bt, b01_or, b01_0, b01_1, lc_lt0, lc_gt0, lc_eq0, wl_wr, wr_wr, wl_id, true_and, and_true, true_or, or_true, not_true_eq_false, not_false_eq_true, nc0, nc1, nc2, nc3, nc4, nc5, nc6, nc7, nc8, nc9, nc10, nc11, nc12, nc13, nc14, nc15, nc16, nc17, nc18, nc19, nc20, nc21, nc22, nc23, nc35, nc47, nc59, nc60, nc61, nc73, nc74, nc214, nc215, nc1115, nc2230, nc3345, if_true, if_false, Int.reduceToNat, hk, e, e2]
theorem fWy {h h' : Hp} (f : Fr pWy h h') : Fr wQ h h' := f.mo (fun a k q => pWy.wq q)
theorem MB.n64 {h : Hp} {S G T rs rm nb : Int → Int} {n fk fp : Int} (mb : MB h S G T rs rm nb n fk fp) (tg : TG rs rm nb) : N64 nb := tg.2
def ansJs (S : Int → Int) (n : Int) : Int := if 0 ≤ n ∧ n ≤ 12 then Cpl S n (-1) (-1) else -3
theorem mm_joinings {d : Nat} {h : Hp} {S G T rs rm nb : Int → Int} {n fk fp : Int} (mb : MB h S G T rs rm nb n fk fp) (g : Gd S) (tg : TG rs rm nb) {x : Int} (rx : -2147483648 ≤ x ∧ x ≤ 2147483647) : ∃ h', cal (d+5) m_Mod_joinings [.inr (.inr (72)), .inl (x)] (h) = some (.inr (.inl (ansJs S x)), h') ∧ MB h' S G T rs rm nb n fk fp ∧ Fr wQ h h' := by
  have ms0 : MS (pI h 72 0 0) S := mb.1.o (by omega)
  have f0 : Fr wQ h (pI h 72 0 0) := f72 (by omega)
  have hk := mb.1.1.k
  have hm := ms0.1
  have mb0 := mb.fr f0 ms0
  unfold ansJs
  by_cases c : 0 ≤ x ∧ x ≤ 12
  · rw [if_pos c]
    obtain ⟨h1, e1, w1, tb1, f1⟩ := m_laysAll (d := d) ms0 mb0.2.2.2.2.2.2 tg.2 g
    have e2 := m_waysOf (d := d + 2) w1 g tb1 c
    rw [Ctr_plain S nb x (by omega) (by omega)] at e2
    have ff := f0.tr (fWy f1)
    refine ⟨h1, ?_, mb.fr ff w1.1, ff⟩
    show EX (d+4) m_Mod_joinings 0 [(0, .inr (.inr (72))), (1, .inl (x))] [] (h) = _
    simp (disch := omega) only [Mod_joinings_0, Mod_joinings_5, Mod_joinings_14, Mod_joinings_17, Mod_joinings_21, Mod_joinings_25, Mod_joinings_30, wr_id, ix_id, okx, if_pos, if_neg, Int.toNat_of_nonneg, bak_v, bak_n, wr_b01, wr_bt, b01_or, b01_0, b01_1, lc_lt0, lc_gt0, lc_eq0, wl_wr, wr_wr, wl_id, true_and, and_true, true_or, or_true, not_true_eq_false, not_false_eq_true, nc0, nc1, nc2, nc3, nc4, nc5, nc6, nc7, nc8, nc9, nc10, nc11, nc12, nc13, nc14, nc15, nc16, nc17, nc18, nc19, nc20, nc21, nc22, nc23, nc35, nc47, nc59, nc60, nc61, nc73, nc74, nc214, nc215, nc1115, nc2230, nc3345, if_true, if_false, Int.reduceToNat, hk, hm.k, m_within, e1, w1.1.1.k, e2]
  · rw [if_neg c]
    refine ⟨pI h 72 0 0, ?_, mb0, f0⟩
    show EX (d+4) m_Mod_joinings 0 [(0, .inr (.inr (72))), (1, .inl (x))] [] (h) = _
    simp (disch := omega) only [Mod_joinings_0, Mod_joinings_5, Mod_joinings_14, Mod_joinings_17, Mod_joinings_21, Mod_joinings_25, Mod_joinings_30, wr_id, ix_id, okx, if_pos, if_neg, Int.toNat_of_nonneg, bak_v, bak_n, wr_b01, wr_bt, b01_or, b01_0, b01_1, lc_lt0, lc_gt0, lc_eq0, wl_wr, wr_wr, wl_id, true_and, and_true, true_or, or_true, not_true_eq_false, not_false_eq_true, nc0, nc1, nc2, nc3, nc4, nc5, nc6, nc7, nc8, nc9, nc10, nc11, nc12, nc13, nc14, nc15, nc16, nc17, nc18, nc19, nc20, nc21, nc22, nc23, nc35, nc47, nc59, nc60, nc61, nc73, nc74, nc214, nc215, nc1115, nc2230, nc3345, if_true, if_false, Int.reduceToNat, hk, hm.k, m_within]
theorem mm_full {d : Nat} {h : Hp} {S G T rs rm nb : Int → Int} {n fk fp : Int} (mb : MB h S G T rs rm nb n fk fp) (g : Gd S) (tg : TG rs rm nb) : ∃ h', cal (d+6) m_Mod_full [.inr (.inr (72))] (h) = some (.inl (fullN S), h') ∧ MB h' S G T rs rm nb n fk fp ∧ Fr wQ h h' := by
  have ms0 : MS (pI h 72 0 0) S := mb.1.o (by omega)
  have f0 : Fr wQ h (pI h 72 0 0) := f72 (by omega)
  have hk := mb.1.1.k
  have hm := ms0.1
  have mb0 := mb.fr f0 ms0
  obtain ⟨h1, e1, w1, tb1, f1⟩ := m_fullOf (d := d) ms0 mb0.2.2.2.2.2.2 tg.2 g
  have ff := f0.tr (fWy f1)
  refine ⟨h1, ?_, mb.fr ff w1.1, ff⟩
  show EX (d+5) m_Mod_full 0 [(0, .inr (.inr (72)))] [] (h) = _
  simp (disch := omega) only [Mod_full_0, Mod_full_5, Mod_full_9, wr_id, ix_id, okx, if_pos, if_neg, Int.toNat_of_nonneg, bak_v, bak_n, wr_b01, wr_bt, b01_or, b01_0, b01_1, lc_lt0, lc_gt0, lc_eq0, wl_wr, wr_wr, wl_id, true_and, and_true, true_or, or_true, not_true_eq_false, not_false_eq_true, nc0, nc1, nc2, nc3, nc4, nc5, nc6, nc7, nc8, nc9, nc10, nc11, nc12, nc13, nc14, nc15, nc16, nc17, nc18, nc19, nc20, nc21, nc22, nc23, nc35, nc47, nc59, nc60, nc61, nc73, nc74, nc214, nc215, nc1115, nc2230, nc3345, if_true, if_false, Int.reduceToNat, hk, hm.k, e1]
/-! seen -/
def noS (S rs rm nb : Int → Int) (t : Int) : Int := if ¬ noT rs t = 0 then noT rs t else if ¬ rm t = (if S 2 = 0 then 0 else S 2 - 1) then -4 else if ff (fun k => decide (nb (40 * t + k) < -2)) 0 (rm t) = -1 then 0 else -3
theorem m_noSeen_l {d : Nat} {h : Hp} {rs rm nb : Int → Int} (hm : MR h) (mt : MT h rs rm nb) (tg : TG rs rm nb) {t : Int} (ht : 0 ≤ t ∧ t < 4) : ∀ i, 0 ≤ i → i ≤ 40 → EX (d) m_Mod_noSeen 47 [(0, .inr (.inr (72))), (1, .inl (t)), (3, .inl (i))] [] (h) = some (.inl (if ff (fun k => decide (nb (40 * t + k) < -2)) i (rm t) = -1 then 0 else -3), h) := by
  have gt := tg.1 t ht.1 ht.2
  obtain ⟨t1, t2, t3⟩ := mt
  refine up_ind (hi := rm t) ?_ ?_
  · intro i hi h0 h1
    rw [Mod_noSeen_47]
    simp (disch := omega) only [Mod_noSeen_84, wr_id, ix_id, okx, if_pos, if_neg, Int.toNat_of_nonneg, bak_v, bak_n, wr_b01, wr_bt, b01_or, b01_0, b01_1, lc_lt0, lc_gt0, lc_eq0, wl_wr, wr_wr, wl_id, true_and, and_true, true_or, or_true, not_true_eq_false, not_false_eq_true, nc0, nc1, nc2, nc3, nc4, nc5, nc6, nc7, nc8, nc9, nc10, nc11, nc12, nc13, nc14, nc15, nc16, nc17, nc18, nc19, nc20, nc21, nc22, nc23, nc35, nc47, nc59, nc60, nc61, nc73, nc74, nc214, nc215, nc1115, nc2230, nc3345, if_true, if_false, Int.reduceToNat, hm.k, hm.r1, hm.r2, hm.r3, hm.r4, hm.r15, hm.r16, hm.r19, hm.r23, hm.r24, hm.r25, hm.r26, hm.r29, hm.r30, hm.r31, hm.r33, hm.r34, hm.r35, hm.k73, hm.k74, hm.k75, hm.k76, hm.k77, hm.k78, hm.k79, hm.k80, hm.k81, hm.k82, hm.k83, hm.k84, hm.k85, hm.k86, hm.k87, hm.k88, hm.k89, hm.n73, hm.n74, hm.n75, hm.n76, hm.n77, hm.n78, hm.n79, hm.n80, hm.n81, hm.n82, hm.n83, hm.n84, hm.n85, hm.n86, hm.n87, hm.n88, hm.n89, t2, ff_stop]
  · intro i hi ih h0 h1
    have nn := tg.2 (40 * t + i)
    rw [Mod_noSeen_47]
    have i1 : ¬ i = -1 := by omega
    simp (disch := omega) only [Mod_noSeen_57, Mod_noSeen_75, Mod_noSeen_78, wr_id, ix_id, okx, if_pos, if_neg, Int.toNat_of_nonneg, bak_v, bak_n, wr_b01, wr_bt, b01_or, b01_0, b01_1, lc_lt0, lc_gt0, lc_eq0, wl_wr, wr_wr, wl_id, true_and, and_true, true_or, or_true, not_true_eq_false, not_false_eq_true, nc0, nc1, nc2, nc3, nc4, nc5, nc6, nc7, nc8, nc9, nc10, nc11, nc12, nc13, nc14, nc15, nc16, nc17, nc18, nc19, nc20, nc21, nc22, nc23, nc35, nc47, nc59, nc60, nc61, nc73, nc74, nc214, nc215, nc1115, nc2230, nc3345, if_true, if_false, Int.reduceToNat, hm.k, hm.r1, hm.r2, hm.r3, hm.r4, hm.r15, hm.r16, hm.r19, hm.r23, hm.r24, hm.r25, hm.r26, hm.r29, hm.r30, hm.r31, hm.r33, hm.r34, hm.r35, hm.k73, hm.k74, hm.k75, hm.k76, hm.k77, hm.k78, hm.k79, hm.k80, hm.k81, hm.k82, hm.k83, hm.k84, hm.k85, hm.k86, hm.k87, hm.k88, hm.k89, hm.n73, hm.n74, hm.n75, hm.n76, hm.n77, hm.n78, hm.n79, hm.n80, hm.n81, hm.n82, hm.n83, hm.n84, hm.n85, hm.n86, hm.n87, hm.n88, hm.n89, t2, t3, ff_step hi, ih]
    by_cases c : nb (40 * t + i) < -2 <;> simp [c, i1]
theorem m_noSeen {d : Nat} {h : Hp} {S rs rm nb : Int → Int} (ms : MS h S) (g : Gd S) (mt : MT h rs rm nb) (tg : TG rs rm nb) {t : Int} (rt : -2147483648 ≤ t ∧ t ≤ 2147483647) : cal (d+3) m_Mod_noSeen [.inr (.inr (72)), .inl (t)] (h) = some (.inl (noS S rs rm nb t), h) := by
  have hm := ms.1
  have gb := g.b
  have nr := noT_rng rs t
  show EX (d+2) m_Mod_noSeen 0 [(0, .inr (.inr (72))), (1, .inl (t))] [] (h) = _
  unfold noS
  by_cases c : noT rs t = 0
  · rw [if_neg (fun q => q c)]
    obtain ⟨n1, n2⟩ := noT_0 c
    have gt := tg.1 t n1.1 n1.2
    have el := m_noSeen_l (d := d + 2) hm mt tg n1 0 (by omega) (by omega)
    have t2 := mt.2.1
    by_cases c2 : S 2 = 0
    · rw [if_pos c2]
      by_cases c3 : rm t = 0
      · rw [if_neg (fun q => q c3)]
        simp (disch := omega) only [Mod_noSeen_0, Mod_noSeen_5, Mod_noSeen_12, Mod_noSeen_27, Mod_noSeen_39, Mod_noSeen_45, wr_id, ix_id, okx, if_pos, if_neg, Int.toNat_of_nonneg, bak_v, bak_n, wr_b01, wr_bt, b01_or, b01_0, b01_1, lc_lt0, lc_gt0, lc_eq0, wl_wr, wr_wr, wl_id, true_and, and_true, true_or, or_true, not_true_eq_false, not_false_eq_true, nc0, nc1, nc2, nc3, nc4, nc5, nc6, nc7, nc8, nc9, nc10, nc11, nc12, nc13, nc14, nc15, nc16, nc17, nc18, nc19, nc20, nc21, nc22, nc23, nc35, nc47, nc59, nc60, nc61, nc73, nc74, nc214, nc215, nc1115, nc2230, nc3345, if_true, if_false, Int.reduceToNat, hm.k, hm.r1, hm.r2, hm.r3, hm.r4, hm.r15, hm.r16, hm.r19, hm.r23, hm.r24, hm.r25, hm.r26, hm.r29, hm.r30, hm.r31, hm.r33, hm.r34, hm.r35, hm.k73, hm.k74, hm.k75, hm.k76, hm.k77, hm.k78, hm.k79, hm.k80, hm.k81, hm.k82, hm.k83, hm.k84, hm.k85, hm.k86, hm.k87, hm.k88, hm.k89, hm.n73, hm.n74, hm.n75, hm.n76, hm.n77, hm.n78, hm.n79, hm.n80, hm.n81, hm.n82, hm.n83, hm.n84, hm.n85, hm.n86, hm.n87, hm.n88, hm.n89, m_noTray hm mt tg, c, t2, ms.2, c2, el]
      · simp (disch := omega) only [Mod_noSeen_0, Mod_noSeen_5, Mod_noSeen_12, Mod_noSeen_27, Mod_noSeen_39, Mod_noSeen_42, wr_id, ix_id, okx, if_pos, if_neg, Int.toNat_of_nonneg, bak_v, bak_n, wr_b01, wr_bt, b01_or, b01_0, b01_1, lc_lt0, lc_gt0, lc_eq0, wl_wr, wr_wr, wl_id, true_and, and_true, true_or, or_true, not_true_eq_false, not_false_eq_true, nc0, nc1, nc2, nc3, nc4, nc5, nc6, nc7, nc8, nc9, nc10, nc11, nc12, nc13, nc14, nc15, nc16, nc17, nc18, nc19, nc20, nc21, nc22, nc23, nc35, nc47, nc59, nc60, nc61, nc73, nc74, nc214, nc215, nc1115, nc2230, nc3345, if_true, if_false, Int.reduceToNat, hm.k, hm.r1, hm.r2, hm.r3, hm.r4, hm.r15, hm.r16, hm.r19, hm.r23, hm.r24, hm.r25, hm.r26, hm.r29, hm.r30, hm.r31, hm.r33, hm.r34, hm.r35, hm.k73, hm.k74, hm.k75, hm.k76, hm.k77, hm.k78, hm.k79, hm.k80, hm.k81, hm.k82, hm.k83, hm.k84, hm.k85, hm.k86, hm.k87, hm.k88, hm.k89, hm.n73, hm.n74, hm.n75, hm.n76, hm.n77, hm.n78, hm.n79, hm.n80, hm.n81, hm.n82, hm.n83, hm.n84, hm.n85, hm.n86, hm.n87, hm.n88, hm.n89, m_noTray hm mt tg, c, t2, ms.2, c2]
    · rw [if_neg c2]
      by_cases c3 : rm t = S 2 - 1
      · rw [if_neg (fun q => q c3)]
        simp (disch := omega) only [Mod_noSeen_0, Mod_noSeen_5, Mod_noSeen_12, Mod_noSeen_31, Mod_noSeen_39, Mod_noSeen_45, wr_id, ix_id, okx, if_pos, if_neg, Int.toNat_of_nonneg, bak_v, bak_n, wr_b01, wr_bt, b01_or, b01_0, b01_1, lc_lt0, lc_gt0, lc_eq0, wl_wr, wr_wr, wl_id, true_and, and_true, true_or, or_true, not_true_eq_false, not_false_eq_true, nc0, nc1, nc2, nc3, nc4, nc5, nc6, nc7, nc8, nc9, nc10, nc11, nc12, nc13, nc14, nc15, nc16, nc17, nc18, nc19, nc20, nc21, nc22, nc23, nc35, nc47, nc59, nc60, nc61, nc73, nc74, nc214, nc215, nc1115, nc2230, nc3345, if_true, if_false, Int.reduceToNat, hm.k, hm.r1, hm.r2, hm.r3, hm.r4, hm.r15, hm.r16, hm.r19, hm.r23, hm.r24, hm.r25, hm.r26, hm.r29, hm.r30, hm.r31, hm.r33, hm.r34, hm.r35, hm.k73, hm.k74, hm.k75, hm.k76, hm.k77, hm.k78, hm.k79, hm.k80, hm.k81, hm.k82, hm.k83, hm.k84, hm.k85, hm.k86, hm.k87, hm.k88, hm.k89, hm.n73, hm.n74, hm.n75, hm.n76, hm.n77, hm.n78, hm.n79, hm.n80, hm.n81, hm.n82, hm.n83, hm.n84, hm.n85, hm.n86, hm.n87, hm.n88, hm.n89, m_noTray hm mt tg, c, t2, ms.2, el]
      · simp (disch := omega) only [Mod_noSeen_0, Mod_noSeen_5, Mod_noSeen_12, Mod_noSeen_31, Mod_noSeen_39, Mod_noSeen_42, wr_id, ix_id, okx, if_pos, if_neg, Int.toNat_of_nonneg, bak_v, bak_n, wr_b01, wr_bt, b01_or, b01_0, b01_1, lc_lt0, lc_gt0, lc_eq0, wl_wr, wr_wr, wl_id, true_and, and_true, true_or, or_true, not_true_eq_false, not_false_eq_true, nc0, nc1, nc2, nc3, nc4, nc5, nc6, nc7, nc8, nc9, nc10, nc11, nc12, nc13, nc14, nc15, nc16, nc17, nc18, nc19, nc20, nc21, nc22, nc23, nc35, nc47, nc59, nc60, nc61, nc73, nc74, nc214, nc215, nc1115, nc2230, nc3345, if_true, if_false, Int.reduceToNat, hm.k, hm.r1, hm.r2, hm.r3, hm.r4, hm.r15, hm.r16, hm.r19, hm.r23, hm.r24, hm.r25, hm.r26, hm.r29, hm.r30, hm.r31, hm.r33, hm.r34, hm.r35, hm.k73, hm.k74, hm.k75, hm.k76, hm.k77, hm.k78, hm.k79, hm.k80, hm.k81, hm.k82, hm.k83, hm.k84, hm.k85, hm.k86, hm.k87, hm.k88, hm.k89, hm.n73, hm.n74, hm.n75, hm.n76, hm.n77, hm.n78, hm.n79, hm.n80, hm.n81, hm.n82, hm.n83, hm.n84, hm.n85, hm.n86, hm.n87, hm.n88, hm.n89, m_noTray hm mt tg, c, t2, ms.2]
  · rw [if_pos c]
    simp (disch := omega) only [Mod_noSeen_0, Mod_noSeen_5, Mod_noSeen_10, wr_id, ix_id, okx, if_pos, if_neg, Int.toNat_of_nonneg, bak_v, bak_n, wr_b01, wr_bt, b01_or, b01_0, b01_1, lc_lt0, lc_gt0, lc_eq0, wl_wr, wr_wr, wl_id, true_and, and_true, true_or, or_true, not_true_eq_false, not_false_eq_true, nc0, nc1, nc2, nc3, nc4, nc5, nc6, nc7, nc8, nc9, nc10, nc11, nc12, nc13, nc14, nc15, nc16, nc17, nc18, nc19, nc20, nc21, nc22, nc23, nc35, nc47, nc59, nc60, nc61, nc73, nc74, nc214, nc215, nc1115, nc2230, nc3345, if_true, if_false, Int.reduceToNat, hm.k, hm.r1, hm.r2, hm.r3, hm.r4, hm.r15, hm.r16, hm.r19, hm.r23, hm.r24, hm.r25, hm.r26, hm.r29, hm.r30, hm.r31, hm.r33, hm.r34, hm.r35, hm.k73, hm.k74, hm.k75, hm.k76, hm.k77, hm.k78, hm.k79, hm.k80, hm.k81, hm.k82, hm.k83, hm.k84, hm.k85, hm.k86, hm.k87, hm.k88, hm.k89, hm.n73, hm.n74, hm.n75, hm.n76, hm.n77, hm.n78, hm.n79, hm.n80, hm.n81, hm.n82, hm.n83, hm.n84, hm.n85, hm.n86, hm.n87, hm.n88, hm.n89, m_noTray hm mt tg]
theorem noS_rng (S rs rm nb : Int → Int) (t : Int) : -6 ≤ noS S rs rm nb t ∧ noS S rs rm nb t ≤ 0 := by
  have := noT_rng rs t
  unfold noS
  repeat' split
  all_goals omega
theorem noS_0 {S rs rm nb : Int → Int} {t : Int} (h : noS S rs rm nb t = 0) : ((0 ≤ t ∧ t < 4) ∧ ¬ rs t = -1) ∧ rm t = (if S 2 = 0 then 0 else S 2 - 1) ∧ ∀ k, 0 ≤ k → k < rm t → -2 ≤ nb (40 * t + k) := by
  unfold noS at h
  generalize (if S 2 = 0 then (0 : Int) else S 2 - 1) = gq at h ⊢
  split at h
  · rename_i c; exact absurd h c
  · rename_i c
    split at h
    · omega
    · rename_i c2
      split at h
      · rename_i c3
        refine ⟨noT_0 (Decidable.not_not.mp c), Decidable.not_not.mp c2, fun k k0 k1 => ?_⟩
        rcases ff_spec (p := fun k => decide (nb (40 * t + k) < -2)) (N := rm t) 0 with q | q
        · have := q.2 k k0 k1
          simpa using this
        · omega
      · omega
def ansSeen (S rs rm nb : Int → Int) (t : Int) : Int := if ¬ noS S rs rm nb t = 0 then noS S rs rm nb t else Ctr S nb (-1) (-1) t (fullN S) (-1) (-1)
theorem mm_seen {d : Nat} {h : Hp} {S G T rs rm nb : Int → Int} {n fk fp : Int} (mb : MB h S G T rs rm nb n fk fp) (g : Gd S) (tg : TG rs rm nb) {t : Int} (rt : -2147483648 ≤ t ∧ t ≤ 2147483647) : ∃ h', cal (d+6) m_Mod_seen [.inr (.inr (72)), .inl (t)] (h) = some (.inr (.inl (ansSeen S rs rm nb t)), h') ∧ MB h' S G T rs rm nb n fk fp ∧ Fr wQ h h' := by
  have ms0 : MS (pI h 72 0 0) S := mb.1.o (by omega)
  have f0 : Fr wQ h (pI h 72 0 0) := f72 (by omega)
  have hk := mb.1.1.k
  have hm := ms0.1
  have mb0 := mb.fr f0 ms0
  have nr := noS_rng S rs rm nb t
  have fs := fullN_spec S
  have en := m_noSeen (d := d + 2) ms0 g mb0.2.2.2.2 tg rt
  unfold ansSeen
  by_cases c : noS S rs rm nb t = 0
  · rw [if_neg (fun q => q c)]
    obtain ⟨n1, n2, n3⟩ := noS_0 c
    obtain ⟨h1, e1, w1, tb1, f1⟩ := m_fullOf (d := d) ms0 mb0.2.2.2.2.2.2 tg.2 g
    obtain ⟨h2, e2, w2, tb2, f2⟩ := m_laysWays (d := d + 2) (oh := -1) (or := -1) (t := t) w1.1 w1.2.1 tg.2 (Or.inr n1.1) (by omega) (by omega) g
    have e3 := m_waysOf (d := d + 3) w2 g tb2 (n := fullN S) (by omega)
    have ff := f0.tr ((fWy f1).tr (fWy f2))
    refine ⟨h2, ?_, mb.fr ff w2.1, ff⟩
    show EX (d+5) m_Mod_seen 0 [(0, .inr (.inr (72))), (1, .inl (t))] [] (h) = _
    simp (disch := omega) only [Mod_seen_0, Mod_seen_5, Mod_seen_10, Mod_seen_15, Mod_seen_18, Mod_seen_22, Mod_seen_30, Mod_seen_35, wr_id, ix_id, okx, if_pos, if_neg, Int.toNat_of_nonneg, bak_v, bak_n, wr_b01, wr_bt, b01_or, b01_0, b01_1, lc_lt0, lc_gt0, lc_eq0, wl_wr, wr_wr, wl_id, true_and, and_true, true_or, or_true, not_true_eq_false, not_false_eq_true, nc0, nc1, nc2, nc3, nc4, nc5, nc6, nc7, nc8, nc9, nc10, nc11, nc12, nc13, nc14, nc15, nc16, nc17, nc18, nc19, nc20, nc21, nc22, nc23, nc35, nc47, nc59, nc60, nc61, nc73, nc74, nc214, nc215, nc1115, nc2230, nc3345, if_true, if_false, Int.reduceToNat, hk, hm.k, en, c, e1, w1.1.1.k, e2, w2.1.1.k, e3]
  · rw [if_pos c]
    refine ⟨pI h 72 0 0, ?_, mb0, f0⟩
    show EX (d+5) m_Mod_seen 0 [(0, .inr (.inr (72))), (1, .inl (t))] [] (h) = _
    simp (disch := omega) only [Mod_seen_0, Mod_seen_5, Mod_seen_10, Mod_seen_15, Mod_seen_18, Mod_seen_22, Mod_seen_30, Mod_seen_35, wr_id, ix_id, okx, if_pos, if_neg, Int.toNat_of_nonneg, bak_v, bak_n, wr_b01, wr_bt, b01_or, b01_0, b01_1, lc_lt0, lc_gt0, lc_eq0, wl_wr, wr_wr, wl_id, true_and, and_true, true_or, or_true, not_true_eq_false, not_false_eq_true, nc0, nc1, nc2, nc3, nc4, nc5, nc6, nc7, nc8, nc9, nc10, nc11, nc12, nc13, nc14, nc15, nc16, nc17, nc18, nc19, nc20, nc21, nc22, nc23, nc35, nc47, nc59, nc60, nc61, nc73, nc74, nc214, nc215, nc1115, nc2230, nc3345, if_true, if_false, Int.reduceToNat, hk, hm.k, en]
def ansSure (S rs rm nb : Int → Int) (t x : Int) : Int := if ¬ (0 ≤ t ∧ t < 4) ∨ ¬ (0 ≤ x ∧ x < S 1) then -2 else if ¬ noS S rs rm nb t = 0 then noS S rs rm nb t else if Ctr S nb (-1) (-1) t (fullN S) (-1) (-1) = 0 then -8 else if Ctr S nb x (-1) t (fullN S) (-1) (-1) = Ctr S nb (-1) (-1) t (fullN S) (-1) (-1) then -1 else if ff (fun r => decide (Ctr S nb x r t (fullN S) (-1) (-1) = 0)) 0 (S 2) = -1 then -8 else ff (fun r => decide (Ctr S nb x r t (fullN S) (-1) (-1) = 0)) 0 (S 2)
theorem m_sure_l {d : Nat} {S nb : Int → Int} {t x : Int} (ht : 0 ≤ t ∧ t < 4) (hx : 0 ≤ x ∧ x < S 1) (n64 : N64 nb) (g : Gd S) : ∀ r, 0 ≤ r → r ≤ 12 → ∀ h, MS h S → (∀ k : Nat, hL h 89 k = nb k) → ∃ h', EX (d+3) m_Mod_sure 95 [(0, .inr (.inr (72))), (1, .inl (t)), (2, .inl (x)), (4, .inl (fullN S)), (7, .inl (r))] [] (h) = some (.inl (if ff (fun r => decide (Ctr S nb x r t (fullN S) (-1) (-1) = 0)) r (S 2) = -1 then -8 else ff (fun r => decide (Ctr S nb x r t (fullN S) (-1) (-1) = 0)) r (S 2)), h') ∧ MS h' S ∧ Fr pWy h h' := by
  have ga := g.a
  have gb := g.b
  have fs := fullN_spec S
  refine up_ind (hi := S 2) ?_ ?_
  · intro r hr h0 h1 h ms hnb
    have hm := ms.1
    refine ⟨h, ?_, ms, Fr.rf⟩
    rw [Mod_sure_95]
    simp (disch := omega) only [Mod_sure_134, wr_id, ix_id, okx, if_pos, if_neg, Int.toNat_of_nonneg, bak_v, bak_n, wr_b01, wr_bt, b01_or, b01_0, b01_1, lc_lt0, lc_gt0, lc_eq0, wl_wr, wr_wr, wl_id, true_and, and_true, true_or, or_true, not_true_eq_false, not_false_eq_true, nc0, nc1, nc2, nc3, nc4, nc5, nc6, nc7, nc8, nc9, nc10, nc11, nc12, nc13, nc14, nc15, nc16, nc17, nc18, nc19, nc20, nc21, nc22, nc23, nc35, nc47, nc59, nc60, nc61, nc73, nc74, nc214, nc215, nc1115, nc2230, nc3345, if_true, if_false, Int.reduceToNat, hm.k, hm.r1, hm.r2, hm.r3, hm.r4, hm.r15, hm.r16, hm.r19, hm.r23, hm.r24, hm.r25, hm.r26, hm.r29, hm.r30, hm.r31, hm.r33, hm.r34, hm.r35, hm.k73, hm.k74, hm.k75, hm.k76, hm.k77, hm.k78, hm.k79, hm.k80, hm.k81, hm.k82, hm.k83, hm.k84, hm.k85, hm.k86, hm.k87, hm.k88, hm.k89, hm.n73, hm.n74, hm.n75, hm.n76, hm.n77, hm.n78, hm.n79, hm.n80, hm.n81, hm.n82, hm.n83, hm.n84, hm.n85, hm.n86, hm.n87, hm.n88, hm.n89, ms.2, ff_stop]
  · intro r hr ih h0 h1 h ms hnb
    have hm := ms.1
    obtain ⟨h1', e1, w1, tb1, f1⟩ := m_laysWays (d := d) (oh := x) (or := r) (t := t) ms hnb n64 (Or.inr ht) (by omega) (by omega) g
    have e2 := m_waysOf (d := d + 1) w1 g tb1 (n := fullN S) (by omega)
    have rg := Ctr_rng g nb x r t (fullN S) (x := -1) (r := -1) (by omega) (by omega)
    have i1 : ¬ r = -1 := by omega
    by_cases c : Ctr S nb x r t (fullN S) (-1) (-1) = 0
    · refine ⟨h1', ?_, w1.1, f1⟩
      rw [Mod_sure_95]
      simp (disch := omega) only [Mod_sure_106, Mod_sure_114, Mod_sure_120, Mod_sure_125, wr_id, ix_id, okx, if_pos, if_neg, Int.toNat_of_nonneg, bak_v, bak_n, wr_b01, wr_bt, b01_or, b01_0, b01_1, lc_lt0, lc_gt0, lc_eq0, wl_wr, wr_wr, wl_id, true_and, and_true, true_or, or_true, not_true_eq_false, not_false_eq_true, nc0, nc1, nc2, nc3, nc4, nc5, nc6, nc7, nc8, nc9, nc10, nc11, nc12, nc13, nc14, nc15, nc16, nc17, nc18, nc19, nc20, nc21, nc22, nc23, nc35, nc47, nc59, nc60, nc61, nc73, nc74, nc214, nc215, nc1115, nc2230, nc3345, if_true, if_false, Int.reduceToNat, hm.k, hm.r1, hm.r2, hm.r3, hm.r4, hm.r15, hm.r16, hm.r19, hm.r23, hm.r24, hm.r25, hm.r26, hm.r29, hm.r30, hm.r31, hm.r33, hm.r34, hm.r35, hm.k73, hm.k74, hm.k75, hm.k76, hm.k77, hm.k78, hm.k79, hm.k80, hm.k81, hm.k82, hm.k83, hm.k84, hm.k85, hm.k86, hm.k87, hm.k88, hm.k89, hm.n73, hm.n74, hm.n75, hm.n76, hm.n77, hm.n78, hm.n79, hm.n80, hm.n81, hm.n82, hm.n83, hm.n84, hm.n85, hm.n86, hm.n87, hm.n88, hm.n89, ms.2, e1, w1.1.1.k, e2, c, ff_step hr]
      simp [i1]
    · obtain ⟨h2, e3, ms2, f2⟩ := ih (by omega) (by omega) h1' w1.1 w1.2.1
      refine ⟨h2, ?_, ms2, f1.tr f2⟩
      rw [Mod_sure_95]
      simp (disch := omega) only [Mod_sure_106, Mod_sure_114, Mod_sure_120, Mod_sure_128, wr_id, ix_id, okx, if_pos, if_neg, Int.toNat_of_nonneg, bak_v, bak_n, wr_b01, wr_bt, b01_or, b01_0, b01_1, lc_lt0, lc_gt0, lc_eq0, wl_wr, wr_wr, wl_id, true_and, and_true, true_or, or_true, not_true_eq_false, not_false_eq_true, nc0, nc1, nc2, nc3, nc4, nc5, nc6, nc7, nc8, nc9, nc10, nc11, nc12, nc13, nc14, nc15, nc16, nc17, nc18, nc19, nc20, nc21, nc22, nc23, nc35, nc47, nc59, nc60, nc61, nc73, nc74, nc214, nc215, nc1115, nc2230, nc3345, if_true, if_false, Int.reduceToNat, hm.k, hm.r1, hm.r2, hm.r3, hm.r4, hm.r15, hm.r16, hm.r19, hm.r23, hm.r24, hm.r25, hm.r26, hm.r29, hm.r30, hm.r31, hm.r33, hm.r34, hm.r35, hm.k73, hm.k74, hm.k75, hm.k76, hm.k77, hm.k78, hm.k79, hm.k80, hm.k81, hm.k82, hm.k83, hm.k84, hm.k85, hm.k86, hm.k87, hm.k88, hm.k89, hm.n73, hm.n74, hm.n75, hm.n76, hm.n77, hm.n78, hm.n79, hm.n80, hm.n81, hm.n82, hm.n83, hm.n84, hm.n85, hm.n86, hm.n87, hm.n88, hm.n89, ms.2, e1, w1.1.1.k, e2, ff_step hr, e3]
      simp [c]
theorem mm_sure {d : Nat} {h : Hp} {S G T rs rm nb : Int → Int} {n fk fp : Int} (mb : MB h S G T rs rm nb n fk fp) (g : Gd S) (tg : TG rs rm nb) {t x : Int} (rt : -2147483648 ≤ t ∧ t ≤ 2147483647) (rx : -2147483648 ≤ x ∧ x ≤ 2147483647) : ∃ h', cal (d+6) m_Mod_sure [.inr (.inr (72)), .inl (t), .inl (x)] (h) = some (.inl (ansSure S rs rm nb t x), h') ∧ MB h' S G T rs rm nb n fk fp ∧ Fr wQ h h' := by
  have ms0 : MS (pI h 72 0 0) S := mb.1.o (by omega)
  have f0 : Fr wQ h (pI h 72 0 0) := f72 (by omega)
  have hk := mb.1.1.k
  have hm := ms0.1
  have mb0 := mb.fr f0 ms0
  have ga := g.a
  have gb := g.b
  have nr := noS_rng S rs rm nb t
  have fs := fullN_spec S
  have en := m_noSeen (d := d + 2) ms0 g mb0.2.2.2.2 tg rt
  have eh := m_isHook (d := d + 3) ms0 ga (x := x) rx
  unfold ansSure
  by_cases c0 : (0 ≤ t ∧ t < 4) ∧ (0 ≤ x ∧ x < S 1)
  · rw [if_neg (by omega)]
    by_cases c : noS S rs rm nb t = 0
    · rw [if_neg (fun q => q c)]
      obtain ⟨h1, e1, w1, tb1, f1⟩ := m_fullOf (d := d) ms0 mb0.2.2.2.2.2.2 tg.2 g
      obtain ⟨h2, e2, w2, tb2, f2⟩ := m_laysWays (d := d + 2) (oh := -1) (or := -1) (t := t) w1.1 w1.2.1 tg.2 (Or.inr c0.1) (by omega) (by omega) g
      have e3 := m_waysOf (d := d + 3) w2 g tb2 (n := fullN S) (by omega)
      have rg1 := Ctr_rng g nb (-1) (-1) t (fullN S) (x := -1) (r := -1) (by omega) (by omega)
      have ff1 := f0.tr ((fWy f1).tr (fWy f2))
      by_cases c1 : Ctr S nb (-1) (-1) t (fullN S) (-1) (-1) = 0
      · rw [if_pos c1]
        refine ⟨h2, ?_, mb.fr ff1 w2.1, ff1⟩
        show EX (d+5) m_Mod_sure 0 [(0, .inr (.inr (72))), (1, .inl (t)), (2, .inl (x))] [] (h) = _
        simp (disch := omega) only [Mod_sure_0, Mod_sure_5, Mod_sure_14, Mod_sure_17, Mod_sure_22, Mod_sure_28, Mod_sure_33, Mod_sure_40, Mod_sure_44, Mod_sure_53, Mod_sure_59, Mod_sure_68, wr_id, ix_id, okx, if_pos, if_neg, Int.toNat_of_nonneg, bak_v, bak_n, wr_b01, wr_bt, b01_or, b01_0, b01_1, lc_lt0, lc_gt0, lc_eq0, wl_wr, wr_wr, wl_id, true_and, and_true, true_or, or_true, not_true_eq_false, not_false_eq_true, nc0, nc1, nc2, nc3, nc4, nc5, nc6, nc7, nc8, nc9, nc10, nc11, nc12, nc13, nc14, nc15, nc16, nc17, nc18, nc19, nc20, nc21, nc22, nc23, nc35, nc47, nc59, nc60, nc61, nc73, nc74, nc214, nc215, nc1115, nc2230, nc3345, if_true, if_false, Int.reduceToNat, hk, hm.k, m_within, eh, en, c, e1, w1.1.1.k, e2, w2.1.1.k, e3, c1]
      · rw [if_neg c1]
        obtain ⟨h3, e4, w3, tb3, f3⟩ := m_laysWays (d := d + 2) (oh := x) (or := -1) (t := t) w2.1 w2.2.1 tg.2 (Or.inr c0.1) (by omega) (by omega) g
        have e5 := m_waysOf (d := d + 3) w3 g tb3 (n := fullN S) (by omega)
        have rg2 := Ctr_rng g nb x (-1) t (fullN S) (x := -1) (r := -1) (by omega) (by omega)
        have ff2 := ff1.tr (fWy f3)
        by_cases c2 : Ctr S nb x (-1) t (fullN S) (-1) (-1) = Ctr S nb (-1) (-1) t (fullN S) (-1) (-1)
        · rw [if_pos c2]
          refine ⟨h3, ?_, mb.fr ff2 w3.1, ff2⟩
          show EX (d+5) m_Mod_sure 0 [(0, .inr (.inr (72))), (1, .inl (t)), (2, .inl (x))] [] (h) = _
          simp (disch := omega) only [Mod_sure_0, Mod_sure_5, Mod_sure_14, Mod_sure_17, Mod_sure_22, Mod_sure_28, Mod_sure_33, Mod_sure_40, Mod_sure_44, Mod_sure_53, Mod_sure_59, Mod_sure_71, Mod_sure_78, Mod_sure_84, Mod_sure_90, wr_id, ix_id, okx, if_pos, if_neg, Int.toNat_of_nonneg, bak_v, bak_n, wr_b01, wr_bt, b01_or, b01_0, b01_1, lc_lt0, lc_gt0, lc_eq0, wl_wr, wr_wr, wl_id, true_and, and_true, true_or, or_true, not_true_eq_false, not_false_eq_true, nc0, nc1, nc2, nc3, nc4, nc5, nc6, nc7, nc8, nc9, nc10, nc11, nc12, nc13, nc14, nc15, nc16, nc17, nc18, nc19, nc20, nc21, nc22, nc23, nc35, nc47, nc59, nc60, nc61, nc73, nc74, nc214, nc215, nc1115, nc2230, nc3345, if_true, if_false, Int.reduceToNat, hk, hm.k, m_within, eh, en, c, e1, w1.1.1.k, e2, w2.1.1.k, e3, e4, w3.1.1.k, e5]
        · rw [if_neg c2]
          obtain ⟨h4, e6, ms4, f4⟩ := m_sure_l (d := d + 2) c0.1 c0.2 tg.2 g 0 (by omega) (by omega) h3 w3.1 w3.2.1
          have ff3 := ff2.tr (fWy f4)
          refine ⟨h4, ?_, mb.fr ff3 ms4, ff3⟩
          show EX (d+5) m_Mod_sure 0 [(0, .inr (.inr (72))), (1, .inl (t)), (2, .inl (x))] [] (h) = _
          simp (disch := omega) only [Mod_sure_0, Mod_sure_5, Mod_sure_14, Mod_sure_17, Mod_sure_22, Mod_sure_28, Mod_sure_33, Mod_sure_40, Mod_sure_44, Mod_sure_53, Mod_sure_59, Mod_sure_71, Mod_sure_78, Mod_sure_84, Mod_sure_92, wr_id, ix_id, okx, if_pos, if_neg, Int.toNat_of_nonneg, bak_v, bak_n, wr_b01, wr_bt, b01_or, b01_0, b01_1, lc_lt0, lc_gt0, lc_eq0, wl_wr, wr_wr, wl_id, true_and, and_true, true_or, or_true, not_true_eq_false, not_false_eq_true, nc0, nc1, nc2, nc3, nc4, nc5, nc6, nc7, nc8, nc9, nc10, nc11, nc12, nc13, nc14, nc15, nc16, nc17, nc18, nc19, nc20, nc21, nc22, nc23, nc35, nc47, nc59, nc60, nc61, nc73, nc74, nc214, nc215, nc1115, nc2230, nc3345, if_true, if_false, Int.reduceToNat, hk, hm.k, m_within, eh, en, c, e1, w1.1.1.k, e2, w2.1.1.k, e3, e4, w3.1.1.k, e5, e6]
    · rw [if_pos c]
      refine ⟨pI h 72 0 0, ?_, mb0, f0⟩
      show EX (d+5) m_Mod_sure 0 [(0, .inr (.inr (72))), (1, .inl (t)), (2, .inl (x))] [] (h) = _
      simp (disch := omega) only [Mod_sure_0, Mod_sure_5, Mod_sure_14, Mod_sure_17, Mod_sure_22, Mod_sure_28, Mod_sure_33, Mod_sure_38, wr_id, ix_id, okx, if_pos, if_neg, Int.toNat_of_nonneg, bak_v, bak_n, wr_b01, wr_bt, b01_or, b01_0, b01_1, lc_lt0, lc_gt0, lc_eq0, wl_wr, wr_wr, wl_id, true_and, and_true, true_or, or_true, not_true_eq_false, not_false_eq_true, nc0, nc1, nc2, nc3, nc4, nc5, nc6, nc7, nc8, nc9, nc10, nc11, nc12, nc13, nc14, nc15, nc16, nc17, nc18, nc19, nc20, nc21, nc22, nc23, nc35, nc47, nc59, nc60, nc61, nc73, nc74, nc214, nc215, nc1115, nc2230, nc3345, if_true, if_false, Int.reduceToNat, hk, hm.k, m_within, eh, en]
  · rw [if_pos (by omega)]
    refine ⟨pI h 72 0 0, ?_, mb0, f0⟩
    show EX (d+5) m_Mod_sure 0 [(0, .inr (.inr (72))), (1, .inl (t)), (2, .inl (x))] [] (h) = _
    by_cases c1 : 0 ≤ t ∧ t < 4
    · simp (disch := omega) only [Mod_sure_0, Mod_sure_5, Mod_sure_14, Mod_sure_17, Mod_sure_22, Mod_sure_25, wr_id, ix_id, okx, if_pos, if_neg, Int.toNat_of_nonneg, bak_v, bak_n, wr_b01, wr_bt, b01_or, b01_0, b01_1, lc_lt0, lc_gt0, lc_eq0, wl_wr, wr_wr, wl_id, true_and, and_true, true_or, or_true, not_true_eq_false, not_false_eq_true, nc0, nc1, nc2, nc3, nc4, nc5, nc6, nc7, nc8, nc9, nc10, nc11, nc12, nc13, nc14, nc15, nc16, nc17, nc18, nc19, nc20, nc21, nc22, nc23, nc35, nc47, nc59, nc60, nc61, nc73, nc74, nc214, nc215, nc1115, nc2230, nc3345, if_true, if_false, Int.reduceToNat, hk, hm.k, m_within, eh]
    · simp (disch := omega) only [Mod_sure_0, Mod_sure_5, Mod_sure_14, Mod_sure_17, Mod_sure_22, Mod_sure_25, wr_id, ix_id, okx, if_pos, if_neg, Int.toNat_of_nonneg, bak_v, bak_n, wr_b01, wr_bt, b01_or, b01_0, b01_1, lc_lt0, lc_gt0, lc_eq0, wl_wr, wr_wr, wl_id, true_and, and_true, true_or, or_true, not_true_eq_false, not_false_eq_true, nc0, nc1, nc2, nc3, nc4, nc5, nc6, nc7, nc8, nc9, nc10, nc11, nc12, nc13, nc14, nc15, nc16, nc17, nc18, nc19, nc20, nc21, nc22, nc23, nc35, nc47, nc59, nc60, nc61, nc73, nc74, nc214, nc215, nc1115, nc2230, nc3345, if_true, if_false, Int.reduceToNat, hk, hm.k, m_within, eh]
