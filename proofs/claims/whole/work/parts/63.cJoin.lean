/-! the class: Joinings, countFor -/
theorem sm_z {f : Int → Int} {N : Int} : ∀ i, (∀ j, i ≤ j → j < N → 0 ≤ f j) → sm f i N = 0 → ∀ j, i ≤ j → j < N → f j = 0 := by
  refine up_ind (hi := N) ?_ ?_
  · intro i hi _ _ j h1 h2; omega
  · intro i hi ih h hs j h1 h2
    rw [sm_step hi] at hs
    have a := h i (by omega) hi
    have b := sm_nn (f := f) (N := N) (i + 1) (fun j h1 h2 => h j (by omega) h2)
    by_cases c : j = i
    · rw [c]; omega
    · exact ih (fun j h1 h2 => h j (by omega) h2) (by omega) j (by omega) h2
theorem sm_0 {f : Int → Int} {N : Int} : ∀ i, (∀ j, i ≤ j → j < N → f j = 0) → sm f i N = 0 := by
  refine up_ind (hi := N) ?_ ?_
  · intro i hi _; exact sm_stop hi
  · intro i hi ih h
    rw [sm_step hi, h i (by omega) hi, ih (fun j h1 h2 => h j (by omega) h2)]
    rfl
theorem cnt_z {F : Int → Int → Int → Int → Bool} {B : Int → Int} {N R : Int} (hB : ∀ r, 0 < B r) : ∀ (n : Nat) (x r : Int), cnt F B N R n x r = 0 → cnt F B N R (n + 1) x r = 0 := by
  intro n
  induction n with
  | zero => intro x r h; have := hB r; simp only [cnt] at h; omega
  | succ n ih =>
    intro x r h
    have nn : ∀ n x r, 0 ≤ cnt F B N R n x r := fun n x r => cnt_nn (fun r => by have := hB r; omega) n x r
    refine sm_0 _ (fun g g1 g2 => sm_0 _ (fun s s1 s2 => ?_))
    have h1 := sm_z (x + 1) (fun g _ _ => sm_nn (r + 1) (fun s _ _ => by split; exact nn _ _ _; exact Int.le_refl 0)) h g g1 g2
    have h2 := sm_z (r + 1) (fun s _ _ => by split; exact nn _ _ _; exact Int.le_refl 0) h1 s s1 s2
    split
    · rename_i c
      rw [if_pos c] at h2
      exact ih g s h2
    · rfl
/-- ways to join so many more behind hook y at ring s; none at a broken one -/
def Mc (S : Int → Int) (m y s : Int) : Int := if bt (S 10) s = 0 then Cpl S m y s else 0
theorem Mc_rng {S : Int → Int} (g : Gd S) (m : Int) {x r : Int} (hx : 0 ≤ x ∧ x < S 1) (hr : 0 ≤ r ∧ r < S 2) : 0 ≤ Mc S m x r ∧ Mc S m x r ≤ 16777216 := by
  have := Cpl_rng g m (x := x) (r := r) (by omega) (by omega)
  unfold Mc
  split <;> omega
theorem Mc_z {S : Int → Int} {y s : Int} : ∀ j i, 0 ≤ i → i ≤ j → Mc S i y s = 0 → Mc S j y s = 0 := by
  intro j
  unfold Mc
  by_cases c : bt (S 10) s = 0
  · rw [if_pos c]
    refine up_ind (hi := j) ?_ ?_
    · intro i hi h0 h1 h; rw [if_pos c] at h; rw [show j = i by omega]; exact h
    · intro i hi ih h0 h1 h
      refine ih (by omega) (by omega) ?_
      rw [if_pos c] at h ⊢
      unfold Cpl at *
      rw [show (i + 1).toNat = i.toNat + 1 by omega]
      exact cnt_z (fun r => by simp [Bpl]) _ _ _ h
  · intro i _ _ _; rw [if_neg c]
def pC (x r : Int) (a k : Nat) : Prop := a = 61 ∧ (x * 12 + r) * 12 ≤ (k : Int) ∧ (k : Int) < (x * 12 + r) * 12 + 12
def rowC (h : Hp) (x r : Int) (acc : Int → Int) : Prop := ∀ m, 0 ≤ m → m ≤ 11 → hI h 61 ((x * 12 + r) * 12 + m).toNat = acc m
theorem rowC.fr {h h' : Hp} {x r y s : Int} {acc : Int → Int} (v : rowC h y s acc) (f : Fr (pC x r) h h') (hx : 0 ≤ x) (hr : 0 ≤ r ∧ r ≤ 11) (hy : 0 ≤ y) (hs : 0 ≤ s ∧ s ≤ 11) (ne : ¬ (x = y ∧ r = s)) : rowC h' y s acc := by
  intro m m0 m1
  rw [f.I (by unfold pC; omega)]
  exact v m m0 m1
theorem rowC.cg {h : Hp} {x r : Int} {acc acc' : Int → Int} (v : rowC h x r acc) (e : ∀ m, 0 ≤ m → m ≤ 11 → acc m = acc' m) : rowC h x r acc' := fun m m0 m1 => (v m m0 m1).trans (e m m0 m1)
theorem c_rowOf {d : Nat} {h : Hp} (x r : Int) : cal (d+1) m_Hook_rowOf [.inl (x), .inl (r)] (h) = some (.inl ((x * 12 + r) * 12), h) := Hook_rowOf_0 d x r h
theorem c_addMoved_l {d w : Nat} {x r y s : Int} (hx : 0 ≤ x ∧ x < y ∧ y ≤ 11) (hr : 0 ≤ r ∧ r < s ∧ s ≤ 11) {acc bcc : Int → Int} (hb : ∀ m, 0 ≤ bcc m ∧ bcc m ≤ 16777216) (hz : ∀ j i, 0 ≤ i → i ≤ j → bcc i = 0 → bcc j = 0) : ∀ n, 1 ≤ n → n ≤ 12 → ∀ h, CR h w → rowC h y s bcc → rowC h x r (fun m => if 1 ≤ m ∧ m < n then acc m + bcc (m - 1) else acc m) → ∃ h', EX (d) m_Joinings_addMoved 2 [(0, .inr (.inr (60))), (1, .inl ((y * 12 + s) * 12)), (2, .inl ((x * 12 + r) * 12)), (3, .inl (n))] [] (h) = some (.inl 0, h') ∧ rowC h' x r (fun m => if 1 ≤ m then acc m + bcc (m - 1) else acc m) ∧ Fr (pC x r) h h' := by
  refine up_ind (hi := 12) ?_ ?_
  · intro n hn h0 h1 h hc vb va
    refine ⟨h, ?_, va.cg (fun m m0 m1 => ?_), Fr.rf⟩
    · rw [Joinings_addMoved_2]
      simp (disch := omega) only [Joinings_addMoved_48, wr_id, ix_id, okx, if_pos, if_neg, Int.toNat_of_nonneg, bak_v, bak_n, wr_b01, wr_bt, b01_or, b01_0, b01_1, lc_lt0, lc_gt0, lc_eq0, wl_wr, wr_wr, wl_id, true_and, and_true, true_or, or_true, not_true_eq_false, not_false_eq_true, nc0, nc1, nc2, nc3, nc4, nc5, nc6, nc7, nc8, nc9, nc10, nc11, nc12, nc13, nc14, nc15, nc16, nc17, nc18, nc19, nc20, nc21, nc22, nc23, nc35, nc47, nc59, nc60, nc61, nc73, nc74, nc214, nc215, nc1115, nc2230, nc3345, if_true, if_false, Int.reduceToNat]
    · by_cases c : 1 ≤ m
      · simp only [c, true_and, show m < n by omega, if_true]
      · simp only [c, false_and, if_false]
  · intro n hn ih h0 h1 h hc vb va
    have e1 := va n (by omega) (by omega)
    dsimp only at e1
    rw [if_neg (by omega)] at e1
    have e2 := vb (n - 1) (by omega) (by omega)
    rw [show (y * 12 + s) * 12 + (n - 1) = (y * 12 + s) * 12 + n - 1 by omega] at e2
    have b1 := hb (n - 1)
    by_cases c : bcc (n - 1) = 0
    · refine ⟨h, ?_, va.cg (fun m m0 m1 => ?_), Fr.rf⟩
      · rw [Joinings_addMoved_2]
        simp (disch := omega) only [Joinings_addMoved_8, Joinings_addMoved_48, wr_id, ix_id, okx, if_pos, if_neg, Int.toNat_of_nonneg, bak_v, bak_n, wr_b01, wr_bt, b01_or, b01_0, b01_1, lc_lt0, lc_gt0, lc_eq0, wl_wr, wr_wr, wl_id, true_and, and_true, true_or, or_true, not_true_eq_false, not_false_eq_true, nc0, nc1, nc2, nc3, nc4, nc5, nc6, nc7, nc8, nc9, nc10, nc11, nc12, nc13, nc14, nc15, nc16, nc17, nc18, nc19, nc20, nc21, nc22, nc23, nc35, nc47, nc59, nc60, nc61, nc73, nc74, nc214, nc215, nc1115, nc2230, nc3345, if_true, if_false, Int.reduceToNat, hc.k6, hc.r5, hc.r6, hc.r0, hc.r2, hc.r7, hc.r8, hc.r9, hc.r10, hc.r11, hc.r12, hc.r13, hc.r14, hc.r15, hc.r16, hc.r17, hc.r18, hc.r8_0, hc.r8_1, hc.r11_0, hc.r11_1, hc.r60_0, hc.r60_1, hc.r60_4, hc.r64_0, hc.r64_3, hc.r64_4, hc.r68_0, hc.r41_0, hc.r41_1, hc.r42_0, hc.r42_1, hc.k7, hc.k8, hc.k9, hc.k11, hc.k12, hc.k13, hc.k32, hc.k41, hc.k42, hc.k43, hc.k60, hc.k61, hc.k62, hc.k63, hc.k64, hc.k65, hc.k66, hc.k67, hc.k68, hc.k69, hc.k70, hc.k71, hc.n6, hc.n7, hc.n8, hc.n9, hc.n11, hc.n12, hc.n13, hc.n32, hc.n41, hc.n42, hc.n43, hc.n60, hc.n61, hc.n62, hc.n63, hc.n64, hc.n65, hc.n66, hc.n67, hc.n68, hc.n69, hc.n70, hc.n71, e2, c]
      · by_cases c1 : 1 ≤ m
        · by_cases c2 : m < n
          · simp only [c1, c2, and_self, if_true]
          · simp only [c1, c2, and_false, if_false, if_true]
            rw [hz (m - 1) (n - 1) (by omega) (by omega) c, Int.add_zero]
        · simp only [c1, false_and, if_false]
    · have f0 : Fr (pC x r) h (pI h 61 ((x * 12 + r) * 12 + n).toNat (acc n + bcc (n - 1))) := Fr.pI Fr.rf (by unfold pC; omega)
      obtain ⟨h', e, k1, f1⟩ := ih (by omega) (by omega) _ (hc.fr f0) (vb.fr f0 (by omega) (by omega) (by omega) (by omega) (by omega)) (fun m m0 m1 => by
        rw [hI_pI]
        dsimp only
        by_cases c : m = n
        · rw [if_pos ⟨rfl, by rw [c]⟩, c, if_pos (by omega)]
        · rw [if_neg (fun q => c (by have := q.2; omega)), va m m0 m1]
          dsimp only
          by_cases c2 : 1 ≤ m ∧ m < n
          · rw [if_pos c2, if_pos (by omega)]
          · rw [if_neg c2, if_neg (by omega)])
      refine ⟨h', ?_, k1, f0.tr f1⟩
      rw [Joinings_addMoved_2]
      simp (disch := omega) only [Joinings_addMoved_8, Joinings_addMoved_21, Joinings_addMoved_42, wr_id, ix_id, okx, if_pos, if_neg, Int.toNat_of_nonneg, bak_v, bak_n, wr_b01, wr_bt, b01_or, b01_0, b01_1, lc_lt0, lc_gt0, lc_eq0, wl_wr, wr_wr, wl_id, true_and, and_true, true_or, or_true, not_true_eq_false, not_false_eq_true, nc0, nc1, nc2, nc3, nc4, nc5, nc6, nc7, nc8, nc9, nc10, nc11, nc12, nc13, nc14, nc15, nc16, nc17, nc18, nc19, nc20, nc21, nc22, nc23, nc35, nc47, nc59, nc60, nc61, nc73, nc74, nc214, nc215, nc1115, nc2230, nc3345, if_true, if_false, Int.reduceToNat, hc.k6, hc.r5, hc.r6, hc.r0, hc.r2, hc.r7, hc.r8, hc.r9, hc.r10, hc.r11, hc.r12, hc.r13, hc.r14, hc.r15, hc.r16, hc.r17, hc.r18, hc.r8_0, hc.r8_1, hc.r11_0, hc.r11_1, hc.r60_0, hc.r60_1, hc.r60_4, hc.r64_0, hc.r64_3, hc.r64_4, hc.r68_0, hc.r41_0, hc.r41_1, hc.r42_0, hc.r42_1, hc.k7, hc.k8, hc.k9, hc.k11, hc.k12, hc.k13, hc.k32, hc.k41, hc.k42, hc.k43, hc.k60, hc.k61, hc.k62, hc.k63, hc.k64, hc.k65, hc.k66, hc.k67, hc.k68, hc.k69, hc.k70, hc.k71, hc.n6, hc.n7, hc.n8, hc.n9, hc.n11, hc.n12, hc.n13, hc.n32, hc.n41, hc.n42, hc.n43, hc.n60, hc.n61, hc.n62, hc.n63, hc.n64, hc.n65, hc.n66, hc.n67, hc.n68, hc.n69, hc.n70, hc.n71, e1, e2, e]
theorem c_addMoved {d w : Nat} {h : Hp} {x r y s : Int} (hx : 0 ≤ x ∧ x < y ∧ y ≤ 11) (hr : 0 ≤ r ∧ r < s ∧ s ≤ 11) {acc bcc : Int → Int} (hb : ∀ m, 0 ≤ bcc m ∧ bcc m ≤ 16777216) (hz : ∀ j i, 0 ≤ i → i ≤ j → bcc i = 0 → bcc j = 0) (hc : CR h w) (vb : rowC h y s bcc) (va : rowC h x r acc) : ∃ h', cal (d+1) m_Joinings_addMoved [.inr (.inr (60)), .inl ((y * 12 + s) * 12), .inl ((x * 12 + r) * 12)] (h) = some (.inl 0, h') ∧ rowC h' x r (fun m => if 1 ≤ m then acc m + bcc (m - 1) else acc m) ∧ Fr (pC x r) h h' := by
  obtain ⟨h', e, q⟩ := c_addMoved_l (d := d) (w := w) hx hr hb hz 1 (by omega) (by omega) h hc vb (va.cg (fun m _ _ => by rw [if_neg (by omega)]))
  refine ⟨h', ?_, q⟩
  show EX (d) m_Joinings_addMoved 0 [(0, .inr (.inr (60))), (1, .inl ((y * 12 + s) * 12)), (2, .inl ((x * 12 + r) * 12))] [] (h) = _
  rw [Joinings_addMoved_0]
  exact e
/-- rows of the joinings beside a window: both in one heap -/
def JW (h : Hp) (w : Nat) (S : Int → Int) : Prop := CR h w ∧ WV h w S
theorem JW.fr {h h' : Hp} {w : Nat} {S : Int → Int} (j : JW h w S) {p : Nat → Nat → Prop} (f : Fr p h h') (hp : ∀ a k, p a k → 60 ≤ a) : JW h' w S := ⟨j.1.fr f, j.2.fr f (fun c k q1 q2 q3 => by have := hp c k q3; have := j.1.wd; omega)⟩
theorem pC.ge {x r : Int} : ∀ a k, pC x r a k → 60 ≤ a := fun a k q => by unfold pC at q; omega
theorem c_cB_1 {d w : Nat} {S : Int → Int} (g : Gd S) {x r y : Int} (hx : 0 ≤ x ∧ x < y ∧ y < S 1) (hr : 0 ≤ r ∧ r < S 2) : ∀ s, r + 1 ≤ s → s ≤ 12 → ∀ h acc, JW h w S → (∀ s, r < s → s < S 2 → rowC h y s (fun m => Mc S m y s)) → rowC h x r acc → ∃ h', EX (d+1) m_Joinings_countBehind 34 [(0, .inr (.inr (60))), (1, .inr (.inr (w))), (2, .inl (x)), (3, .inl (r)), (4, .inl ((x * 12 + r) * 12)), (5, .inl (y)), (6, .inl (s))] [] (h) = EX (d+1) m_Joinings_countBehind 75 [(0, .inr (.inr (60))), (1, .inr (.inr (w))), (2, .inl (x)), (3, .inl (r)), (4, .inl ((x * 12 + r) * 12)), (5, .inl (y))] [] (h') ∧ rowC h' x r (fun m => if 1 ≤ m then acc m + sm (fun s => if Fpl S x r y s = true then Cpl S (m - 1) y s else 0) s (S 2) else acc m) ∧ Fr (pC x r) h h' := by
  have ga := g.a
  have gb := g.b
  refine up_ind (hi := S 2) ?_ ?_
  · intro s hs h0 h1 h acc jw tb va
    have hw := jw.2.1
    have wv := jw.2
    refine ⟨h, ?_, va.cg (fun m m0 m1 => ?_), Fr.rf⟩
    · rw [Joinings_countBehind_34]
      simp (disch := omega) only [wr_id, ix_id, okx, if_pos, if_neg, Int.toNat_of_nonneg, bak_v, bak_n, wr_b01, wr_bt, b01_or, b01_0, b01_1, lc_lt0, lc_gt0, lc_eq0, wl_wr, wr_wr, wl_id, true_and, and_true, true_or, or_true, not_true_eq_false, not_false_eq_true, nc0, nc1, nc2, nc3, nc4, nc5, nc6, nc7, nc8, nc9, nc10, nc11, nc12, nc13, nc14, nc15, nc16, nc17, nc18, nc19, nc20, nc21, nc22, nc23, nc35, nc47, nc59, nc60, nc61, nc73, nc74, nc214, nc215, nc1115, nc2230, nc3345, if_true, if_false, Int.reduceToNat, hw.k, hw.r0, hw.r1, hw.r2, hw.r3, hw.r4, hw.k1, hw.k2, hw.k3, hw.k4, hw.k5, hw.n1, hw.n2, hw.n3, hw.n4, hw.n5, wv.f5, wv.f6, wv.f7, wv.f8, wv.f9, wv.f10, wv.f11, wv.f12, wv.f13, wv.f14, wv.pk, wv.qk, wv.hk, wv.rk]
    · rw [sm_stop hs, Int.add_zero]
      simp
  · intro s hs ih h0 h1 h acc jw tb va
    have hw := jw.2.1
    have wv := jw.2
    have hc := jw.1
    have es := c_sag (d := d) wv ga.2 gb.2 (x := x) (r := r) (y := y) (s := s) (by omega) (by omega) (by omega) (by omega) (by omega) (by omega)
    have sg := g.1.sag (x := x) (r := r) (y := y) (s := s) (by omega) (by omega) (by omega) (by omega)
    by_cases c : sagM S x r y s < 0
    · obtain ⟨h2, e2, k2, f2⟩ := ih (by omega) (by omega) h acc jw tb va
      have cf : ¬ Fpl S x r y s = true := by unfold Fpl; simp; omega
      refine ⟨h2, ?_, k2.cg (fun m m0 m1 => ?_), f2⟩
      · rw [Joinings_countBehind_34]
        simp (disch := omega) only [Joinings_countBehind_43, Joinings_countBehind_53, Joinings_countBehind_69, wr_id, ix_id, okx, if_pos, if_neg, Int.toNat_of_nonneg, bak_v, bak_n, wr_b01, wr_bt, b01_or, b01_0, b01_1, lc_lt0, lc_gt0, lc_eq0, wl_wr, wr_wr, wl_id, true_and, and_true, true_or, or_true, not_true_eq_false, not_false_eq_true, nc0, nc1, nc2, nc3, nc4, nc5, nc6, nc7, nc8, nc9, nc10, nc11, nc12, nc13, nc14, nc15, nc16, nc17, nc18, nc19, nc20, nc21, nc22, nc23, nc35, nc47, nc59, nc60, nc61, nc73, nc74, nc214, nc215, nc1115, nc2230, nc3345, if_true, if_false, Int.reduceToNat, hw.k, hw.r0, hw.r1, hw.r2, hw.r3, hw.r4, hw.k1, hw.k2, hw.k3, hw.k4, hw.k5, hw.n1, hw.n2, hw.n3, hw.n4, hw.n5, wv.f5, wv.f6, wv.f7, wv.f8, wv.f9, wv.f10, wv.f11, wv.f12, wv.f13, wv.f14, wv.pk, wv.qk, wv.hk, wv.rk, es, e2]
      · by_cases c1 : 1 ≤ m
        · simp only [c1, if_true]
          rw [sm_step hs, if_neg cf, Int.zero_add]
        · simp only [c1, if_false]
    · obtain ⟨h1', e1, k1, f1⟩ := c_addMoved (d := d) (w := w) (x := x) (r := r) (y := y) (s := s) (acc := acc) (bcc := fun m => Mc S m y s) (by omega) (by omega) (fun m => Mc_rng g m (by omega) (by omega)) (fun j i => Mc_z j i) hc (tb s (by omega) hs) va
      obtain ⟨h2, e2, k2, f2⟩ := ih (by omega) (by omega) h1' _ (jw.fr f1 pC.ge) (fun z z1 z2 => (tb z z1 z2).fr f1 (by omega) (by omega) (by omega) (by omega) (by omega)) k1
      refine ⟨h2, ?_, k2.cg (fun m m0 m1 => ?_), f1.tr f2⟩
      · rw [Joinings_countBehind_34]
        simp (disch := omega) only [Joinings_countBehind_43, Joinings_countBehind_53, Joinings_countBehind_56, Joinings_countBehind_64, Joinings_countBehind_69, wr_id, ix_id, okx, if_pos, if_neg, Int.toNat_of_nonneg, bak_v, bak_n, wr_b01, wr_bt, b01_or, b01_0, b01_1, lc_lt0, lc_gt0, lc_eq0, wl_wr, wr_wr, wl_id, true_and, and_true, true_or, or_true, not_true_eq_false, not_false_eq_true, nc0, nc1, nc2, nc3, nc4, nc5, nc6, nc7, nc8, nc9, nc10, nc11, nc12, nc13, nc14, nc15, nc16, nc17, nc18, nc19, nc20, nc21, nc22, nc23, nc35, nc47, nc59, nc60, nc61, nc73, nc74, nc214, nc215, nc1115, nc2230, nc3345, if_true, if_false, Int.reduceToNat, hw.k, hw.r0, hw.r1, hw.r2, hw.r3, hw.r4, hw.k1, hw.k2, hw.k3, hw.k4, hw.k5, hw.n1, hw.n2, hw.n3, hw.n4, hw.n5, wv.f5, wv.f6, wv.f7, wv.f8, wv.f9, wv.f10, wv.f11, wv.f12, wv.f13, wv.f14, wv.pk, wv.qk, wv.hk, wv.rk, hc.k6, hc.r5, hc.r6, hc.r0, hc.r2, hc.r7, hc.r8, hc.r9, hc.r10, hc.r11, hc.r12, hc.r13, hc.r14, hc.r15, hc.r16, hc.r17, hc.r18, hc.r8_0, hc.r8_1, hc.r11_0, hc.r11_1, hc.r60_0, hc.r60_1, hc.r60_4, hc.r64_0, hc.r64_3, hc.r64_4, hc.r68_0, hc.r41_0, hc.r41_1, hc.r42_0, hc.r42_1, hc.k7, hc.k8, hc.k9, hc.k11, hc.k12, hc.k13, hc.k32, hc.k41, hc.k42, hc.k43, hc.k60, hc.k61, hc.k62, hc.k63, hc.k64, hc.k65, hc.k66, hc.k67, hc.k68, hc.k69, hc.k70, hc.k71, hc.n6, hc.n7, hc.n8, hc.n9, hc.n11, hc.n12, hc.n13, hc.n32, hc.n41, hc.n42, hc.n43, hc.n60, hc.n61, hc.n62, hc.n63, hc.n64, hc.n65, hc.n66, hc.n67, hc.n68, hc.n69, hc.n70, hc.n71, es, c_rowOf, e1, e2]
      · by_cases c1 : 1 ≤ m
        · simp only [c1, if_true]
          rw [sm_step hs, Int.add_assoc]
          congr 1
          congr 1
          unfold Mc Fpl
          by_cases cb : bt (S 10) s = 0
          · have : 0 ≤ sagM S x r y s := by omega
            simp [cb, this]
          · simp [cb]
        · simp only [c1, if_false]
theorem c_cB_2 {d w : Nat} {S : Int → Int} (g : Gd S) {x r : Int} (hx : 0 ≤ x) (hr : 0 ≤ r ∧ r < S 2) : ∀ y, x + 1 ≤ y → y ≤ 12 → ∀ h acc, JW h w S → (∀ y s, x < y → y < S 1 → 0 ≤ s → s < S 2 → rowC h y s (fun m => Mc S m y s)) → rowC h x r acc → ∃ h', EX (d+1) m_Joinings_countBehind 20 [(0, .inr (.inr (60))), (1, .inr (.inr (w))), (2, .inl (x)), (3, .inl (r)), (4, .inl ((x * 12 + r) * 12)), (5, .inl (y))] [] (h) = EX (d+1) m_Joinings_countBehind 81 [(0, .inr (.inr (60))), (4, .inl ((x * 12 + r) * 12))] [] (h') ∧ rowC h' x r (fun m => if 1 ≤ m then acc m + sm (fun y => sm (fun s => if Fpl S x r y s = true then Cpl S (m - 1) y s else 0) (r + 1) (S 2)) y (S 1) else acc m) ∧ Fr (pC x r) h h' := by
  have ga := g.a
  have gb := g.b
  refine up_ind (hi := S 1) ?_ ?_
  · intro y hy h0 h1 h acc jw tb va
    have hw := jw.2.1
    have wv := jw.2
    refine ⟨h, ?_, va.cg (fun m m0 m1 => ?_), Fr.rf⟩
    · rw [Joinings_countBehind_20]
      simp (disch := omega) only [wr_id, ix_id, okx, if_pos, if_neg, Int.toNat_of_nonneg, bak_v, bak_n, wr_b01, wr_bt, b01_or, b01_0, b01_1, lc_lt0, lc_gt0, lc_eq0, wl_wr, wr_wr, wl_id, true_and, and_true, true_or, or_true, not_true_eq_false, not_false_eq_true, nc0, nc1, nc2, nc3, nc4, nc5, nc6, nc7, nc8, nc9, nc10, nc11, nc12, nc13, nc14, nc15, nc16, nc17, nc18, nc19, nc20, nc21, nc22, nc23, nc35, nc47, nc59, nc60, nc61, nc73, nc74, nc214, nc215, nc1115, nc2230, nc3345, if_true, if_false, Int.reduceToNat, hw.k, hw.r0, hw.r1, hw.r2, hw.r3, hw.r4, hw.k1, hw.k2, hw.k3, hw.k4, hw.k5, hw.n1, hw.n2, hw.n3, hw.n4, hw.n5, wv.f5, wv.f6, wv.f7, wv.f8, wv.f9, wv.f10, wv.f11, wv.f12, wv.f13, wv.f14, wv.pk, wv.qk, wv.hk, wv.rk]
    · rw [sm_stop hy, Int.add_zero]
      simp
  · intro y hy ih h0 h1 h acc jw tb va
    have hw := jw.2.1
    have wv := jw.2
    obtain ⟨h1', e1, k1, f1⟩ := c_cB_1 (d := d) (w := w) g (x := x) (r := r) (y := y) (by omega) hr (r + 1) (by omega) (by omega) h acc jw (fun s s1 s2 => tb y s (by omega) hy (by omega) s2) va
    obtain ⟨h2, e2, k2, f2⟩ := ih (by omega) (by omega) h1' _ (jw.fr f1 pC.ge) (fun y s z1 z2 z3 z4 => (tb y s z1 z2 z3 z4).fr f1 (by omega) (by omega) (by omega) (by omega) (by omega)) k1
    refine ⟨h2, ?_, k2.cg (fun m m0 m1 => ?_), f1.tr f2⟩
    · rw [Joinings_countBehind_20]
      simp (disch := omega) only [Joinings_countBehind_29, wr_id, ix_id, okx, if_pos, if_neg, Int.toNat_of_nonneg, bak_v, bak_n, wr_b01, wr_bt, b01_or, b01_0, b01_1, lc_lt0, lc_gt0, lc_eq0, wl_wr, wr_wr, wl_id, true_and, and_true, true_or, or_true, not_true_eq_false, not_false_eq_true, nc0, nc1, nc2, nc3, nc4, nc5, nc6, nc7, nc8, nc9, nc10, nc11, nc12, nc13, nc14, nc15, nc16, nc17, nc18, nc19, nc20, nc21, nc22, nc23, nc35, nc47, nc59, nc60, nc61, nc73, nc74, nc214, nc215, nc1115, nc2230, nc3345, if_true, if_false, Int.reduceToNat, hw.k, hw.r0, hw.r1, hw.r2, hw.r3, hw.r4, hw.k1, hw.k2, hw.k3, hw.k4, hw.k5, hw.n1, hw.n2, hw.n3, hw.n4, hw.n5, wv.f5, wv.f6, wv.f7, wv.f8, wv.f9, wv.f10, wv.f11, wv.f12, wv.f13, wv.f14, wv.pk, wv.qk, wv.hk, wv.rk, e1]
      rw [Joinings_countBehind_75]
      exact e2
    · by_cases c1 : 1 ≤ m
      · simp only [c1, if_true]
        rw [sm_step hy, Int.add_assoc]
      · simp only [c1, if_false]
theorem c_cB_3 {d w : Nat} {x r : Int} (hx : 0 ≤ x ∧ x ≤ 11) (hr : 0 ≤ r ∧ r ≤ 11) {acc tot : Int → Int} : ∀ n, 0 ≤ n → n ≤ 12 → ∀ h, CR h w → rowC h x r acc → (∀ m, 0 ≤ m → m ≤ 12 → hI h 62 m.toNat = if 1 ≤ m ∧ m ≤ n then tot m + acc (m - 1) else tot m) → ∃ h', EX (d) m_Joinings_countBehind 84 [(0, .inr (.inr (60))), (4, .inl ((x * 12 + r) * 12)), (5, .inl (n))] [] (h) = some (.inl 0, h') ∧ (∀ m, 0 ≤ m → m ≤ 12 → hI h' 62 m.toNat = if 1 ≤ m then tot m + acc (m - 1) else tot m) ∧ Fr (fun a _ => a = 62) h h' := by
  refine up_ind (hi := 12) ?_ ?_
  · intro n hn h0 h1 h hc va vt
    refine ⟨h, ?_, fun m m0 m1 => ?_, Fr.rf⟩
    · rw [Joinings_countBehind_84]
      simp (disch := omega) only [Joinings_countBehind_119, wr_id, ix_id, okx, if_pos, if_neg, Int.toNat_of_nonneg, bak_v, bak_n, wr_b01, wr_bt, b01_or, b01_0, b01_1, lc_lt0, lc_gt0, lc_eq0, wl_wr, wr_wr, wl_id, true_and, and_true, true_or, or_true, not_true_eq_false, not_false_eq_true, nc0, nc1, nc2, nc3, nc4, nc5, nc6, nc7, nc8, nc9, nc10, nc11, nc12, nc13, nc14, nc15, nc16, nc17, nc18, nc19, nc20, nc21, nc22, nc23, nc35, nc47, nc59, nc60, nc61, nc73, nc74, nc214, nc215, nc1115, nc2230, nc3345, if_true, if_false, Int.reduceToNat]
    · rw [vt m m0 m1]
      by_cases c : 1 ≤ m
      · rw [if_pos (by omega), if_pos c]
      · rw [if_neg (by omega), if_neg c]
  · intro n hn ih h0 h1 h hc va vt
    have e1 := va n (by omega) (by omega)
    have e2 := vt (n + 1) (by omega) (by omega)
    rw [if_neg (by omega)] at e2
    have f0 : Fr (fun a _ => a = 62) h (pI h 62 (n + 1).toNat (tot (n + 1) + acc n)) := Fr.pI Fr.rf (by rfl)
    obtain ⟨h', e, k1, f1⟩ := ih (by omega) (by omega) _ (hc.fr f0) (fun m m0 m1 => by rw [f0.I (by omega)]; exact va m m0 m1) (fun m m0 m1 => by
      rw [hI_pI]
      by_cases c : m = n + 1
      · rw [if_pos ⟨rfl, by rw [c]⟩, c, if_pos (by omega), show n + 1 - 1 = n by omega]
      · rw [if_neg (fun q => c (by have := q.2; omega)), vt m m0 m1]
        by_cases c2 : 1 ≤ m ∧ m ≤ n
        · rw [if_pos c2, if_pos (by omega)]
        · rw [if_neg c2, if_neg (by omega)])
    refine ⟨h', ?_, k1, f0.tr f1⟩
    rw [Joinings_countBehind_84]
    simp (disch := omega) only [Joinings_countBehind_91, Joinings_countBehind_113, wr_id, ix_id, okx, if_pos, if_neg, Int.toNat_of_nonneg, bak_v, bak_n, wr_b01, wr_bt, b01_or, b01_0, b01_1, lc_lt0, lc_gt0, lc_eq0, wl_wr, wr_wr, wl_id, true_and, and_true, true_or, or_true, not_true_eq_false, not_false_eq_true, nc0, nc1, nc2, nc3, nc4, nc5, nc6, nc7, nc8, nc9, nc10, nc11, nc12, nc13, nc14, nc15, nc16, nc17, nc18, nc19, nc20, nc21, nc22, nc23, nc35, nc47, nc59, nc60, nc61, nc73, nc74, nc214, nc215, nc1115, nc2230, nc3345, if_true, if_false, Int.reduceToNat, hc.k6, hc.r5, hc.r6, hc.r0, hc.r2, hc.r7, hc.r8, hc.r9, hc.r10, hc.r11, hc.r12, hc.r13, hc.r14, hc.r15, hc.r16, hc.r17, hc.r18, hc.r8_0, hc.r8_1, hc.r11_0, hc.r11_1, hc.r60_0, hc.r60_1, hc.r60_4, hc.r64_0, hc.r64_3, hc.r64_4, hc.r68_0, hc.r41_0, hc.r41_1, hc.r42_0, hc.r42_1, hc.k7, hc.k8, hc.k9, hc.k11, hc.k12, hc.k13, hc.k32, hc.k41, hc.k42, hc.k43, hc.k60, hc.k61, hc.k62, hc.k63, hc.k64, hc.k65, hc.k66, hc.k67, hc.k68, hc.k69, hc.k70, hc.k71, hc.n6, hc.n7, hc.n8, hc.n9, hc.n11, hc.n12, hc.n13, hc.n32, hc.n41, hc.n42, hc.n43, hc.n60, hc.n61, hc.n62, hc.n63, hc.n64, hc.n65, hc.n66, hc.n67, hc.n68, hc.n69, hc.n70, hc.n71, e1, e2, e]
def p62 (x r : Int) (a k : Nat) : Prop := pC x r a k ∨ a = 62
theorem c_countBehind {d w : Nat} {h : Hp} {S : Int → Int} (g : Gd S) {x r : Int} (hx : 0 ≤ x ∧ x < S 1) (hr : 0 ≤ r ∧ r < S 2) (hb : bt (S 10) r = 0) {tot : Int → Int} (jw : JW h w S) (tb : ∀ y s, x < y → y < S 1 → 0 ≤ s → s < S 2 → rowC h y s (fun m => Mc S m y s)) (vz : rowC h x r (fun _ => 0)) (vt : ∀ m, 0 ≤ m → m ≤ 12 → hI h 62 m.toNat = tot m) : ∃ h', cal (d+2) m_Joinings_countBehind [.inr (.inr (60)), .inr (.inr (w)), .inl (x), .inl (r)] (h) = some (.inl 0, h') ∧ rowC h' x r (fun m => Mc S m x r) ∧ (∀ m, 0 ≤ m → m ≤ 12 → hI h' 62 m.toNat = if 1 ≤ m then tot m + Mc S (m - 1) x r else tot m) ∧ Fr (p62 x r) h h' := by
  have ga := g.a
  have gb := g.b
  have hc := jw.1
  have f0 : Fr (pC x r) h (pI h 61 ((x * 12 + r) * 12).toNat 1) := Fr.pI Fr.rf (by unfold pC; omega)
  have va0 : rowC (pI h 61 ((x * 12 + r) * 12).toNat 1) x r (fun m => if m = 0 then 1 else 0) := fun m m0 m1 => by
    rw [hI_pI]
    by_cases c : m = 0
    · rw [if_pos ⟨rfl, by rw [c]; congr 1; omega⟩]; simp [c]
    · rw [if_neg (fun q => c (by have := q.2; omega)), vz m m0 m1]; simp [c]
  obtain ⟨h1, e1, k1, f1⟩ := c_cB_2 (d := d) (w := w) g (x := x) (r := r) (by omega) hr (x + 1) (by omega) (by omega) _ _ (jw.fr f0 pC.ge) (fun y s z1 z2 z3 z4 => (tb y s z1 z2 z3 z4).fr f0 (by omega) (by omega) (by omega) (by omega) (by omega)) va0
  have k1' : rowC h1 x r (fun m => Mc S m x r) := k1.cg (fun m m0 m1 => by
    unfold Mc
    rw [if_pos hb]
    by_cases c1 : 1 ≤ m
    · have c2 : ¬ m = 0 := by omega
      simp only [c1, c2, if_true, if_false, Int.zero_add]
      unfold Cpl
      rw [show m.toNat = (m - 1).toNat + 1 by omega]
      rfl
    · have c2 : m = 0 := by omega
      subst c2
      simp [Cpl, cnt, Bpl])
  obtain ⟨h2, e2, k2, f2⟩ := c_cB_3 (d := d + 1) (w := w) (x := x) (r := r) (acc := fun m => Mc S m x r) (tot := tot) (by omega) (by omega) 0 (by omega) (by omega) h1 ((hc.fr f0).fr f1) k1' (fun m m0 m1 => by rw [f1.I (by unfold pC; omega), f0.I (by unfold pC; omega), vt m m0 m1, if_neg (by omega)])
  refine ⟨h2, ?_, fun m m0 m1 => by rw [f2.I (by omega)]; exact k1' m m0 m1, k2, ((f0.tr f1).mo (fun a k q => Or.inl q)).tr (f2.mo (fun a k q => Or.inr q))⟩
  show EX (d+1) m_Joinings_countBehind 0 [(0, .inr (.inr (60))), (1, .inr (.inr (w))), (2, .inl (x)), (3, .inl (r))] [] (h) = _
  simp (disch := omega) only [Joinings_countBehind_0, Joinings_countBehind_5, Joinings_countBehind_15, wr_id, ix_id, okx, if_pos, if_neg, Int.toNat_of_nonneg, bak_v, bak_n, wr_b01, wr_bt, b01_or, b01_0, b01_1, lc_lt0, lc_gt0, lc_eq0, wl_wr, wr_wr, wl_id, true_and, and_true, true_or, or_true, not_true_eq_false, not_false_eq_true, nc0, nc1, nc2, nc3, nc4, nc5, nc6, nc7, nc8, nc9, nc10, nc11, nc12, nc13, nc14, nc15, nc16, nc17, nc18, nc19, nc20, nc21, nc22, nc23, nc35, nc47, nc59, nc60, nc61, nc73, nc74, nc214, nc215, nc1115, nc2230, nc3345, if_true, if_false, Int.reduceToNat, hc.k6, hc.r5, hc.r6, hc.r0, hc.r2, hc.r7, hc.r8, hc.r9, hc.r10, hc.r11, hc.r12, hc.r13, hc.r14, hc.r15, hc.r16, hc.r17, hc.r18, hc.r8_0, hc.r8_1, hc.r11_0, hc.r11_1, hc.r60_0, hc.r60_1, hc.r60_4, hc.r64_0, hc.r64_3, hc.r64_4, hc.r68_0, hc.r41_0, hc.r41_1, hc.r42_0, hc.r42_1, hc.k7, hc.k8, hc.k9, hc.k11, hc.k12, hc.k13, hc.k32, hc.k41, hc.k42, hc.k43, hc.k60, hc.k61, hc.k62, hc.k63, hc.k64, hc.k65, hc.k66, hc.k67, hc.k68, hc.k69, hc.k70, hc.k71, hc.n6, hc.n7, hc.n8, hc.n9, hc.n11, hc.n12, hc.n13, hc.n32, hc.n41, hc.n42, hc.n43, hc.n60, hc.n61, hc.n62, hc.n63, hc.n64, hc.n65, hc.n66, hc.n67, hc.n68, hc.n69, hc.n70, hc.n71, c_rowOf, sK_pI, hR_pI]
  refine e1.trans ?_
  rw [Joinings_countBehind_81]
  exact e2
