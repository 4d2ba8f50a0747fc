/-! rounds: the class -/
theorem ff_nil {p : Int → Bool} {N : Int} {i : Int} (h : ∀ j, i ≤ j → j < N → p j = false) : ff p i N = -1 := by
  rcases ff_spec (p := p) (N := N) i with z | ⟨z1, z2, z3, z4⟩
  · exact z.1
  · have := h _ z1 z2
    rw [this] at z3
    cases z3
theorem ff_no {p : Int → Bool} {N : Int} {i : Int} (i0 : 0 ≤ i) (h : ff p i N = -1) : ∀ j, i ≤ j → j < N → p j = false := by
  rcases ff_spec (p := p) (N := N) i with z | ⟨z1, z2, z3, z4⟩
  · exact z.2
  · omega
theorem shl_k : ∀ n : Fin 31, bShl 1 (n.1 : Int) = pw (n.1 : Int) := by decide +kernel
theorem bShl_pw {z : Int} (h0 : 0 ≤ z) (h1 : z < 31) : bShl 1 z = pw z := by
  obtain ⟨n, rfl⟩ := Int.eq_ofNat_of_zero_le h0
  exact shl_k ⟨n, by omega⟩
def twC (nb : Int → Int) (t N : Int) : Int → Bool := fun i => decide (¬ ff (fun j => decide (nb (40 * t + i) = nb (40 * t + j))) (i + 1) N = -1)
theorem rn_iff {S nb : Int → Int} {t N : Int} : (ff (rnB S nb t) 0 N = -1) ↔ (ff (wtB nb t 0 (S 2 - 1)) 0 N = -1 ∧ ff (twC nb t N) 0 N = -1) := by
  constructor
  · intro h
    have ok := rn_ok h
    refine ⟨ff_nil (fun j j0 j1 => ?_), ff_nil (fun j j0 j1 => ?_)⟩
    · have := (ok j j0 j1).1
      unfold wtB
      simp only [decide_eq_false_iff_not, Decidable.not_not]
      omega
    · unfold twC
      simp only [decide_eq_false_iff_not, Decidable.not_not]
      refine ff_nil (fun k k0 k1 => ?_)
      simp only [decide_eq_false_iff_not]
      exact (ok k (by omega) k1).2 j j0 (by omega)
  · rintro ⟨h1, h2⟩
    have a1 := ff_no (Int.le_refl 0) h1
    have a2 := ff_no (Int.le_refl 0) h2
    refine ff_nil (fun j j0 j1 => ?_)
    unfold rnB twB
    simp only [decide_eq_false_iff_not, not_or, decide_eq_true_eq, Decidable.not_not]
    refine ⟨by rw [a1 j j0 j1]; simp, ff_nil (fun k k0 k1 => ?_)⟩
    have := a2 k k0 (by omega)
    unfold twC at this
    simp only [decide_eq_false_iff_not, Decidable.not_not] at this
    have := ff_no (by omega) this j (by omega) j1
    exact this
theorem c_tw_1 {d w t : Nat} {h : Hp} {rs rm nb : Int → Int} (y : TY h w t rs rm nb) {i : Int} (hi : 0 ≤ i ∧ i < rm t) : ∀ j, 0 ≤ j → j ≤ 40 → EX (d) m_Tray_hasTwins 14 [(0, .inr (.inr (33 + 2 * t))), (1, .inl (i)), (2, .inl (j))] [] (h) = if ff (fun j => decide (nb (40 * t + i) = nb (40 * t + j))) j (rm t) = -1 then EX (d) m_Tray_hasTwins 46 [(0, .inr (.inr (33 + 2 * t))), (1, .inl (i))] [] (h) else some (.inl 1, h) := by
  obtain ⟨k1, k2, k3, k4, k5, k6⟩ := y.cells
  have v3 := ((y.2.1 t y.2.2.2.1).2 y.2.2.2.2).2.2 i.toNat (by omega)
  rw [Int.toNat_of_nonneg hi.1] at v3
  have nr := y.2.2.1.2 (40 * t + i)
  refine up_ind (hi := rm t) ?_ ?_
  · intro j hj h0 h1
    rw [Tray_hasTwins_14, ff_stop hj]
    simp (disch := omega) only [wr_id, ix_id, okx, if_pos, if_neg, Int.toNat_of_nonneg, bak_v, bak_n, wr_b01, wr_bt, b01_or, b01_0, b01_1, lc_lt0, lc_gt0, lc_eq0, wl_wr, wr_wr, wl_id, true_and, and_true, true_or, or_true, not_true_eq_false, not_false_eq_true, nc0, nc1, nc2, nc3, nc4, nc5, nc6, nc7, nc8, nc9, nc10, nc11, nc12, nc13, nc14, nc15, nc16, nc17, nc18, nc19, nc20, nc21, nc22, nc23, nc35, nc47, nc59, nc60, nc61, nc73, nc74, nc214, nc215, nc1115, nc2230, nc3345, if_true, if_false, Int.reduceToNat, k1, k5]
  · intro j hj ih h0 h1
    have v4 := ((y.2.1 t y.2.2.2.1).2 y.2.2.2.2).2.2 j.toNat (by omega)
    rw [Int.toNat_of_nonneg h0] at v4
    have nj := y.2.2.1.2 (40 * t + j)
    rw [Tray_hasTwins_14, ff_step hj]
    by_cases c : nb (40 * t + i) = nb (40 * t + j)
    · rw [if_pos (show decide (nb (40 * t + i) = nb (40 * t + j)) = true by simp [c]), if_neg (show ¬ j = -1 by omega)]
      simp (disch := omega) only [Tray_hasTwins_22, Tray_hasTwins_38, wr_id, ix_id, okx, if_pos, if_neg, Int.toNat_of_nonneg, bak_v, bak_n, wr_b01, wr_bt, b01_or, b01_0, b01_1, lc_lt0, lc_gt0, lc_eq0, wl_wr, wr_wr, wl_id, true_and, and_true, true_or, or_true, not_true_eq_false, not_false_eq_true, nc0, nc1, nc2, nc3, nc4, nc5, nc6, nc7, nc8, nc9, nc10, nc11, nc12, nc13, nc14, nc15, nc16, nc17, nc18, nc19, nc20, nc21, nc22, nc23, nc35, nc47, nc59, nc60, nc61, nc73, nc74, nc214, nc215, nc1115, nc2230, nc3345, if_true, if_false, Int.reduceToNat, k1, k2, k3, k4, k5, v3, v4]
    · rw [if_neg (show ¬ decide (nb (40 * t + i) = nb (40 * t + j)) = true by simp [c])]
      simp (disch := omega) only [Tray_hasTwins_22, Tray_hasTwins_40, wr_id, ix_id, okx, if_pos, if_neg, Int.toNat_of_nonneg, bak_v, bak_n, wr_b01, wr_bt, b01_or, b01_0, b01_1, lc_lt0, lc_gt0, lc_eq0, wl_wr, wr_wr, wl_id, true_and, and_true, true_or, or_true, not_true_eq_false, not_false_eq_true, nc0, nc1, nc2, nc3, nc4, nc5, nc6, nc7, nc8, nc9, nc10, nc11, nc12, nc13, nc14, nc15, nc16, nc17, nc18, nc19, nc20, nc21, nc22, nc23, nc35, nc47, nc59, nc60, nc61, nc73, nc74, nc214, nc215, nc1115, nc2230, nc3345, if_true, if_false, Int.reduceToNat, k1, k2, k3, k4, k5, v3, v4]
      exact ih (by omega) (by omega)
theorem c_tw_2 {d w t : Nat} {h : Hp} {rs rm nb : Int → Int} (y : TY h w t rs rm nb) : ∀ i, 0 ≤ i → i ≤ 40 → EX (d) m_Tray_hasTwins 2 [(0, .inr (.inr (33 + 2 * t))), (1, .inl (i))] [] (h) = some (.inl (b01 (¬ ff (twC nb t (rm t)) i (rm t) = -1)), h) := by
  obtain ⟨k1, k2, k3, k4, k5, k6⟩ := y.cells
  refine up_ind (hi := rm t) ?_ ?_
  · intro i hi h0 h1
    rw [Tray_hasTwins_2, ff_stop hi]
    simp (disch := omega) only [Tray_hasTwins_52, wr_id, ix_id, okx, if_pos, if_neg, Int.toNat_of_nonneg, bak_v, bak_n, wr_b01, wr_bt, b01_or, b01_0, b01_1, lc_lt0, lc_gt0, lc_eq0, wl_wr, wr_wr, wl_id, true_and, and_true, true_or, or_true, not_true_eq_false, not_false_eq_true, nc0, nc1, nc2, nc3, nc4, nc5, nc6, nc7, nc8, nc9, nc10, nc11, nc12, nc13, nc14, nc15, nc16, nc17, nc18, nc19, nc20, nc21, nc22, nc23, nc35, nc47, nc59, nc60, nc61, nc73, nc74, nc214, nc215, nc1115, nc2230, nc3345, if_true, if_false, Int.reduceToNat, k1, k5]
    rfl
  · intro i hi ih h0 h1
    have e1 := c_tw_1 (d := d) y (i := i) ⟨h0, hi⟩ (i + 1) (by omega) (by omega)
    rw [Tray_hasTwins_2, ff_step hi]
    by_cases c : ff (fun j => decide (nb (40 * t + i) = nb (40 * t + j))) (i + 1) (rm t) = -1
    · rw [if_pos c] at e1
      have nn : ¬ twC nb t (rm t) i = true := by unfold twC; simp [c]
      rw [if_neg nn]
      simp (disch := omega) only [Tray_hasTwins_10, wr_id, ix_id, okx, if_pos, if_neg, Int.toNat_of_nonneg, bak_v, bak_n, wr_b01, wr_bt, b01_or, b01_0, b01_1, lc_lt0, lc_gt0, lc_eq0, wl_wr, wr_wr, wl_id, true_and, and_true, true_or, or_true, not_true_eq_false, not_false_eq_true, nc0, nc1, nc2, nc3, nc4, nc5, nc6, nc7, nc8, nc9, nc10, nc11, nc12, nc13, nc14, nc15, nc16, nc17, nc18, nc19, nc20, nc21, nc22, nc23, nc35, nc47, nc59, nc60, nc61, nc73, nc74, nc214, nc215, nc1115, nc2230, nc3345, if_true, if_false, Int.reduceToNat, k1, k5]
      refine e1.trans ?_
      rw [Tray_hasTwins_46]
      exact ih (by omega) (by omega)
    · rw [if_neg c] at e1
      have nn : twC nb t (rm t) i = true := by unfold twC; simp [c]
      rw [if_pos nn]
      have eb : b01 (¬ i = -1) = 1 := by unfold b01; rw [if_pos (by omega)]
      rw [eb]
      simp (disch := omega) only [Tray_hasTwins_10, wr_id, ix_id, okx, if_pos, if_neg, Int.toNat_of_nonneg, bak_v, bak_n, wr_b01, wr_bt, b01_or, b01_0, b01_1, lc_lt0, lc_gt0, lc_eq0, wl_wr, wr_wr, wl_id, true_and, and_true, true_or, or_true, not_true_eq_false, not_false_eq_true, nc0, nc1, nc2, nc3, nc4, nc5, nc6, nc7, nc8, nc9, nc10, nc11, nc12, nc13, nc14, nc15, nc16, nc17, nc18, nc19, nc20, nc21, nc22, nc23, nc35, nc47, nc59, nc60, nc61, nc73, nc74, nc214, nc215, nc1115, nc2230, nc3345, if_true, if_false, Int.reduceToNat, k1, k5]
      exact e1
theorem c_hasTwins {d w t : Nat} {h : Hp} {rs rm nb : Int → Int} (y : TY h w t rs rm nb) : cal (d+1) m_Tray_hasTwins [.inr (.inr (33 + 2 * t))] (h) = some (.inl (b01 (¬ ff (twC nb t (rm t)) 0 (rm t) = -1)), h) := by
  show EX (d) m_Tray_hasTwins 0 [(0, .inr (.inr (33 + 2 * t)))] [] (h) = _
  rw [Tray_hasTwins_0]
  exact c_tw_2 y 0 (by omega) (by omega)
/-- a window and a tray of stops -/
def RW (h : Hp) (w t : Nat) (S rs rm nb : Int → Int) : Prop := TY h w t rs rm nb ∧ WV h w S
theorem RW.fr {h h' : Hp} {w t : Nat} {S rs rm nb : Int → Int} (y : RW h w t S rs rm nb) {p : Nat → Nat → Prop} (f : Fr p h h') (hp : ∀ a k, p a k → 60 ≤ a) : RW h' w t S rs rm nb := ⟨y.1.fr f hp, y.2.fr f (fun c k q1 q2 q3 => by have := hp c k q3; have := y.1.1.wd; omega)⟩
def RQ (S rm nb : Int → Int) (t : Nat) : Prop := GdW S ∧ (1 ≤ rm t ∧ rm t ≤ 8) ∧ ∀ i, 0 ≤ i → i < rm t → 0 ≤ nb (40 * t + i) ∧ nb (40 * t + i) < S 2
theorem RQ.q {S rm nb : Int → Int} {t : Nat} (r : RQ S rm nb t) : qOk (fun i => nb (40 * t + i)) (rm t) := fun i i0 i1 => by
  have := r.2.2 i i0 i1
  have := r.1.2.1
  dsimp only
  omega
theorem c_secondsBy {d w t : Nat} {h : Hp} {S rs rm nb : Int → Int} (y : RW h w t S rs rm nb) (r : RQ S rm nb t) {g c i V : Int} (hg : 0 ≤ g ∧ g < pw (rm t)) (hc : 0 ≤ c ∧ c ≤ 11) (hi : 0 ≤ i ∧ i < rm t) (cb : bt g i = 0) (hv : hI h 70 ((g + pw i) * 12 + chF S c (nb (40 * t + i))).toNat = V) : cal (d+3) m_Reckoner_secondsBy [.inr (.inr (w)), .inr (.inr (33 + 2 * t)), .inl (g), .inl (c), .inl (i), .inr (.inr (70))] (h) = some (.inl (scA S c (nb (40 * t + i)) + V), h) := by
  obtain ⟨q1, q2, q3, q4, q5, q6⟩ := y.1.cells
  have hw := y.2.1
  have hcr := y.1.1
  have h8 : pw (rm t) ≤ pw 8 := pw_mono r.2.1.2
  have e8 : pw 8 = 256 := by decide
  have qi := r.2.2 i hi.1 hi.2
  have gb := r.1.2.1
  obtain ⟨ob, a1, a2, a3⟩ := rd_A r.2.1 hg hi cb
  have ea := c_at (d := d + 1) y.1.1 y.1.2.1 y.1.2.2.1 y.1.2.2.2.1 y.1.2.2.2.2 (i := i) hi
  have cr := chF_rng r.1 (c := c) (r := nb (40 * t + i)) (by omega) (by omega)
  have es := c_secondsAt (d := d) y.2 r.1 (c := c) (r := nb (40 * t + i)) (by omega) (by omega)
  have ec := c_chairFor (d := d + 1) y.2 r.1 (c := c) (r := nb (40 * t + i)) (by omega) (by omega)
  show EX (d+2) m_Reckoner_secondsBy 0 [(0, .inr (.inr (w))), (1, .inr (.inr (33 + 2 * t))), (2, .inl (g)), (3, .inl (c)), (4, .inl (i)), (5, .inr (.inr (70)))] [] (h) = _
  have hc := hcr
  simp (disch := omega) only [Reckoner_secondsBy_0, Reckoner_secondsBy_6, Reckoner_secondsBy_16, Reckoner_secondsBy_34, wr_id, ix_id, okx, if_pos, if_neg, Int.toNat_of_nonneg, bak_v, bak_n, wr_b01, wr_bt, b01_or, b01_0, b01_1, lc_lt0, lc_gt0, lc_eq0, wl_wr, wr_wr, wl_id, true_and, and_true, true_or, or_true, not_true_eq_false, not_false_eq_true, nc0, nc1, nc2, nc3, nc4, nc5, nc6, nc7, nc8, nc9, nc10, nc11, nc12, nc13, nc14, nc15, nc16, nc17, nc18, nc19, nc20, nc21, nc22, nc23, nc35, nc47, nc59, nc60, nc61, nc73, nc74, nc214, nc215, nc1115, nc2230, nc3345, if_true, if_false, Int.reduceToNat, q1, ea, hw.k, es, ec, ob, hc.k6, hc.r5, hc.r6, hc.r0, hc.r2, hc.r7, hc.r8, hc.r9, hc.r10, hc.r11, hc.r12, hc.r13, hc.r14, hc.r15, hc.r16, hc.r17, hc.r18, hc.r8_0, hc.r8_1, hc.r11_0, hc.r11_1, hc.r60_0, hc.r60_1, hc.r60_4, hc.r64_0, hc.r64_3, hc.r64_4, hc.r68_0, hc.r41_0, hc.r41_1, hc.r42_0, hc.r42_1, hc.k7, hc.k8, hc.k9, hc.k11, hc.k12, hc.k13, hc.k32, hc.k41, hc.k42, hc.k43, hc.k60, hc.k61, hc.k62, hc.k63, hc.k64, hc.k65, hc.k66, hc.k67, hc.k68, hc.k69, hc.k70, hc.k71, hc.n6, hc.n7, hc.n8, hc.n9, hc.n11, hc.n12, hc.n13, hc.n32, hc.n41, hc.n42, hc.n43, hc.n60, hc.n61, hc.n62, hc.n63, hc.n64, hc.n65, hc.n66, hc.n67, hc.n68, hc.n69, hc.n70, hc.n71, hv]
/-- the table for a set gone by and a place of the chair -/
def tbR (h : Hp) (S rm nb : Int → Int) (t : Nat) (g c : Int) : Prop := hI h 70 (g * 12 + c).toNat = rdF S (fun i => nb (40 * t + i)) (rm t) (rm t - pc8 g).toNat g c
theorem fo_m1 {f : Int → Int} {N : Int} : ∀ i, (∀ j, i ≤ j → j < N → f j = -1) → ∀ m, fo (fun s m => mn1 (f s) m) i N m = m := by
  refine up_ind (hi := N) ?_ ?_
  · intro i hi _ m; exact fo_stop hi
  · intro i hi ih h m
    rw [fo_step hi, h i (by omega) hi]
    have : mn1 (-1) m = m := by unfold mn1; rw [if_neg (by omega)]
    rw [this]
    exact ih (fun j j0 j1 => h j (by omega) j1) m
theorem c_fr_1 {d w t n : Nat} {h : Hp} {S rs rm nb : Int → Int} (y : RW h w t S rs rm nb) (r : RQ S rm nb t) {al g c : Int} (hg : 0 ≤ g ∧ g < pw (rm t)) (hc : 0 ≤ c ∧ c < S 2) (hp : ∀ i, 0 ≤ i → i < rm t → bt g i = 0 → pc8 g + n + 1 = rm t) (tb : ∀ i, 0 ≤ i → i < rm t → bt g i = 0 → hI h 70 ((g + pw i) * 12 + chF S c (nb (40 * t + i))).toNat = rdF S (fun i => nb (40 * t + i)) (rm t) n (g + pw i) (chF S c (nb (40 * t + i)))) : ∀ i, 0 ≤ i → i ≤ 8 → ∀ m, (-1 ≤ m ∧ m ≤ 100000) → EX (d+3) m_Reckoner_fillRounds 56 [(0, .inr (.inr (w))), (1, .inr (.inr (33 + 2 * t))), (2, .inr (.inr (70))), (3, .inl (rm t)), (4, .inl (al)), (5, .inl (g)), (6, .inl (c)), (7, .inl (toF m)), (8, .inl (i))] [] (h) = EX (d+3) m_Reckoner_fillRounds 97 [(0, .inr (.inr (w))), (1, .inr (.inr (33 + 2 * t))), (2, .inr (.inr (70))), (3, .inl (rm t)), (4, .inl (al)), (5, .inl (g)), (6, .inl (c)), (7, .inl (toF (fo (fun i m => mn1 (rdV S (fun i => nb (40 * t + i)) (rm t) n g c i) m) i (rm t) m)))] [] (h) := by
  have gb := r.1.2.1
  have h8 : pw (rm t) ≤ pw 8 := pw_mono r.2.1.2
  have e8 : pw 8 = 256 := by decide
  have rn := r.2.1
  refine up_ind (hi := rm t) ?_ ?_
  · intro i hi i0 i1 m hm
    rw [Reckoner_fillRounds_56, fo_stop hi]
    simp (disch := omega) only [wr_id, ix_id, okx, if_pos, if_neg, Int.toNat_of_nonneg, bak_v, bak_n, wr_b01, wr_bt, b01_or, b01_0, b01_1, lc_lt0, lc_gt0, lc_eq0, wl_wr, wr_wr, wl_id, true_and, and_true, true_or, or_true, not_true_eq_false, not_false_eq_true, nc0, nc1, nc2, nc3, nc4, nc5, nc6, nc7, nc8, nc9, nc10, nc11, nc12, nc13, nc14, nc15, nc16, nc17, nc18, nc19, nc20, nc21, nc22, nc23, nc35, nc47, nc59, nc60, nc61, nc73, nc74, nc214, nc215, nc1115, nc2230, nc3345, if_true, if_false, Int.reduceToNat]
  · intro i hi ih i0 i1 m hm
    rw [Reckoner_fillRounds_56, fo_step hi]
    rcases bt_01 g i with cb | cb
    · have vr := rdV_rng r.1 r.2.1 r.q (n := n) (g := g) (c := c) (i := i) (hp i i0 hi cb) hg.1 hg.2 hc.1 (by omega) i0 hi cb
      have ev : rdV S (fun i => nb (40 * t + i)) (rm t) n g c i = scA S c (nb (40 * t + i)) + rdF S (fun i => nb (40 * t + i)) (rm t) n (g + pw i) (chF S c (nb (40 * t + i))) := by unfold rdV; rw [if_pos cb]
      have e := c_secondsBy (d := d) y r (g := g) (c := c) (i := i) hg (by omega) ⟨i0, hi⟩ cb (tb i i0 hi cb)
      rw [← ev] at e
      have np := hp i i0 hi cb
      have pp := (rd_B rn hg).1
      generalize rdV S (fun i => nb (40 * t + i)) (rm t) n g c i = v at *
      have tm := toF_mn (v := v) (m := m) (by omega) (by omega)
      have tv : toF v = v := by unfold toF; rw [if_neg (by omega)]
      have tr := toF_rng (v := m) (by omega)
      rw [tv] at tm
      have mr : -1 ≤ mn1 v m ∧ mn1 v m ≤ 100000 := by unfold mn1; split <;> omega
      have e2 := ih (by omega) (by omega) _ mr
      rw [tm] at e2
      simp (disch := omega) only [Reckoner_fillRounds_62, Reckoner_fillRounds_72, Reckoner_fillRounds_86, Reckoner_fillRounds_89, Reckoner_fillRounds_91, wr_id, ix_id, okx, if_pos, if_neg, Int.toNat_of_nonneg, bak_v, bak_n, wr_b01, wr_bt, b01_or, b01_0, b01_1, lc_lt0, lc_gt0, lc_eq0, wl_wr, wr_wr, wl_id, true_and, and_true, true_or, or_true, not_true_eq_false, not_false_eq_true, nc0, nc1, nc2, nc3, nc4, nc5, nc6, nc7, nc8, nc9, nc10, nc11, nc12, nc13, nc14, nc15, nc16, nc17, nc18, nc19, nc20, nc21, nc22, nc23, nc35, nc47, nc59, nc60, nc61, nc73, nc74, nc214, nc215, nc1115, nc2230, nc3345, if_true, if_false, Int.reduceToNat, bt_s, cb, e, min_s]
      exact e2
    · have ev : rdV S (fun i => nb (40 * t + i)) (rm t) n g c i = -1 := by unfold rdV; rw [if_neg (by omega)]
      have em : mn1 (rdV S (fun i => nb (40 * t + i)) (rm t) n g c i) m = m := by rw [ev]; unfold mn1; rw [if_neg (by omega)]
      rw [em]
      simp (disch := omega) only [Reckoner_fillRounds_62, Reckoner_fillRounds_91, wr_id, ix_id, okx, if_pos, if_neg, Int.toNat_of_nonneg, bak_v, bak_n, wr_b01, wr_bt, b01_or, b01_0, b01_1, lc_lt0, lc_gt0, lc_eq0, wl_wr, wr_wr, wl_id, true_and, and_true, true_or, or_true, not_true_eq_false, not_false_eq_true, nc0, nc1, nc2, nc3, nc4, nc5, nc6, nc7, nc8, nc9, nc10, nc11, nc12, nc13, nc14, nc15, nc16, nc17, nc18, nc19, nc20, nc21, nc22, nc23, nc35, nc47, nc59, nc60, nc61, nc73, nc74, nc214, nc215, nc1115, nc2230, nc3345, if_true, if_false, Int.reduceToNat, bt_s, cb]
      exact ih (by omega) (by omega) m hm
theorem c_fr_2 {d w t : Nat} {S rs rm nb : Int → Int} (r : RQ S rm nb t) {g : Int} (hg : 0 ≤ g ∧ g < pw (rm t)) : ∀ c, 0 ≤ c → c ≤ 12 → ∀ h, RW h w t S rs rm nb → (∀ z c, g < z → z < pw (rm t) → 0 ≤ c → c < S 2 → tbR h S rm nb t z c) → (∀ z, 0 ≤ z → z < c → z < S 2 → tbR h S rm nb t g z) → ∃ h', EX (d+3) m_Reckoner_fillRounds 29 [(0, .inr (.inr (w))), (1, .inr (.inr (33 + 2 * t))), (2, .inr (.inr (70))), (3, .inl (rm t)), (4, .inl (pw (rm t) - 1)), (5, .inl (g)), (6, .inl (c))] [] (h) = EX (d+3) m_Reckoner_fillRounds 115 [(0, .inr (.inr (w))), (1, .inr (.inr (33 + 2 * t))), (2, .inr (.inr (70))), (3, .inl (rm t)), (4, .inl (pw (rm t) - 1)), (5, .inl (g))] [] (h') ∧ (∀ z c, g ≤ z → z < pw (rm t) → 0 ≤ c → c < S 2 → tbR h' S rm nb t z c) ∧ Fr p70 h h' := by
  have gb := r.1.2.1
  have h8 : pw (rm t) ≤ pw 8 := pw_mono r.2.1.2
  have e8 : pw 8 = 256 := by decide
  have rn := r.2.1
  have pB := rd_B rn hg
  refine up_ind (hi := S 2) ?_ ?_
  · intro c hc c0 c1 h y tb tg
    have hw := y.2.1
    have wv := y.2
    refine ⟨h, ?_, fun z c z0 z1 z2 z3 => ?_, Fr.rf⟩
    · rw [Reckoner_fillRounds_29]
      simp (disch := omega) only [wr_id, ix_id, okx, if_pos, if_neg, Int.toNat_of_nonneg, bak_v, bak_n, wr_b01, wr_bt, b01_or, b01_0, b01_1, lc_lt0, lc_gt0, lc_eq0, wl_wr, wr_wr, wl_id, true_and, and_true, true_or, or_true, not_true_eq_false, not_false_eq_true, nc0, nc1, nc2, nc3, nc4, nc5, nc6, nc7, nc8, nc9, nc10, nc11, nc12, nc13, nc14, nc15, nc16, nc17, nc18, nc19, nc20, nc21, nc22, nc23, nc35, nc47, nc59, nc60, nc61, nc73, nc74, nc214, nc215, nc1115, nc2230, nc3345, if_true, if_false, Int.reduceToNat, hw.k, hw.r0, hw.r1, hw.r2, hw.r3, hw.r4, hw.k1, hw.k2, hw.k3, hw.k4, hw.k5, hw.n1, hw.n2, hw.n3, hw.n4, hw.n5, wv.f5, wv.f6, wv.f7, wv.f8, wv.f9, wv.f10, wv.f11, wv.f12, wv.f13, wv.f14, wv.pk, wv.qk, wv.hk, wv.rk]
    · by_cases q : z = g
      · rw [q]; exact tg c z2 (by omega) z3
      · exact tb z c (by omega) z1 z2 z3
  · intro c hc ih c0 c1 h y tb tg
    have hw := y.2.1
    have wv := y.2
    have hcr := y.1.1
    have rr := rdF_rng r.1 rn r.q (rm t - pc8 g).toNat g c (by omega) hg.1 hg.2 c0 (by omega)
    have f0 : Fr p70 h (pI h 70 (g * 12 + c).toNat (rdF S (fun i => nb (40 * t + i)) (rm t) (rm t - pc8 g).toNat g c)) := Fr.pI Fr.rf (by rfl)
    obtain ⟨h2, e2, k2, f2⟩ := ih (by omega) (by omega) _ (y.fr f0 p70.ge) (fun z c' z0 z1 z2 z3 => by
      unfold tbR
      rw [hI_pI, if_neg (by omega)]
      exact tb z c' z0 z1 z2 z3) (fun z z0 z1 z2 => by
      unfold tbR
      rw [hI_pI]
      by_cases q : z = c
      · rw [q, if_pos ⟨rfl, rfl⟩]
      · rw [if_neg (by omega)]; exact tg z z0 (by omega) z2)
    refine ⟨h2, ?_, k2, f0.tr f2⟩
    have e97 : EX (d+3) m_Reckoner_fillRounds 97 [(0, .inr (.inr (w))), (1, .inr (.inr (33 + 2 * t))), (2, .inr (.inr (70))), (3, .inl (rm t)), (4, .inl (pw (rm t) - 1)), (5, .inl (g)), (6, .inl (c)), (7, .inl (rdF S (fun i => nb (40 * t + i)) (rm t) (rm t - pc8 g).toNat g c))] [] (h) = EX (d+3) m_Reckoner_fillRounds 115 [(0, .inr (.inr (w))), (1, .inr (.inr (33 + 2 * t))), (2, .inr (.inr (70))), (3, .inl (rm t)), (4, .inl (pw (rm t) - 1)), (5, .inl (g))] [] (h2) := by
      have hc := hcr
      simp (disch := omega) only [Reckoner_fillRounds_97, Reckoner_fillRounds_109, wr_id, ix_id, okx, if_pos, if_neg, Int.toNat_of_nonneg, bak_v, bak_n, wr_b01, wr_bt, b01_or, b01_0, b01_1, lc_lt0, lc_gt0, lc_eq0, wl_wr, wr_wr, wl_id, true_and, and_true, true_or, or_true, not_true_eq_false, not_false_eq_true, nc0, nc1, nc2, nc3, nc4, nc5, nc6, nc7, nc8, nc9, nc10, nc11, nc12, nc13, nc14, nc15, nc16, nc17, nc18, nc19, nc20, nc21, nc22, nc23, nc35, nc47, nc59, nc60, nc61, nc73, nc74, nc214, nc215, nc1115, nc2230, nc3345, if_true, if_false, Int.reduceToNat, hc.k6, hc.r5, hc.r6, hc.r0, hc.r2, hc.r7, hc.r8, hc.r9, hc.r10, hc.r11, hc.r12, hc.r13, hc.r14, hc.r15, hc.r16, hc.r17, hc.r18, hc.r8_0, hc.r8_1, hc.r11_0, hc.r11_1, hc.r60_0, hc.r60_1, hc.r60_4, hc.r64_0, hc.r64_3, hc.r64_4, hc.r68_0, hc.r41_0, hc.r41_1, hc.r42_0, hc.r42_1, hc.k7, hc.k8, hc.k9, hc.k11, hc.k12, hc.k13, hc.k32, hc.k41, hc.k42, hc.k43, hc.k60, hc.k61, hc.k62, hc.k63, hc.k64, hc.k65, hc.k66, hc.k67, hc.k68, hc.k69, hc.k70, hc.k71, hc.n6, hc.n7, hc.n8, hc.n9, hc.n11, hc.n12, hc.n13, hc.n32, hc.n41, hc.n42, hc.n43, hc.n60, hc.n61, hc.n62, hc.n63, hc.n64, hc.n65, hc.n66, hc.n67, hc.n68, hc.n69, hc.n70, hc.n71]
      exact e2
    rw [Reckoner_fillRounds_29]
    by_cases ca : g = pw (rm t) - 1
    · have pe := pB.2.2.2 ca
      have np : ∀ i, 0 ≤ i → i < rm t → ¬ bt g i = 0 := fun i i0 i1 cb => by
        obtain ⟨ob, a1, a2, a3⟩ := rd_A rn hg ⟨i0, i1⟩ cb
        have := (rd_B rn ⟨a1, a2⟩).2.1
        omega
      have e1 := c_fr_1 (d := d) (n := 0) y r (al := pw (rm t) - 1) (g := g) (c := c) hg ⟨c0, hc⟩ (fun i i0 i1 q => absurd q (np i i0 i1)) (fun i i0 i1 q => absurd q (np i i0 i1)) 0 (by omega) (by omega) 0 (by omega)
      rw [fo_m1 0 (fun j j0 j1 => by unfold rdV; rw [if_neg (np j j0 j1)]), show toF 0 = 0 from rfl] at e1
      rw [show (rm t - pc8 g).toNat = 0 by omega] at e97
      simp (disch := omega) only [Reckoner_fillRounds_38, Reckoner_fillRounds_45, Reckoner_fillRounds_51, wr_id, ix_id, okx, if_pos, if_neg, Int.toNat_of_nonneg, bak_v, bak_n, wr_b01, wr_bt, b01_or, b01_0, b01_1, lc_lt0, lc_gt0, lc_eq0, wl_wr, wr_wr, wl_id, true_and, and_true, true_or, or_true, not_true_eq_false, not_false_eq_true, nc0, nc1, nc2, nc3, nc4, nc5, nc6, nc7, nc8, nc9, nc10, nc11, nc12, nc13, nc14, nc15, nc16, nc17, nc18, nc19, nc20, nc21, nc22, nc23, nc35, nc47, nc59, nc60, nc61, nc73, nc74, nc214, nc215, nc1115, nc2230, nc3345, if_true, if_false, Int.reduceToNat, hw.k, hw.r0, hw.r1, hw.r2, hw.r3, hw.r4, hw.k1, hw.k2, hw.k3, hw.k4, hw.k5, hw.n1, hw.n2, hw.n3, hw.n4, hw.n5, wv.f5, wv.f6, wv.f7, wv.f8, wv.f9, wv.f10, wv.f11, wv.f12, wv.f13, wv.f14, wv.pk, wv.qk, wv.hk, wv.rk]
      refine e1.trans ?_
      exact e97
    · have pn : ¬ pc8 g = rm t := fun q => ca (pB.2.2.1 q)
      have e1 := c_fr_1 (d := d) (n := (rm t - pc8 g - 1).toNat) y r (al := pw (rm t) - 1) (g := g) (c := c) hg ⟨c0, hc⟩ (fun i i0 i1 q => by omega) (fun i i0 i1 cb => by
        obtain ⟨ob, a1, a2, a3⟩ := rd_A rn hg ⟨i0, i1⟩ cb
        have qi := r.2.2 i i0 i1
        have cr := chF_rng r.1 (c := c) (r := nb (40 * t + i)) (by omega) (by omega)
        have pi := pw_pos i
        have := tb (g + pw i) (chF S c (nb (40 * t + i))) (by omega) a2 cr.1 (by omega)
        unfold tbR at this
        rw [show (rm t - pc8 (g + pw i)).toNat = (rm t - pc8 g - 1).toNat by omega] at this
        exact this) 0 (by omega) (by omega) (-1) (by omega)
      rw [← rdF_s, show (rm t - pc8 g - 1).toNat + 1 = (rm t - pc8 g).toNat by omega, show toF (-1) = 536870912 from rfl, show toF (rdF S (fun i => nb (40 * t + i)) (rm t) (rm t - pc8 g).toNat g c) = rdF S (fun i => nb (40 * t + i)) (rm t) (rm t - pc8 g).toNat g c by unfold toF; rw [if_neg (by omega)]] at e1
      simp (disch := omega) only [Reckoner_fillRounds_38, Reckoner_fillRounds_49, Reckoner_fillRounds_51, wr_id, ix_id, okx, if_pos, if_neg, Int.toNat_of_nonneg, bak_v, bak_n, wr_b01, wr_bt, b01_or, b01_0, b01_1, lc_lt0, lc_gt0, lc_eq0, wl_wr, wr_wr, wl_id, true_and, and_true, true_or, or_true, not_true_eq_false, not_false_eq_true, nc0, nc1, nc2, nc3, nc4, nc5, nc6, nc7, nc8, nc9, nc10, nc11, nc12, nc13, nc14, nc15, nc16, nc17, nc18, nc19, nc20, nc21, nc22, nc23, nc35, nc47, nc59, nc60, nc61, nc73, nc74, nc214, nc215, nc1115, nc2230, nc3345, if_true, if_false, Int.reduceToNat, hw.k, hw.r0, hw.r1, hw.r2, hw.r3, hw.r4, hw.k1, hw.k2, hw.k3, hw.k4, hw.k5, hw.n1, hw.n2, hw.n3, hw.n4, hw.n5, wv.f5, wv.f6, wv.f7, wv.f8, wv.f9, wv.f10, wv.f11, wv.f12, wv.f13, wv.f14, wv.pk, wv.qk, wv.hk, wv.rk]
      refine e1.trans ?_
      exact e97
theorem c_fr_3 {d w t : Nat} {S rs rm nb : Int → Int} (r : RQ S rm nb t) : ∀ g, -1 ≤ g → g < pw (rm t) → ∀ h, RW h w t S rs rm nb → (∀ z c, g < z → z < pw (rm t) → 0 ≤ c → c < S 2 → tbR h S rm nb t z c) → ∃ h', EX (d+3) m_Reckoner_fillRounds 21 [(0, .inr (.inr (w))), (1, .inr (.inr (33 + 2 * t))), (2, .inr (.inr (70))), (3, .inl (rm t)), (4, .inl (pw (rm t) - 1)), (5, .inl (g))] [] (h) = some (.inl 0, h') ∧ (∀ z c, 0 ≤ z → z < pw (rm t) → 0 ≤ c → c < S 2 → tbR h' S rm nb t z c) ∧ Fr p70 h h' := by
  have h8 : pw (rm t) ≤ pw 8 := pw_mono r.2.1.2
  have e8 : pw 8 = 256 := by decide
  refine dn_ind (lo := 0) ?_ ?_
  · intro g hg g0 g1 h y tb
    refine ⟨h, ?_, fun z c z0 z1 z2 z3 => tb z c (by omega) z1 z2 z3, Fr.rf⟩
    rw [Reckoner_fillRounds_21]
    simp (disch := omega) only [Reckoner_fillRounds_121, wr_id, ix_id, okx, if_pos, if_neg, Int.toNat_of_nonneg, bak_v, bak_n, wr_b01, wr_bt, b01_or, b01_0, b01_1, lc_lt0, lc_gt0, lc_eq0, wl_wr, wr_wr, wl_id, true_and, and_true, true_or, or_true, not_true_eq_false, not_false_eq_true, nc0, nc1, nc2, nc3, nc4, nc5, nc6, nc7, nc8, nc9, nc10, nc11, nc12, nc13, nc14, nc15, nc16, nc17, nc18, nc19, nc20, nc21, nc22, nc23, nc35, nc47, nc59, nc60, nc61, nc73, nc74, nc214, nc215, nc1115, nc2230, nc3345, if_true, if_false, Int.reduceToNat]
  · intro g hg ih g0 g1 h y tb
    obtain ⟨h1, e1, k1, f1⟩ := c_fr_2 (d := d) (w := w) (rs := rs) r (g := g) ⟨hg, g1⟩ 0 (by omega) (by omega) h y tb (fun z z0 z1 _ => by omega)
    obtain ⟨h2, e2, k2, f2⟩ := ih (by omega) (by omega) h1 (y.fr f1 p70.ge) (fun z c z0 z1 z2 z3 => k1 z c (by omega) z1 z2 z3)
    refine ⟨h2, ?_, k2, f1.tr f2⟩
    rw [Reckoner_fillRounds_21]
    simp (disch := omega) only [Reckoner_fillRounds_26, wr_id, ix_id, okx, if_pos, if_neg, Int.toNat_of_nonneg, bak_v, bak_n, wr_b01, wr_bt, b01_or, b01_0, b01_1, lc_lt0, lc_gt0, lc_eq0, wl_wr, wr_wr, wl_id, true_and, and_true, true_or, or_true, not_true_eq_false, not_false_eq_true, nc0, nc1, nc2, nc3, nc4, nc5, nc6, nc7, nc8, nc9, nc10, nc11, nc12, nc13, nc14, nc15, nc16, nc17, nc18, nc19, nc20, nc21, nc22, nc23, nc35, nc47, nc59, nc60, nc61, nc73, nc74, nc214, nc215, nc1115, nc2230, nc3345, if_true, if_false, Int.reduceToNat]
    refine e1.trans ?_
    rw [Reckoner_fillRounds_115, show g + -1 = g - 1 by omega]
    exact e2
theorem c_fillRounds {d w t : Nat} {h : Hp} {S rs rm nb : Int → Int} (y : RW h w t S rs rm nb) (r : RQ S rm nb t) : ∃ h', cal (d+4) m_Reckoner_fillRounds [.inr (.inr (w)), .inr (.inr (33 + 2 * t)), .inr (.inr (70))] (h) = some (.inl 0, h') ∧ (∀ z c, 0 ≤ z → z < pw (rm t) → 0 ≤ c → c < S 2 → tbR h' S rm nb t z c) ∧ Fr p70 h h' := by
  obtain ⟨q1, q2, q3, q4, q5, q6⟩ := y.1.cells
  have rn := r.2.1
  have pp := pw_pos (rm t)
  obtain ⟨h1, e1, k1, f1⟩ := c_fr_3 (d := d) (w := w) (rs := rs) r (pw (rm t) - 1) (by omega) (by omega) h y (fun z c z0 z1 _ _ => by omega)
  refine ⟨h1, ?_, k1, f1⟩
  show EX (d+3) m_Reckoner_fillRounds 0 [(0, .inr (.inr (w))), (1, .inr (.inr (33 + 2 * t))), (2, .inr (.inr (70)))] [] (h) = _
  simp (disch := omega) only [Reckoner_fillRounds_0, Reckoner_fillRounds_9, wr_id, ix_id, okx, if_pos, if_neg, Int.toNat_of_nonneg, bak_v, bak_n, wr_b01, wr_bt, b01_or, b01_0, b01_1, lc_lt0, lc_gt0, lc_eq0, wl_wr, wr_wr, wl_id, true_and, and_true, true_or, or_true, not_true_eq_false, not_false_eq_true, nc0, nc1, nc2, nc3, nc4, nc5, nc6, nc7, nc8, nc9, nc10, nc11, nc12, nc13, nc14, nc15, nc16, nc17, nc18, nc19, nc20, nc21, nc22, nc23, nc35, nc47, nc59, nc60, nc61, nc73, nc74, nc214, nc215, nc1115, nc2230, nc3345, if_true, if_false, Int.reduceToNat, q1, q5, min_s, bShl_pw]
  exact e1
