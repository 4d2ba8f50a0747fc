/-! the k-th full joining: pure, class, model -/
def scN (w : Int → Int) : Nat → Int → Int → Int × Int
  | 0, _, k => (-1, k)
  | m + 1, s, k => if k < w s then (s, k) else scN w m (s + 1) (k - w s)
def sc (w : Int → Int) (s R k : Int) : Int × Int := scN w (R - s).toNat s k
theorem sc_stop {w : Int → Int} {s R k : Int} (h : R ≤ s) : sc w s R k = (-1, k) := by
  unfold sc
  rw [show (R - s).toNat = 0 by omega]
  rfl
theorem sc_step {w : Int → Int} {s R k : Int} (h : s < R) : sc w s R k = if k < w s then (s, k) else sc w (s + 1) R (k - w s) := by
  unfold sc
  rw [show (R - s).toNat = (R - (s + 1)).toNat + 1 by omega]
  rfl
theorem sc_spec {w : Int → Int} {R : Int} : ∀ s, 0 ≤ s → (∀ j, s ≤ j → j < R → 0 ≤ w j) → ∀ k, 0 ≤ k → ((sc w s R k).1 = -1 ∧ (sc w s R k).2 = k - sm w s R ∧ sm w s R ≤ k) ∨ (s ≤ (sc w s R k).1 ∧ (sc w s R k).1 < R ∧ 0 ≤ (sc w s R k).2 ∧ (sc w s R k).2 < w (sc w s R k).1 ∧ k < sm w s R) := by
  refine up_ind (hi := R) ?_ ?_
  · intro s hs h0 _ k hk
    rw [sc_stop hs, sm_stop hs]
    exact Or.inl ⟨rfl, by omega, hk⟩
  · intro s hs ih h0 hw k hk
    have w0 := hw s (by omega) hs
    have nn := sm_nn (f := w) (N := R) (s + 1) (fun j h1 h2 => hw j (by omega) h2)
    rw [sc_step hs, sm_step hs]
    by_cases c : k < w s
    · rw [if_pos c]
      exact Or.inr ⟨Int.le_refl _, hs, hk, c, by omega⟩
    · rw [if_neg c]
      rcases ih (by omega) (fun j h1 h2 => hw j (by omega) h2) (k - w s) (by omega) with ⟨a1, a2, a3⟩ | ⟨a1, a2, a3, a4, a5⟩
      · exact Or.inl ⟨a1, by omega, by omega⟩
      · exact Or.inr ⟨by omega, a2, a3, a4, by omega⟩
/-- ways to go on from hook x at ring r with hook g at ring s as the next, n joins left -/
def wtF (S : Int → Int) (x r g n : Int) : Int → Int := fun s => if Fpl S x r g s = true then Cpl S (n - 1) g s else 0
theorem wtF_rng {S : Int → Int} (gd : Gd S) (x r n : Int) {g s : Int} (hg : 0 ≤ g ∧ g < S 1) (hs : 0 ≤ s ∧ s < S 2) : 0 ≤ wtF S x r g n s ∧ wtF S x r g n s ≤ 16777216 := by
  have := Cpl_rng gd (n - 1) (x := g) (r := s) (by omega) (by omega)
  unfold wtF
  split <;> omega
/-- hook by hook: the ring of hook z -/
def hwF (S : Int → Int) (z : Int) : Nat → Int → Int → Int → Int → Int → Int
  | 0, _, _, _, _, _ => -1
  | m + 1, g, x, r, n, k =>
    if g = z then (if 0 < n then (sc (wtF S x r g n) (r + 1) (S 2) k).1 else -1)
    else if 0 < n then (if (sc (wtF S x r g n) (r + 1) (S 2) k).1 = -1 then hwF S z m (g + 1) x r n (sc (wtF S x r g n) (r + 1) (S 2) k).2 else hwF S z m (g + 1) g (sc (wtF S x r g n) (r + 1) (S 2) k).1 (n - 1) (sc (wtF S x r g n) (r + 1) (S 2) k).2)
    else hwF S z m (g + 1) x r n k
theorem hwF_0 (S : Int → Int) (z : Int) : ∀ (m : Nat) (g x r k : Int), hwF S z m g x r 0 k = -1 := by
  intro m
  induction m with
  | zero => intro g x r k; rfl
  | succ m ih =>
    intro g x r k
    simp only [hwF]
    split
    · simp
    · simp [ih]
theorem c_canFollow {d w : Nat} {h : Hp} {S : Int → Int} (wv : WV h w S) (gd : Gd S) {x r g s : Int} (hx : -1 ≤ x ∧ x < g ∧ g < S 1) (hr : -1 ≤ r ∧ r < s ∧ s < S 2) (hxr : x = -1 ↔ r = -1) : cal (d+2) m_Window_canFollow [.inr (.inr (w)), .inl (x), .inl (r), .inl (g), .inl (s)] (h) = some (.inl (b01 (x = -1 ∨ 0 ≤ sagM S x r g s)), h) := by
  have hw := wv.1
  have ga := gd.a
  have gb := gd.b
  show EX (d+1) m_Window_canFollow 0 [(0, .inr (.inr (w))), (1, .inl (x)), (2, .inl (r)), (3, .inl (g)), (4, .inl (s))] [] (h) = _
  unfold b01
  by_cases c : x = -1
  · simp (disch := omega) only [Window_canFollow_0, Window_canFollow_23, Window_canFollow_28, wr_id, ix_id, okx, if_pos, if_neg, Int.toNat_of_nonneg, bak_v, bak_n, wr_b01, wr_bt, b01_or, b01_0, b01_1, lc_lt0, lc_gt0, lc_eq0, wl_wr, wr_wr, wl_id, true_and, and_true, true_or, or_true, not_true_eq_false, not_false_eq_true, nc0, nc1, nc2, nc3, nc4, nc5, nc6, nc7, nc8, nc9, nc10, nc11, nc12, nc13, nc14, nc15, nc16, nc17, nc18, nc19, nc20, nc21, nc22, nc23, nc35, nc47, nc59, nc60, nc61, nc73, nc74, nc214, nc215, nc1115, nc2230, nc3345, if_true, if_false, Int.reduceToNat, c]
  · have c' : ¬ r = -1 := fun q => c (hxr.mpr q)
    have sg := gd.1.sag (x := x) (r := r) (y := g) (s := s) (by omega) (by omega) (by omega) (by omega)
    have es := c_sag (d := d) wv ga.2 gb.2 (x := x) (r := r) (y := g) (s := s) (by omega) (by omega) (by omega) (by omega) (by omega) (by omega)
    simp (disch := omega) only [Window_canFollow_0, Window_canFollow_5, Window_canFollow_11, Window_canFollow_20, Window_canFollow_23, Window_canFollow_27, Window_canFollow_28, wr_id, ix_id, okx, if_pos, if_neg, Int.toNat_of_nonneg, bak_v, bak_n, wr_b01, wr_bt, b01_or, b01_0, b01_1, lc_lt0, lc_gt0, lc_eq0, wl_wr, wr_wr, wl_id, true_and, and_true, true_or, or_true, not_true_eq_false, not_false_eq_true, nc0, nc1, nc2, nc3, nc4, nc5, nc6, nc7, nc8, nc9, nc10, nc11, nc12, nc13, nc14, nc15, nc16, nc17, nc18, nc19, nc20, nc21, nc22, nc23, nc35, nc47, nc59, nc60, nc61, nc73, nc74, nc214, nc215, nc1115, nc2230, nc3345, if_true, if_false, Int.reduceToNat, hw.k, hw.r0, hw.r1, hw.r2, hw.r3, hw.r4, hw.k1, hw.k2, hw.k3, hw.k4, hw.k5, hw.n1, hw.n2, hw.n3, hw.n4, hw.n5, es]
    by_cases c1 : sagM S x r g s < 0
    · have c2 : ¬ 0 ≤ sagM S x r g s := by omega
      simp [c, c1, c2]
    · have c2 : 0 ≤ sagM S x r g s := by omega
      simp [c1, c2]
theorem JN.row {h : Hp} {S : Int → Int} (j : JN h S) {y s m : Int} (hy : 0 ≤ y ∧ y < S 1) (hs : 0 ≤ s ∧ s < S 2) (hm : 0 ≤ m ∧ m ≤ 11) : hI h 61 ((y * 12 + s) * 12 + m).toNat = Mc S m y s := j.1 y s hy.1 hy.2 hs.1 hs.2 m hm.1 hm.2
theorem c_rF_1 {d w : Nat} {h : Hp} {S : Int → Int} (gd : Gd S) (jw : JW h w S) (jn : JN h S) {z x r g n : Int} (hx : -1 ≤ x ∧ x < g ∧ g < S 1) (hr : -1 ≤ r ∧ r < S 2) (hxr : x = -1 ↔ r = -1) (hn : 0 < n ∧ n ≤ 12) : ∀ s, r + 1 ≤ s → s ≤ 12 → ∀ k, (0 ≤ k ∧ k ≤ 2147483647) → EX (d+2) m_Joinings_ringInFull 33 [(0, .inr (.inr (60))), (1, .inr (.inr (w))), (3, .inl (z)), (4, .inl (k)), (5, .inl (n)), (6, .inl (x)), (7, .inl (r)), (8, .inl (g)), (9, .inl (-1)), (10, .inl (s))] [] (h) = EX (d+2) m_Joinings_ringInFull 118 [(0, .inr (.inr (60))), (1, .inr (.inr (w))), (3, .inl (z)), (4, .inl ((sc (wtF S x r g n) s (S 2) k).2)), (5, .inl (n)), (6, .inl (x)), (7, .inl (r)), (8, .inl (g)), (9, .inl ((sc (wtF S x r g n) s (S 2) k).1))] [] (h) := by
  have ga := gd.a
  have gb := gd.b
  have hc := jw.1
  have hw := jw.2.1
  have wv := jw.2
  refine up_ind (hi := S 2) ?_ ?_
  · intro s hs h0 h1 k hk
    rw [Joinings_ringInFull_33, sc_stop hs]
    simp (disch := omega) only [wr_id, ix_id, okx, if_pos, if_neg, Int.toNat_of_nonneg, bak_v, bak_n, wr_b01, wr_bt, b01_or, b01_0, b01_1, lc_lt0, lc_gt0, lc_eq0, wl_wr, wr_wr, wl_id, true_and, and_true, true_or, or_true, not_true_eq_false, not_false_eq_true, nc0, nc1, nc2, nc3, nc4, nc5, nc6, nc7, nc8, nc9, nc10, nc11, nc12, nc13, nc14, nc15, nc16, nc17, nc18, nc19, nc20, nc21, nc22, nc23, nc35, nc47, nc59, nc60, nc61, nc73, nc74, nc214, nc215, nc1115, nc2230, nc3345, if_true, if_false, Int.reduceToNat, hw.k, hw.r0, hw.r1, hw.r2, hw.r3, hw.r4, hw.k1, hw.k2, hw.k3, hw.k4, hw.k5, hw.n1, hw.n2, hw.n3, hw.n4, hw.n5, wv.f5, wv.f6, wv.f7, wv.f8, wv.f9, wv.f10, wv.f11, wv.f12, wv.f13, wv.f14, wv.pk, wv.qk, wv.hk, wv.rk]
  · intro s hs ih h0 h1 k hk
    have ef := c_canFollow (d := d) wv gd (x := x) (r := r) (g := g) (s := s) hx (by omega) hxr
    have er := jn.row (y := g) (s := s) (m := n - 1) (by omega) (by omega) (by omega)
    rw [show (g * 12 + s) * 12 + (n - 1) = (g * 12 + s) * 12 + n - 1 by omega] at er
    have mr := Mc_rng gd (n - 1) (x := g) (r := s) (by omega) (by omega)
    have wr' := wtF_rng gd x r n (g := g) (s := s) (by omega) (by omega)
    have e89 : EX (d+2) m_Joinings_ringInFull 53 [(0, .inr (.inr (60))), (1, .inr (.inr (w))), (3, .inl (z)), (4, .inl (k)), (5, .inl (n)), (6, .inl (x)), (7, .inl (r)), (8, .inl (g)), (9, .inl (-1)), (10, .inl (s))] [] (h) = EX (d+2) m_Joinings_ringInFull 89 [(0, .inr (.inr (60))), (1, .inr (.inr (w))), (3, .inl (z)), (4, .inl (k)), (5, .inl (n)), (6, .inl (x)), (7, .inl (r)), (8, .inl (g)), (9, .inl (-1)), (10, .inl (s))] [.inl (wtF S x r g n s)] (h) := by
      by_cases c : x = -1 ∨ 0 ≤ sagM S x r g s
      · have ew : wtF S x r g n s = Mc S (n - 1) g s := by
          unfold wtF Mc Fpl
          by_cases cb : bt (S 10) s = 0 <;> simp [cb, c]
        rw [ew]
        simp (disch := omega) only [Joinings_ringInFull_53, Joinings_ringInFull_65, Joinings_ringInFull_68, Joinings_ringInFull_79, wr_id, ix_id, okx, if_pos, if_neg, Int.toNat_of_nonneg, bak_v, bak_n, wr_b01, wr_bt, b01_or, b01_0, b01_1, lc_lt0, lc_gt0, lc_eq0, wl_wr, wr_wr, wl_id, true_and, and_true, true_or, or_true, not_true_eq_false, not_false_eq_true, nc0, nc1, nc2, nc3, nc4, nc5, nc6, nc7, nc8, nc9, nc10, nc11, nc12, nc13, nc14, nc15, nc16, nc17, nc18, nc19, nc20, nc21, nc22, nc23, nc35, nc47, nc59, nc60, nc61, nc73, nc74, nc214, nc215, nc1115, nc2230, nc3345, if_true, if_false, Int.reduceToNat, hw.k, hw.r0, hw.r1, hw.r2, hw.r3, hw.r4, hw.k1, hw.k2, hw.k3, hw.k4, hw.k5, hw.n1, hw.n2, hw.n3, hw.n4, hw.n5, hc.k6, hc.r5, hc.r6, hc.r0, hc.r2, hc.r7, hc.r8, hc.r9, hc.r10, hc.r11, hc.r12, hc.r13, hc.r14, hc.r15, hc.r16, hc.r17, hc.r18, hc.r8_0, hc.r8_1, hc.r11_0, hc.r11_1, hc.r60_0, hc.r60_1, hc.r60_4, hc.r64_0, hc.r64_3, hc.r64_4, hc.r68_0, hc.r41_0, hc.r41_1, hc.r42_0, hc.r42_1, hc.k7, hc.k8, hc.k9, hc.k11, hc.k12, hc.k13, hc.k32, hc.k41, hc.k42, hc.k43, hc.k60, hc.k61, hc.k62, hc.k63, hc.k64, hc.k65, hc.k66, hc.k67, hc.k68, hc.k69, hc.k70, hc.k71, hc.n6, hc.n7, hc.n8, hc.n9, hc.n11, hc.n12, hc.n13, hc.n32, hc.n41, hc.n42, hc.n43, hc.n60, hc.n61, hc.n62, hc.n63, hc.n64, hc.n65, hc.n66, hc.n67, hc.n68, hc.n69, hc.n70, hc.n71, ef, c, c_rowOf, er]
      · have ew : wtF S x r g n s = 0 := by
          unfold wtF Fpl
          simp [c]
        rw [ew]
        simp (disch := omega) only [Joinings_ringInFull_53, Joinings_ringInFull_65, Joinings_ringInFull_88, wr_id, ix_id, okx, if_pos, if_neg, Int.toNat_of_nonneg, bak_v, bak_n, wr_b01, wr_bt, b01_or, b01_0, b01_1, lc_lt0, lc_gt0, lc_eq0, wl_wr, wr_wr, wl_id, true_and, and_true, true_or, or_true, not_true_eq_false, not_false_eq_true, nc0, nc1, nc2, nc3, nc4, nc5, nc6, nc7, nc8, nc9, nc10, nc11, nc12, nc13, nc14, nc15, nc16, nc17, nc18, nc19, nc20, nc21, nc22, nc23, nc35, nc47, nc59, nc60, nc61, nc73, nc74, nc214, nc215, nc1115, nc2230, nc3345, if_true, if_false, Int.reduceToNat, hw.k, hw.r0, hw.r1, hw.r2, hw.r3, hw.r4, hw.k1, hw.k2, hw.k3, hw.k4, hw.k5, hw.n1, hw.n2, hw.n3, hw.n4, hw.n5, hc.k6, hc.r5, hc.r6, hc.r0, hc.r2, hc.r7, hc.r8, hc.r9, hc.r10, hc.r11, hc.r12, hc.r13, hc.r14, hc.r15, hc.r16, hc.r17, hc.r18, hc.r8_0, hc.r8_1, hc.r11_0, hc.r11_1, hc.r60_0, hc.r60_1, hc.r60_4, hc.r64_0, hc.r64_3, hc.r64_4, hc.r68_0, hc.r41_0, hc.r41_1, hc.r42_0, hc.r42_1, hc.k7, hc.k8, hc.k9, hc.k11, hc.k12, hc.k13, hc.k32, hc.k41, hc.k42, hc.k43, hc.k60, hc.k61, hc.k62, hc.k63, hc.k64, hc.k65, hc.k66, hc.k67, hc.k68, hc.k69, hc.k70, hc.k71, hc.n6, hc.n7, hc.n8, hc.n9, hc.n11, hc.n12, hc.n13, hc.n32, hc.n41, hc.n42, hc.n43, hc.n60, hc.n61, hc.n62, hc.n63, hc.n64, hc.n65, hc.n66, hc.n67, hc.n68, hc.n69, hc.n70, hc.n71, ef, c]
    rw [show m_Joinings_ringInFull = 221 from rfl] at e89
    rw [Joinings_ringInFull_33, sc_step hs]
    simp (disch := omega) only [Joinings_ringInFull_42, Joinings_ringInFull_47, wr_id, ix_id, okx, if_pos, if_neg, Int.toNat_of_nonneg, bak_v, bak_n, wr_b01, wr_bt, b01_or, b01_0, b01_1, lc_lt0, lc_gt0, lc_eq0, wl_wr, wr_wr, wl_id, true_and, and_true, true_or, or_true, not_true_eq_false, not_false_eq_true, nc0, nc1, nc2, nc3, nc4, nc5, nc6, nc7, nc8, nc9, nc10, nc11, nc12, nc13, nc14, nc15, nc16, nc17, nc18, nc19, nc20, nc21, nc22, nc23, nc35, nc47, nc59, nc60, nc61, nc73, nc74, nc214, nc215, nc1115, nc2230, nc3345, if_true, if_false, Int.reduceToNat, hw.k, hw.r0, hw.r1, hw.r2, hw.r3, hw.r4, hw.k1, hw.k2, hw.k3, hw.k4, hw.k5, hw.n1, hw.n2, hw.n3, hw.n4, hw.n5, wv.f5, wv.f6, wv.f7, wv.f8, wv.f9, wv.f10, wv.f11, wv.f12, wv.f13, wv.f14, wv.pk, wv.qk, wv.hk, wv.rk, e89]
    by_cases c : k < wtF S x r g n s
    · simp (disch := omega) only [Joinings_ringInFull_89, Joinings_ringInFull_98, Joinings_ringInFull_112, wr_id, ix_id, okx, if_pos, if_neg, Int.toNat_of_nonneg, bak_v, bak_n, wr_b01, wr_bt, b01_or, b01_0, b01_1, lc_lt0, lc_gt0, lc_eq0, wl_wr, wr_wr, wl_id, true_and, and_true, true_or, or_true, not_true_eq_false, not_false_eq_true, nc0, nc1, nc2, nc3, nc4, nc5, nc6, nc7, nc8, nc9, nc10, nc11, nc12, nc13, nc14, nc15, nc16, nc17, nc18, nc19, nc20, nc21, nc22, nc23, nc35, nc47, nc59, nc60, nc61, nc73, nc74, nc214, nc215, nc1115, nc2230, nc3345, if_true, if_false, Int.reduceToNat]
      rw [Joinings_ringInFull_33]
      by_cases c2 : s + 1 < S 2
      · simp (disch := omega) only [Joinings_ringInFull_42, Joinings_ringInFull_47, wr_id, ix_id, okx, if_pos, if_neg, Int.toNat_of_nonneg, bak_v, bak_n, wr_b01, wr_bt, b01_or, b01_0, b01_1, lc_lt0, lc_gt0, lc_eq0, wl_wr, wr_wr, wl_id, true_and, and_true, true_or, or_true, not_true_eq_false, not_false_eq_true, nc0, nc1, nc2, nc3, nc4, nc5, nc6, nc7, nc8, nc9, nc10, nc11, nc12, nc13, nc14, nc15, nc16, nc17, nc18, nc19, nc20, nc21, nc22, nc23, nc35, nc47, nc59, nc60, nc61, nc73, nc74, nc214, nc215, nc1115, nc2230, nc3345, if_true, if_false, Int.reduceToNat, hw.k, hw.r0, hw.r1, hw.r2, hw.r3, hw.r4, hw.k1, hw.k2, hw.k3, hw.k4, hw.k5, hw.n1, hw.n2, hw.n3, hw.n4, hw.n5, wv.f5, wv.f6, wv.f7, wv.f8, wv.f9, wv.f10, wv.f11, wv.f12, wv.f13, wv.f14, wv.pk, wv.qk, wv.hk, wv.rk]
      · simp (disch := omega) only [wr_id, ix_id, okx, if_pos, if_neg, Int.toNat_of_nonneg, bak_v, bak_n, wr_b01, wr_bt, b01_or, b01_0, b01_1, lc_lt0, lc_gt0, lc_eq0, wl_wr, wr_wr, wl_id, true_and, and_true, true_or, or_true, not_true_eq_false, not_false_eq_true, nc0, nc1, nc2, nc3, nc4, nc5, nc6, nc7, nc8, nc9, nc10, nc11, nc12, nc13, nc14, nc15, nc16, nc17, nc18, nc19, nc20, nc21, nc22, nc23, nc35, nc47, nc59, nc60, nc61, nc73, nc74, nc214, nc215, nc1115, nc2230, nc3345, if_true, if_false, Int.reduceToNat, hw.k, hw.r0, hw.r1, hw.r2, hw.r3, hw.r4, hw.k1, hw.k2, hw.k3, hw.k4, hw.k5, hw.n1, hw.n2, hw.n3, hw.n4, hw.n5, wv.f5, wv.f6, wv.f7, wv.f8, wv.f9, wv.f10, wv.f11, wv.f12, wv.f13, wv.f14, wv.pk, wv.qk, wv.hk, wv.rk]
    · simp (disch := omega) only [Joinings_ringInFull_89, Joinings_ringInFull_105, Joinings_ringInFull_112, wr_id, ix_id, okx, if_pos, if_neg, Int.toNat_of_nonneg, bak_v, bak_n, wr_b01, wr_bt, b01_or, b01_0, b01_1, lc_lt0, lc_gt0, lc_eq0, wl_wr, wr_wr, wl_id, true_and, and_true, true_or, or_true, not_true_eq_false, not_false_eq_true, nc0, nc1, nc2, nc3, nc4, nc5, nc6, nc7, nc8, nc9, nc10, nc11, nc12, nc13, nc14, nc15, nc16, nc17, nc18, nc19, nc20, nc21, nc22, nc23, nc35, nc47, nc59, nc60, nc61, nc73, nc74, nc214, nc215, nc1115, nc2230, nc3345, if_true, if_false, Int.reduceToNat]
      exact ih (by omega) (by omega) _ (by omega)
theorem c_rF_2 {d w : Nat} {h : Hp} {S : Int → Int} (gd : Gd S) (jw : JW h w S) (jn : JN h S) {z : Int} (hz : 0 ≤ z ∧ z < S 1) : ∀ (m : Nat) (g x r n k : Int), g + m = z + 1 → 0 ≤ g → (-1 ≤ x ∧ x < g) → (-1 ≤ r ∧ r < S 2) → (x = -1 ↔ r = -1) → (0 ≤ n ∧ n ≤ 12) → (0 ≤ k ∧ k ≤ 2147483647) → EX (d+2) m_Joinings_ringInFull 18 [(0, .inr (.inr (60))), (1, .inr (.inr (w))), (3, .inl (z)), (4, .inl (k)), (5, .inl (n)), (6, .inl (x)), (7, .inl (r)), (8, .inl (g))] [] (h) = some (.inl (hwF S z m g x r n k), h) := by
  have ga := gd.a
  have gb := gd.b
  have hw := jw.2.1
  have wv := jw.2
  intro m
  induction m with
  | zero =>
    intro g x r n k hg h0 hx hr hxr hn hk
    rw [Joinings_ringInFull_18]
    simp (disch := omega) only [Joinings_ringInFull_150, wr_id, ix_id, okx, if_pos, if_neg, Int.toNat_of_nonneg, bak_v, bak_n, wr_b01, wr_bt, b01_or, b01_0, b01_1, lc_lt0, lc_gt0, lc_eq0, wl_wr, wr_wr, wl_id, true_and, and_true, true_or, or_true, not_true_eq_false, not_false_eq_true, nc0, nc1, nc2, nc3, nc4, nc5, nc6, nc7, nc8, nc9, nc10, nc11, nc12, nc13, nc14, nc15, nc16, nc17, nc18, nc19, nc20, nc21, nc22, nc23, nc35, nc47, nc59, nc60, nc61, nc73, nc74, nc214, nc215, nc1115, nc2230, nc3345, if_true, if_false, Int.reduceToNat, hwF]
  | succ m ih =>
    intro g x r n k hg h0 hx hr hxr hn hk
    rw [Joinings_ringInFull_18]
    simp only [hwF]
    by_cases cn : 0 < n
    · have e := c_rF_1 (d := d) gd jw jn (z := z) (x := x) (r := r) (g := g) (n := n) (by omega) hr hxr (by omega) (r + 1) (by omega) (by omega) k hk
      have sp := sc_spec (w := wtF S x r g n) (R := S 2) (r + 1) (by omega) (fun j h1 h2 => (wtF_rng gd x r n (g := g) (s := j) (by omega) (by omega)).1) k hk.1
      have wr' : (sc (wtF S x r g n) (r + 1) (S 2) k).1 = -1 ∨ (0 ≤ (sc (wtF S x r g n) (r + 1) (S 2) k).1 ∧ (sc (wtF S x r g n) (r + 1) (S 2) k).1 < S 2) := by omega
      have k2 : 0 ≤ (sc (wtF S x r g n) (r + 1) (S 2) k).2 ∧ (sc (wtF S x r g n) (r + 1) (S 2) k).2 ≤ 2147483647 := by
        rcases sp with q | ⟨q1, q2, q3, q4, q5⟩
        · have := sm_nn (f := wtF S x r g n) (N := S 2) (r + 1) (fun j h1 h2 => (wtF_rng gd x r n (g := g) (s := j) (by omega) (by omega)).1)
          omega
        · have := wtF_rng gd x r n (g := g) (s := (sc (wtF S x r g n) (r + 1) (S 2) k).1) (by omega) (by omega)
          omega
      rw [show m_Joinings_ringInFull = 221 from rfl] at e
      generalize sc (wtF S x r g n) (r + 1) (S 2) k = q at *
      simp (disch := omega) only [Joinings_ringInFull_24, wr_id, ix_id, okx, if_pos, if_neg, Int.toNat_of_nonneg, bak_v, bak_n, wr_b01, wr_bt, b01_or, b01_0, b01_1, lc_lt0, lc_gt0, lc_eq0, wl_wr, wr_wr, wl_id, true_and, and_true, true_or, or_true, not_true_eq_false, not_false_eq_true, nc0, nc1, nc2, nc3, nc4, nc5, nc6, nc7, nc8, nc9, nc10, nc11, nc12, nc13, nc14, nc15, nc16, nc17, nc18, nc19, nc20, nc21, nc22, nc23, nc35, nc47, nc59, nc60, nc61, nc73, nc74, nc214, nc215, nc1115, nc2230, nc3345, if_true, if_false, Int.reduceToNat, e]
      by_cases cg : g = z
      · simp (disch := omega) only [Joinings_ringInFull_118, Joinings_ringInFull_124, wr_id, ix_id, okx, if_pos, if_neg, Int.toNat_of_nonneg, bak_v, bak_n, wr_b01, wr_bt, b01_or, b01_0, b01_1, lc_lt0, lc_gt0, lc_eq0, wl_wr, wr_wr, wl_id, true_and, and_true, true_or, or_true, not_true_eq_false, not_false_eq_true, nc0, nc1, nc2, nc3, nc4, nc5, nc6, nc7, nc8, nc9, nc10, nc11, nc12, nc13, nc14, nc15, nc16, nc17, nc18, nc19, nc20, nc21, nc22, nc23, nc35, nc47, nc59, nc60, nc61, nc73, nc74, nc214, nc215, nc1115, nc2230, nc3345, if_true, if_false, Int.reduceToNat]
      · by_cases cq : q.1 = -1
        · simp (disch := omega) only [Joinings_ringInFull_118, Joinings_ringInFull_127, Joinings_ringInFull_144, wr_id, ix_id, okx, if_pos, if_neg, Int.toNat_of_nonneg, bak_v, bak_n, wr_b01, wr_bt, b01_or, b01_0, b01_1, lc_lt0, lc_gt0, lc_eq0, wl_wr, wr_wr, wl_id, true_and, and_true, true_or, or_true, not_true_eq_false, not_false_eq_true, nc0, nc1, nc2, nc3, nc4, nc5, nc6, nc7, nc8, nc9, nc10, nc11, nc12, nc13, nc14, nc15, nc16, nc17, nc18, nc19, nc20, nc21, nc22, nc23, nc35, nc47, nc59, nc60, nc61, nc73, nc74, nc214, nc215, nc1115, nc2230, nc3345, if_true, if_false, Int.reduceToNat]
          exact ih (g + 1) x r n q.2 (by omega) (by omega) (by omega) hr hxr hn k2
        · simp (disch := omega) only [Joinings_ringInFull_118, Joinings_ringInFull_127, Joinings_ringInFull_133, Joinings_ringInFull_144, wr_id, ix_id, okx, if_pos, if_neg, Int.toNat_of_nonneg, bak_v, bak_n, wr_b01, wr_bt, b01_or, b01_0, b01_1, lc_lt0, lc_gt0, lc_eq0, wl_wr, wr_wr, wl_id, true_and, and_true, true_or, or_true, not_true_eq_false, not_false_eq_true, nc0, nc1, nc2, nc3, nc4, nc5, nc6, nc7, nc8, nc9, nc10, nc11, nc12, nc13, nc14, nc15, nc16, nc17, nc18, nc19, nc20, nc21, nc22, nc23, nc35, nc47, nc59, nc60, nc61, nc73, nc74, nc214, nc215, nc1115, nc2230, nc3345, if_true, if_false, Int.reduceToNat]
          rw [show n + -1 = n - 1 by omega]
          exact ih (g + 1) g q.1 (n - 1) q.2 (by omega) (by omega) (by omega) (by omega) (by omega) (by omega) k2
    · have e : EX (d+2) m_Joinings_ringInFull 33 [(0, .inr (.inr (60))), (1, .inr (.inr (w))), (3, .inl (z)), (4, .inl (k)), (5, .inl (n)), (6, .inl (x)), (7, .inl (r)), (8, .inl (g)), (9, .inl (-1)), (10, .inl (r + 1))] [] (h) = EX (d+2) m_Joinings_ringInFull 118 [(0, .inr (.inr (60))), (1, .inr (.inr (w))), (3, .inl (z)), (4, .inl (k)), (5, .inl (n)), (6, .inl (x)), (7, .inl (r)), (8, .inl (g)), (9, .inl (-1))] [] (h) := by
        rw [Joinings_ringInFull_33]
        by_cases c2 : r + 1 < S 2
        · simp (disch := omega) only [Joinings_ringInFull_42, wr_id, ix_id, okx, if_pos, if_neg, Int.toNat_of_nonneg, bak_v, bak_n, wr_b01, wr_bt, b01_or, b01_0, b01_1, lc_lt0, lc_gt0, lc_eq0, wl_wr, wr_wr, wl_id, true_and, and_true, true_or, or_true, not_true_eq_false, not_false_eq_true, nc0, nc1, nc2, nc3, nc4, nc5, nc6, nc7, nc8, nc9, nc10, nc11, nc12, nc13, nc14, nc15, nc16, nc17, nc18, nc19, nc20, nc21, nc22, nc23, nc35, nc47, nc59, nc60, nc61, nc73, nc74, nc214, nc215, nc1115, nc2230, nc3345, if_true, if_false, Int.reduceToNat, hw.k, hw.r0, hw.r1, hw.r2, hw.r3, hw.r4, hw.k1, hw.k2, hw.k3, hw.k4, hw.k5, hw.n1, hw.n2, hw.n3, hw.n4, hw.n5, wv.f5, wv.f6, wv.f7, wv.f8, wv.f9, wv.f10, wv.f11, wv.f12, wv.f13, wv.f14, wv.pk, wv.qk, wv.hk, wv.rk]
        · simp (disch := omega) only [wr_id, ix_id, okx, if_pos, if_neg, Int.toNat_of_nonneg, bak_v, bak_n, wr_b01, wr_bt, b01_or, b01_0, b01_1, lc_lt0, lc_gt0, lc_eq0, wl_wr, wr_wr, wl_id, true_and, and_true, true_or, or_true, not_true_eq_false, not_false_eq_true, nc0, nc1, nc2, nc3, nc4, nc5, nc6, nc7, nc8, nc9, nc10, nc11, nc12, nc13, nc14, nc15, nc16, nc17, nc18, nc19, nc20, nc21, nc22, nc23, nc35, nc47, nc59, nc60, nc61, nc73, nc74, nc214, nc215, nc1115, nc2230, nc3345, if_true, if_false, Int.reduceToNat, hw.k, hw.r0, hw.r1, hw.r2, hw.r3, hw.r4, hw.k1, hw.k2, hw.k3, hw.k4, hw.k5, hw.n1, hw.n2, hw.n3, hw.n4, hw.n5, wv.f5, wv.f6, wv.f7, wv.f8, wv.f9, wv.f10, wv.f11, wv.f12, wv.f13, wv.f14, wv.pk, wv.qk, wv.hk, wv.rk]
      rw [show m_Joinings_ringInFull = 221 from rfl] at e
      simp (disch := omega) only [Joinings_ringInFull_24, wr_id, ix_id, okx, if_pos, if_neg, Int.toNat_of_nonneg, bak_v, bak_n, wr_b01, wr_bt, b01_or, b01_0, b01_1, lc_lt0, lc_gt0, lc_eq0, wl_wr, wr_wr, wl_id, true_and, and_true, true_or, or_true, not_true_eq_false, not_false_eq_true, nc0, nc1, nc2, nc3, nc4, nc5, nc6, nc7, nc8, nc9, nc10, nc11, nc12, nc13, nc14, nc15, nc16, nc17, nc18, nc19, nc20, nc21, nc22, nc23, nc35, nc47, nc59, nc60, nc61, nc73, nc74, nc214, nc215, nc1115, nc2230, nc3345, if_true, if_false, Int.reduceToNat, e]
      by_cases cg : g = z
      · simp (disch := omega) only [Joinings_ringInFull_118, Joinings_ringInFull_124, wr_id, ix_id, okx, if_pos, if_neg, Int.toNat_of_nonneg, bak_v, bak_n, wr_b01, wr_bt, b01_or, b01_0, b01_1, lc_lt0, lc_gt0, lc_eq0, wl_wr, wr_wr, wl_id, true_and, and_true, true_or, or_true, not_true_eq_false, not_false_eq_true, nc0, nc1, nc2, nc3, nc4, nc5, nc6, nc7, nc8, nc9, nc10, nc11, nc12, nc13, nc14, nc15, nc16, nc17, nc18, nc19, nc20, nc21, nc22, nc23, nc35, nc47, nc59, nc60, nc61, nc73, nc74, nc214, nc215, nc1115, nc2230, nc3345, if_true, if_false, Int.reduceToNat]
      · simp (disch := omega) only [Joinings_ringInFull_118, Joinings_ringInFull_127, Joinings_ringInFull_144, wr_id, ix_id, okx, if_pos, if_neg, Int.toNat_of_nonneg, bak_v, bak_n, wr_b01, wr_bt, b01_or, b01_0, b01_1, lc_lt0, lc_gt0, lc_eq0, wl_wr, wr_wr, wl_id, true_and, and_true, true_or, or_true, not_true_eq_false, not_false_eq_true, nc0, nc1, nc2, nc3, nc4, nc5, nc6, nc7, nc8, nc9, nc10, nc11, nc12, nc13, nc14, nc15, nc16, nc17, nc18, nc19, nc20, nc21, nc22, nc23, nc35, nc47, nc59, nc60, nc61, nc73, nc74, nc214, nc215, nc1115, nc2230, nc3345, if_true, if_false, Int.reduceToNat]
        exact ih (g + 1) x r n k (by omega) (by omega) (by omega) hr hxr hn hk
theorem c_ringInFull {d w : Nat} {h : Hp} {S : Int → Int} (gd : Gd S) (jw : JW h w S) (jn : JN h S) {z k : Int} (hz : 0 ≤ z ∧ z < S 1) (hk : 0 ≤ k ∧ k ≤ 2147483647) : cal (d+3) m_Joinings_ringInFull [.inr (.inr (60)), .inr (.inr (w)), .inl (k), .inl (z)] (h) = some (.inl (hwF S z (z + 1).toNat 0 (-1) (-1) (fullN S) k), h) := by
  have gb := gd.b
  have fs := fullN_spec S
  show EX (d+2) m_Joinings_ringInFull 0 [(0, .inr (.inr (60))), (1, .inr (.inr (w))), (2, .inl (k)), (3, .inl (z))] [] (h) = _
  have hc := jw.1
  simp (disch := omega) only [Joinings_ringInFull_0, wr_id, ix_id, okx, if_pos, if_neg, Int.toNat_of_nonneg, bak_v, bak_n, wr_b01, wr_bt, b01_or, b01_0, b01_1, lc_lt0, lc_gt0, lc_eq0, wl_wr, wr_wr, wl_id, true_and, and_true, true_or, or_true, not_true_eq_false, not_false_eq_true, nc0, nc1, nc2, nc3, nc4, nc5, nc6, nc7, nc8, nc9, nc10, nc11, nc12, nc13, nc14, nc15, nc16, nc17, nc18, nc19, nc20, nc21, nc22, nc23, nc35, nc47, nc59, nc60, nc61, nc73, nc74, nc214, nc215, nc1115, nc2230, nc3345, if_true, if_false, Int.reduceToNat, hc.k6, hc.r5, hc.r6, hc.r0, hc.r2, hc.r7, hc.r8, hc.r9, hc.r10, hc.r11, hc.r12, hc.r13, hc.r14, hc.r15, hc.r16, hc.r17, hc.r18, hc.r8_0, hc.r8_1, hc.r11_0, hc.r11_1, hc.r60_0, hc.r60_1, hc.r60_4, hc.r64_0, hc.r64_3, hc.r64_4, hc.r68_0, hc.r41_0, hc.r41_1, hc.r42_0, hc.r42_1, hc.k7, hc.k8, hc.k9, hc.k11, hc.k12, hc.k13, hc.k32, hc.k41, hc.k42, hc.k43, hc.k60, hc.k61, hc.k62, hc.k63, hc.k64, hc.k65, hc.k66, hc.k67, hc.k68, hc.k69, hc.k70, hc.k71, hc.n6, hc.n7, hc.n8, hc.n9, hc.n11, hc.n12, hc.n13, hc.n32, hc.n41, hc.n42, hc.n43, hc.n60, hc.n61, hc.n62, hc.n63, hc.n64, hc.n65, hc.n66, hc.n67, hc.n68, hc.n69, hc.n70, hc.n71, jn.2.2]
  exact c_rF_2 (d := d) gd jw jn hz (z + 1).toNat 0 (-1) (-1) (fullN S) k (by omega) (by omega) (by omega) (by omega) (by omega) (by omega) hk
