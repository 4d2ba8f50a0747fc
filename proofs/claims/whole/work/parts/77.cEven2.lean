/-! the class: leastOfFull, chooseEven, evenFor -/
def lm (a b : Int) : Int := if b < a then b else a
def bdE (m : Int) : Prop := -1 ≤ m ∧ m ≤ 100000000
theorem toF_fo {F : Int → Int → Int} {N : Int} : ∀ i, (∀ j m, i ≤ j → j < N → bdE m → toF (F j m) = lm (toF m) (toF (F j (-1))) ∧ bdE (F j m)) → ∀ m, bdE m → toF (fo F i N m) = lm (toF m) (toF (fo F i N (-1))) ∧ bdE (fo F i N m) := by
  refine up_ind (hi := N) ?_ ?_
  · intro i hi _ m hm
    rw [fo_stop hi, fo_stop hi]
    refine ⟨?_, hm⟩
    have := toF_rng hm
    have e9 : toF (-1) = 536870912 := rfl
    unfold lm
    split <;> omega
  · intro i hi ih h m hm
    have b0 : bdE (-1) := by unfold bdE; omega
    have h1 := h i m (by omega) hi hm
    have h2 := h i (-1) (by omega) hi b0
    have ih' := ih (fun j m a b c => h j m (by omega) b c)
    have a1 := ih' (F i m) h1.2
    have a2 := ih' (F i (-1)) h2.2
    rw [fo_step hi, fo_step hi]
    refine ⟨?_, a1.2⟩
    rw [a1.1, a2.1, h1.1]
    unfold lm
    repeat' split
    all_goals omega
theorem toF_m1 {v : Int} (hv : bdE v) {m : Int} (hm : bdE m) : toF (mn1 v m) = lm (toF m) (toF (mn1 v (-1))) ∧ bdE (mn1 v m) := by
  have b0 : bdE (-1) := by unfold bdE; omega
  have e9 : toF (-1) = 536870912 := rfl
  have t1 := toF_rng hv
  have t2 := toF_rng hm
  refine ⟨?_, mn1_rng hv hm⟩
  rw [toF_mn hv hm, toF_mn hv b0]
  unfold lm
  repeat' split
  all_goals omega
theorem lby_bd {S : Int → Int} (gd : Gd S) (mo sq : Int) {n g s : Int} (hn : 1 ≤ n ∧ n ≤ 12) (hg : 0 ≤ g ∧ g < S 1) (hs : 0 ≤ s ∧ s < S 2) : bdE (lby S mo sq (-1) (-1) g s (Lv S mo sq (n - 1) g s)) := by
  have lr := Lv_rng gd mo sq (n := n - 1) (by omega) (x := g) (r := s) (by omega) (by omega) (by omega)
  have br := lby_rng gd mo sq (x := -1) (r := -1) (g := g) (s := s) (v := Lv S mo sq (n - 1) g s) (B := 17280000) (by omega) (by omega) (by omega) lr (by omega)
  unfold bdE
  omega
/-- one hook, from ring r+1 on; all hooks behind x -/
def lB (S : Int → Int) (mo sq x r : Int) : Int := fo (fun s m => mn1 (lby S mo sq (-1) (-1) x s (Lv S mo sq (fullN S - 1) x s)) m) (r + 1) (S 2) (-1)
def lA (S : Int → Int) (mo sq x : Int) : Int := fo (inS S mo sq (fullN S) (-1) (-1)) (x + 1) (S 1) (-1)
theorem lB_bd {S : Int → Int} (gd : Gd S) (mo sq : Int) {x r : Int} (hN : 1 ≤ fullN S) (hx : 0 ≤ x ∧ x < S 1) (hr : -1 ≤ r) : bdE (lB S mo sq x r) ∧ ∀ m, bdE m → toF (fo (fun s m => mn1 (lby S mo sq (-1) (-1) x s (Lv S mo sq (fullN S - 1) x s)) m) (r + 1) (S 2) m) = lm (toF m) (toF (lB S mo sq x r)) := by
  have fs := fullN_spec S
  have a := toF_fo (F := fun s m => mn1 (lby S mo sq (-1) (-1) x s (Lv S mo sq (fullN S - 1) x s)) m) (N := S 2) (r + 1) (fun j m j1 j2 bm => toF_m1 (lby_bd gd mo sq (by omega) hx (by omega)) bm)
  exact ⟨(a (-1) (by unfold bdE; omega)).2, fun m bm => (a m bm).1⟩
theorem lB_s {S : Int → Int} (gd : Gd S) (mo sq : Int) {x r : Int} (hN : 1 ≤ fullN S) (hx : 0 ≤ x ∧ x < S 1) (hr : 0 ≤ r ∧ r < S 2) : toF (lB S mo sq x (r - 1)) = lm (toF (lby S mo sq (-1) (-1) x r (Lv S mo sq (fullN S - 1) x r))) (toF (lB S mo sq x r)) := by
  have fs := fullN_spec S
  have b0 : bdE (-1) := by unfold bdE; omega
  have bl := lby_bd gd mo sq (n := fullN S) (by omega) hx hr
  have t1 := toF_m1 bl b0
  have a := (lB_bd gd mo sq (x := x) (r := r) hN hx (by omega)).2 (mn1 (lby S mo sq (-1) (-1) x r (Lv S mo sq (fullN S - 1) x r)) (-1)) t1.2
  have e9 : toF (-1) = 536870912 := rfl
  have e : lB S mo sq x (r - 1) = fo (fun s m => mn1 (lby S mo sq (-1) (-1) x s (Lv S mo sq (fullN S - 1) x s)) m) (r + 1) (S 2) (mn1 (lby S mo sq (-1) (-1) x r (Lv S mo sq (fullN S - 1) x r)) (-1)) := by
    unfold lB
    rw [show r - 1 + 1 = r by omega, fo_step hr.2]
  rw [e, a, toF_mn bl b0]
  have t2 := toF_rng bl
  unfold lm
  repeat' split
  all_goals omega
theorem lA_s {S : Int → Int} (gd : Gd S) (mo sq : Int) {x : Int} (hN : 1 ≤ fullN S) (hx : 0 ≤ x ∧ x < S 1) : toF (lA S mo sq (x - 1)) = lm (toF (lA S mo sq x)) (toF (lB S mo sq x (-1))) := by
  have fs := fullN_spec S
  have b0 : bdE (-1) := by unfold bdE; omega
  have e9 : toF (-1) = 536870912 := rfl
  have hin : ∀ g, 0 ≤ g → g < S 1 → ∀ m, bdE m → toF (inS S mo sq (fullN S) (-1) (-1) g m) = lm (toF m) (toF (lB S mo sq g (-1))) := fun g g0 g1 m bm => (lB_bd gd mo sq (x := g) (r := -1) hN ⟨g0, g1⟩ (by omega)).2 m bm
  have hb : ∀ g, 0 ≤ g → g < S 1 → ∀ m, bdE m → bdE (inS S mo sq (fullN S) (-1) (-1) g m) := fun g g0 g1 m bm => by
    have := toF_fo (F := fun s m => mn1 (lby S mo sq (-1) (-1) g s (Lv S mo sq (fullN S - 1) g s)) m) (N := S 2) (-1 + 1) (fun j m j1 j2 bm => toF_m1 (lby_bd gd mo sq (by omega) ⟨g0, g1⟩ (by omega)) bm) m bm
    exact this.2
  have a := toF_fo (F := inS S mo sq (fullN S) (-1) (-1)) (N := S 1) (x + 1) (fun j m j1 j2 bm => ⟨by
    rw [hin j (by omega) j2 m bm, hin j (by omega) j2 (-1) b0]
    have t := toF_rng bm
    have t2 := toF_rng (lB_bd gd mo sq (x := j) (r := -1) hN ⟨by omega, j2⟩ (by omega)).1
    unfold lm
    repeat' split
    all_goals omega, hb j (by omega) j2 m bm⟩)
  have e : lA S mo sq (x - 1) = fo (inS S mo sq (fullN S) (-1) (-1)) (x + 1) (S 1) (inS S mo sq (fullN S) (-1) (-1) x (-1)) := by
    unfold lA
    rw [show x - 1 + 1 = x by omega, fo_step hx.2]
  rw [e, (a _ (hb x hx.1 hx.2 (-1) b0)).1, hin x hx.1 hx.2 (-1) b0]
  have t1 := toF_rng (a (-1) b0).2
  have t2 := toF_rng (lB_bd gd mo sq (x := x) (r := -1) hN hx (by omega)).1
  unfold lm lA
  repeat' split
  all_goals omega
theorem lby_1 {S : Int → Int} {mo sq g s v : Int} (hm : mo = -1 ∨ 0 ≤ mo) (hv : -1 ≤ v) : lby S mo sq (-1) (-1) g s v = if bt (S 10) s = 0 then v else -1 := by
  have cf : Fpl S (-1) (-1) g s = decide (bt (S 10) s = 0) := by simp [Fpl]
  have es : sgE S (-1) (-1) g s = 0 := by unfold sgE; rw [if_pos rfl]
  unfold lby
  rw [cf, es]
  by_cases c : bt (S 10) s = 0
  · simp only [c, decide_true, if_true]
    repeat' split
    all_goals omega
  · simp [c]
theorem lA_bd {S : Int → Int} (gd : Gd S) (mo sq : Int) {x : Int} (hN : 1 ≤ fullN S) (hx : -1 ≤ x) : bdE (lA S mo sq x) := by
  have fs := fullN_spec S
  exact (toF_fo (F := inS S mo sq (fullN S) (-1) (-1)) (N := S 1) (x + 1) (fun j m j1 j2 bm => toF_fo (F := fun s m => mn1 (lby S mo sq (-1) (-1) j s (Lv S mo sq (fullN S - 1) j s)) m) (N := S 2) (-1 + 1) (fun z m z1 z2 bm => toF_m1 (lby_bd gd mo sq (by omega) ⟨by omega, j2⟩ (by omega)) bm) m bm) (-1) (by unfold bdE; omega)).2
/-- the sheet: hooks behind x, and x behind ring r, are right; the others are FAR -/
def TE (h : Hp) (S : Int → Int) (mo sq x r : Int) : Prop := ∀ y s, 0 ≤ y → y < S 1 → 0 ≤ s → s < S 2 → shE h (fullN S) y s (fun m => if x < y ∨ (y = x ∧ r < s) then EvC S mo sq m y s else -1)
theorem c_lF_1 {d w : Nat} {S : Int → Int} (gd : Gd S) {mo sq : Int} (md : mdE S mo sq) (hN : 1 ≤ fullN S) {x : Int} (hx : 0 ≤ x ∧ x < S 1) : ∀ r, -1 ≤ r → r < S 2 → ∀ h v, v = lm (toF (lA S mo sq x)) (toF (lB S mo sq x r)) → EN h w S sq → TE h S mo sq x r → ∃ h', EX (d+2) m_Joinings_leastOfFull 31 [(0, .inr (.inr (60))), (1, .inr (.inr (w))), (2, .inr (.inr (70))), (3, .inl (sq)), (4, .inl (v)), (5, .inl (x)), (6, .inl (r))] [] (h) = EX (d+2) m_Joinings_leastOfFull 85 [(0, .inr (.inr (60))), (1, .inr (.inr (w))), (2, .inr (.inr (70))), (3, .inl (sq)), (4, .inl (toF (lA S mo sq (x - 1)))), (5, .inl (x))] [] (h') ∧ TE h' S mo sq x (-1) ∧ Fr (fun a _ => a = 70) h h' := by
  have ga := gd.a
  have gb := gd.b
  have fs := fullN_spec S
  have eo := eMo_ok gd
  have hm1 : mo = -1 ∨ 0 ≤ mo := by rcases md with ⟨a, b⟩ | ⟨a, b⟩ <;> omega
  refine dn_ind (lo := 0) ?_ ?_
  · intro r hr h0 h1 h v hv en te
    have er : r = -1 := by omega
    subst er
    refine ⟨h, ?_, te, Fr.rf⟩
    rw [Joinings_leastOfFull_31]
    simp (disch := omega) only [wr_id, ix_id, okx, if_pos, if_neg, Int.toNat_of_nonneg, bak_v, bak_n, wr_b01, wr_bt, b01_or, b01_0, b01_1, lc_lt0, lc_gt0, lc_eq0, wl_wr, wr_wr, wl_id, true_and, and_true, true_or, or_true, not_true_eq_false, not_false_eq_true, nc0, nc1, nc2, nc3, nc4, nc5, nc6, nc7, nc8, nc9, nc10, nc11, nc12, nc13, nc14, nc15, nc16, nc17, nc18, nc19, nc20, nc21, nc22, nc23, nc35, nc47, nc59, nc60, nc61, nc73, nc74, nc214, nc215, nc1115, nc2230, nc3345, if_true, if_false, Int.reduceToNat]
    rw [hv, lA_s gd mo sq hN hx]
  · intro r hr ih h0 h1 h v hv en te
    have hc := en.1.1
    have wv := en.1.2
    have hw := en.1.2.1
    have jn := en.2.1.2.2
    have eb := c_isBroken (d := d + 1) wv (r := r) (by omega)
    have er : r + -1 = r - 1 := by omega
    have ls := lB_s gd mo sq (x := x) (r := r) hN hx ⟨hr, h1⟩
    have lr := Lv_rng gd mo sq (n := fullN S - 1) (by omega) (x := x) (r := r) (by omega) (by omega) (by omega)
    have l1 := lby_1 (S := S) (mo := mo) (sq := sq) (g := x) (s := r) hm1 lr.1
    have t1 := toF_rng (v := Lv S mo sq (fullN S - 1) x r) (by omega)
    have t2 := toF_rng (lB_bd gd mo sq (x := x) (r := r) hN hx (by omega)).1
    have t3 := toF_rng (lA_bd gd mo sq (x := x) hN (by omega))
    have t3' : 0 ≤ toF (lA S mo sq x) ∧ toF (lA S mo sq x) ≤ 536870912 := t3
    have vr : 0 ≤ v ∧ v ≤ 536870912 := by
      rw [hv]; unfold lm; split <;> omega
    rcases bt_01 (S 10) r with c | c
    · rw [if_pos c] at l1
      rw [l1] at ls
      obtain ⟨h1', e1, k1, f1⟩ := c_measureBehind (d := d) (w := w) gd md hx (r := r) ⟨hr, h1⟩ c en (fun y s z1 z2 z3 z4 => (te y s (by omega) z2 z3 z4).cg (fun m _ _ => by rw [if_pos (by omega)])) ((te x r (by omega) (by omega) hr h1).cg (fun m _ _ => by rw [if_neg (by omega)]))
      have fm : Fr (fun a _ => a = 70) h h1' := f1.mo (fun a k q => q.1)
      have en1 := en.fr fm (fun a k q => Or.inr q)
      have hc1 := en1.1.1
      have jn1 := en1.2.1.2.2
      have k2 := k1 (fullN S - 1) (by omega) (by omega)
      dsimp only at k2
      rw [show EvC S mo sq (fullN S - 1) x r = Lv S mo sq (fullN S - 1) x r by unfold EvC; rw [if_pos c], show (x * 12 + r) * 12 + (fullN S - 1) = (x * 12 + r) * 12 + fullN S - 1 by omega] at k2
      obtain ⟨h2, e2, u2, f2⟩ := ih (by omega) (by omega) h1' (lm v (toF (Lv S mo sq (fullN S - 1) x r))) (by
        rw [ls, hv]
        unfold lm
        repeat' split
        all_goals omega) en1 (fun y s y0 y1 s0 s1 => by
        by_cases c2 : y = x ∧ s = r
        · obtain ⟨ey, es⟩ := c2
          rw [ey, es]
          exact k1.cg (fun m _ _ => by rw [if_pos (by omega)])
        · intro m m0 m1
          rw [f1.I (by unfold pS; omega), te y s y0 y1 s0 s1 m m0 m1]
          dsimp only
          by_cases c3 : x < y ∨ (y = x ∧ r < s)
          · rw [if_pos c3, if_pos (by omega)]
          · rw [if_neg c3, if_neg (by omega)])
      refine ⟨h2, ?_, u2, fm.tr f2⟩
      unfold lm at e2
      rw [Joinings_leastOfFull_31]
      simp (disch := omega) only [Joinings_leastOfFull_36, Joinings_leastOfFull_42, Joinings_leastOfFull_45, wr_id, ix_id, okx, if_pos, if_neg, Int.toNat_of_nonneg, bak_v, bak_n, wr_b01, wr_bt, b01_or, b01_0, b01_1, lc_lt0, lc_gt0, lc_eq0, wl_wr, wr_wr, wl_id, true_and, and_true, true_or, or_true, not_true_eq_false, not_false_eq_true, nc0, nc1, nc2, nc3, nc4, nc5, nc6, nc7, nc8, nc9, nc10, nc11, nc12, nc13, nc14, nc15, nc16, nc17, nc18, nc19, nc20, nc21, nc22, nc23, nc35, nc47, nc59, nc60, nc61, nc73, nc74, nc214, nc215, nc1115, nc2230, nc3345, if_true, if_false, Int.reduceToNat, hw.k, hw.r0, hw.r1, hw.r2, hw.r3, hw.r4, hw.k1, hw.k2, hw.k3, hw.k4, hw.k5, hw.n1, hw.n2, hw.n3, hw.n4, hw.n5, hc.k6, hc.r5, hc.r6, hc.r0, hc.r2, hc.r7, hc.r8, hc.r9, hc.r10, hc.r11, hc.r12, hc.r13, hc.r14, hc.r15, hc.r16, hc.r17, hc.r18, hc.r8_0, hc.r8_1, hc.r11_0, hc.r11_1, hc.r60_0, hc.r60_1, hc.r60_4, hc.r64_0, hc.r64_3, hc.r64_4, hc.r68_0, hc.r41_0, hc.r41_1, hc.r42_0, hc.r42_1, hc.k7, hc.k8, hc.k9, hc.k11, hc.k12, hc.k13, hc.k32, hc.k41, hc.k42, hc.k43, hc.k60, hc.k61, hc.k62, hc.k63, hc.k64, hc.k65, hc.k66, hc.k67, hc.k68, hc.k69, hc.k70, hc.k71, hc.n6, hc.n7, hc.n8, hc.n9, hc.n11, hc.n12, hc.n13, hc.n32, hc.n41, hc.n42, hc.n43, hc.n60, hc.n61, hc.n62, hc.n63, hc.n64, hc.n65, hc.n66, hc.n67, hc.n68, hc.n69, hc.n70, hc.n71, eb, c, e1]
      have hc := hc1
      simp (disch := omega) only [Joinings_leastOfFull_56, Joinings_leastOfFull_66, Joinings_leastOfFull_77, Joinings_leastOfFull_79, wr_id, ix_id, okx, if_pos, if_neg, Int.toNat_of_nonneg, bak_v, bak_n, wr_b01, wr_bt, b01_or, b01_0, b01_1, lc_lt0, lc_gt0, lc_eq0, wl_wr, wr_wr, wl_id, true_and, and_true, true_or, or_true, not_true_eq_false, not_false_eq_true, nc0, nc1, nc2, nc3, nc4, nc5, nc6, nc7, nc8, nc9, nc10, nc11, nc12, nc13, nc14, nc15, nc16, nc17, nc18, nc19, nc20, nc21, nc22, nc23, nc35, nc47, nc59, nc60, nc61, nc73, nc74, nc214, nc215, nc1115, nc2230, nc3345, if_true, if_false, Int.reduceToNat, hc.k6, hc.r5, hc.r6, hc.r0, hc.r2, hc.r7, hc.r8, hc.r9, hc.r10, hc.r11, hc.r12, hc.r13, hc.r14, hc.r15, hc.r16, hc.r17, hc.r18, hc.r8_0, hc.r8_1, hc.r11_0, hc.r11_1, hc.r60_0, hc.r60_1, hc.r60_4, hc.r64_0, hc.r64_3, hc.r64_4, hc.r68_0, hc.r41_0, hc.r41_1, hc.r42_0, hc.r42_1, hc.k7, hc.k8, hc.k9, hc.k11, hc.k12, hc.k13, hc.k32, hc.k41, hc.k42, hc.k43, hc.k60, hc.k61, hc.k62, hc.k63, hc.k64, hc.k65, hc.k66, hc.k67, hc.k68, hc.k69, hc.k70, hc.k71, hc.n6, hc.n7, hc.n8, hc.n9, hc.n11, hc.n12, hc.n13, hc.n32, hc.n41, hc.n42, hc.n43, hc.n60, hc.n61, hc.n62, hc.n63, hc.n64, hc.n65, hc.n66, hc.n67, hc.n68, hc.n69, hc.n70, hc.n71, c_rowOf, jn1, k2, min_s, er]
      exact e2
    · rw [if_neg (by omega)] at l1
      rw [l1, show toF (-1) = 536870912 from rfl] at ls
      obtain ⟨h2, e2, u2, f2⟩ := ih (by omega) (by omega) h v (by
        rw [ls, hv]
        unfold lm
        repeat' split
        all_goals omega) en (fun y s y0 y1 s0 s1 => (te y s y0 y1 s0 s1).cg (fun m _ _ => by
        by_cases c2 : y = x ∧ s = r
        · obtain ⟨ey, es⟩ := c2
          have : EvC S mo sq m y s = -1 := by unfold EvC; rw [es, if_neg (by omega)]
          rw [this]; simp
        · by_cases c3 : x < y ∨ (y = x ∧ r < s)
          · rw [if_pos c3, if_pos (by omega)]
          · rw [if_neg c3, if_neg (by omega)]))
      refine ⟨h2, ?_, u2, f2⟩
      rw [Joinings_leastOfFull_31]
      simp (disch := omega) only [Joinings_leastOfFull_36, Joinings_leastOfFull_42, Joinings_leastOfFull_79, wr_id, ix_id, okx, if_pos, if_neg, Int.toNat_of_nonneg, bak_v, bak_n, wr_b01, wr_bt, b01_or, b01_0, b01_1, lc_lt0, lc_gt0, lc_eq0, wl_wr, wr_wr, wl_id, true_and, and_true, true_or, or_true, not_true_eq_false, not_false_eq_true, nc0, nc1, nc2, nc3, nc4, nc5, nc6, nc7, nc8, nc9, nc10, nc11, nc12, nc13, nc14, nc15, nc16, nc17, nc18, nc19, nc20, nc21, nc22, nc23, nc35, nc47, nc59, nc60, nc61, nc73, nc74, nc214, nc215, nc1115, nc2230, nc3345, if_true, if_false, Int.reduceToNat, hw.k, hw.r0, hw.r1, hw.r2, hw.r3, hw.r4, hw.k1, hw.k2, hw.k3, hw.k4, hw.k5, hw.n1, hw.n2, hw.n3, hw.n4, hw.n5, hc.k6, hc.r5, hc.r6, hc.r0, hc.r2, hc.r7, hc.r8, hc.r9, hc.r10, hc.r11, hc.r12, hc.r13, hc.r14, hc.r15, hc.r16, hc.r17, hc.r18, hc.r8_0, hc.r8_1, hc.r11_0, hc.r11_1, hc.r60_0, hc.r60_1, hc.r60_4, hc.r64_0, hc.r64_3, hc.r64_4, hc.r68_0, hc.r41_0, hc.r41_1, hc.r42_0, hc.r42_1, hc.k7, hc.k8, hc.k9, hc.k11, hc.k12, hc.k13, hc.k32, hc.k41, hc.k42, hc.k43, hc.k60, hc.k61, hc.k62, hc.k63, hc.k64, hc.k65, hc.k66, hc.k67, hc.k68, hc.k69, hc.k70, hc.k71, hc.n6, hc.n7, hc.n8, hc.n9, hc.n11, hc.n12, hc.n13, hc.n32, hc.n41, hc.n42, hc.n43, hc.n60, hc.n61, hc.n62, hc.n63, hc.n64, hc.n65, hc.n66, hc.n67, hc.n68, hc.n69, hc.n70, hc.n71, eb, c, er]
      exact e2
theorem c_lF_2 {d w : Nat} {S : Int → Int} (gd : Gd S) {mo sq : Int} (md : mdE S mo sq) (hN : 1 ≤ fullN S) : ∀ x, -1 ≤ x → x < S 1 → ∀ h, EN h w S sq → TE h S mo sq x (S 2 - 1) → ∃ h', EX (d+2) m_Joinings_leastOfFull 18 [(0, .inr (.inr (60))), (1, .inr (.inr (w))), (2, .inr (.inr (70))), (3, .inl (sq)), (4, .inl (toF (lA S mo sq x))), (5, .inl (x))] [] (h) = some (.inl (toF (lA S mo sq (-1))), h') ∧ TE h' S mo sq (-1) (S 2 - 1) ∧ Fr (fun a _ => a = 70) h h' := by
  have ga := gd.a
  have gb := gd.b
  refine dn_ind (lo := 0) ?_ ?_
  · intro x hx h0 h1 h en te
    have ex : x = -1 := by omega
    subst ex
    refine ⟨h, ?_, te, Fr.rf⟩
    rw [Joinings_leastOfFull_18]
    simp (disch := omega) only [Joinings_leastOfFull_91, wr_id, ix_id, okx, if_pos, if_neg, Int.toNat_of_nonneg, bak_v, bak_n, wr_b01, wr_bt, b01_or, b01_0, b01_1, lc_lt0, lc_gt0, lc_eq0, wl_wr, wr_wr, wl_id, true_and, and_true, true_or, or_true, not_true_eq_false, not_false_eq_true, nc0, nc1, nc2, nc3, nc4, nc5, nc6, nc7, nc8, nc9, nc10, nc11, nc12, nc13, nc14, nc15, nc16, nc17, nc18, nc19, nc20, nc21, nc22, nc23, nc35, nc47, nc59, nc60, nc61, nc73, nc74, nc214, nc215, nc1115, nc2230, nc3345, if_true, if_false, Int.reduceToNat]
  · intro x hx ih h0 h1 h en te
    have hw := en.1.2.1
    have wv := en.1.2
    have e0 : toF (lB S mo sq x (S 2 - 1)) = 536870912 := by
      unfold lB
      rw [fo_stop (by omega)]
      rfl
    have t3 := toF_rng (lA_bd gd mo sq (x := x) hN (by omega))
    have eL : toF (lA S mo sq x) = lm (toF (lA S mo sq x)) (toF (lB S mo sq x (S 2 - 1))) := by
      rw [e0]
      unfold lm
      split <;> omega
    obtain ⟨h1', e1, t1, f1⟩ := c_lF_1 (d := d) (w := w) gd md hN (x := x) ⟨hx, h1⟩ (S 2 - 1) (by omega) (by omega) h _ eL en te
    obtain ⟨h2, e2, t2, f2⟩ := ih (by omega) (by omega) h1' (en.fr f1 (fun a k q => Or.inr q)) (fun y s y0 y1 s0 s1 => (t1 y s y0 y1 s0 s1).cg (fun m _ _ => by
        by_cases c3 : x ≤ y
        · rw [if_pos (by omega), if_pos (by omega)]
        · rw [if_neg (by omega), if_neg (by omega)]))
    refine ⟨h2, ?_, t2, f1.tr f2⟩
    rw [Joinings_leastOfFull_18]
    simp (disch := omega) only [Joinings_leastOfFull_23, wr_id, ix_id, okx, if_pos, if_neg, Int.toNat_of_nonneg, bak_v, bak_n, wr_b01, wr_bt, b01_or, b01_0, b01_1, lc_lt0, lc_gt0, lc_eq0, wl_wr, wr_wr, wl_id, true_and, and_true, true_or, or_true, not_true_eq_false, not_false_eq_true, nc0, nc1, nc2, nc3, nc4, nc5, nc6, nc7, nc8, nc9, nc10, nc11, nc12, nc13, nc14, nc15, nc16, nc17, nc18, nc19, nc20, nc21, nc22, nc23, nc35, nc47, nc59, nc60, nc61, nc73, nc74, nc214, nc215, nc1115, nc2230, nc3345, if_true, if_false, Int.reduceToNat, hw.k, hw.r0, hw.r1, hw.r2, hw.r3, hw.r4, hw.k1, hw.k2, hw.k3, hw.k4, hw.k5, hw.n1, hw.n2, hw.n3, hw.n4, hw.n5, wv.f5, wv.f6, wv.f7, wv.f8, wv.f9, wv.f10, wv.f11, wv.f12, wv.f13, wv.f14, wv.pk, wv.qk, wv.hk, wv.rk]
    refine e1.trans ?_
    rw [Joinings_leastOfFull_85, show x + -1 = x - 1 by omega]
    exact e2
/-- the sheet is right -/
def SE (h : Hp) (S : Int → Int) (mo sq : Int) : Prop := ∀ y s, 0 ≤ y → y < S 1 → 0 ≤ s → s < S 2 → shE h (fullN S) y s (fun m => EvC S mo sq m y s)
theorem c_leastOfFull {d w : Nat} {h : Hp} {S : Int → Int} (gd : Gd S) {mo sq : Int} (md : mdE S mo sq) (hN : 1 ≤ fullN S) (en : EN h w S sq) : ∃ h', cal (d+3) m_Joinings_leastOfFull [.inr (.inr (60)), .inr (.inr (w)), .inr (.inr (70)), .inl (sq)] (h) = some (.inl (toF (Lv S mo sq (fullN S) (-1) (-1))), h') ∧ SE h' S mo sq ∧ Fr (fun a _ => a = 70) h h' := by
  have ga := gd.a
  have gb := gd.b
  have fs := fullN_spec S
  have hc := en.1.1
  have f0 : Fr (fun a _ => a = 70) h (flI h 70 536870912 3456) := Fr.flI Fr.rf (fun k _ => by rfl)
  have en1 := en.fr f0 (fun a k q => Or.inr q)
  have hw1 := en1.1.2.1
  have w5 := en1.1.2.f5
  have e0 : toF (lA S mo sq (S 1 - 1)) = 536870912 := by
    unfold lA
    rw [fo_stop (by omega)]
    rfl
  obtain ⟨h2, e2, t2, f2⟩ := c_lF_2 (d := d) (w := w) gd md hN (S 1 - 1) (by omega) (by omega) _ en1 (fun y s y0 y1 s0 s1 m m0 m1 => by
    dsimp only
    rw [if_neg (by omega), hI_flI, if_pos (by omega)]
    rfl)
  refine ⟨h2, ?_, fun y s y0 y1 s0 s1 => (t2 y s y0 y1 s0 s1).cg (fun m _ _ => by rw [if_pos (by omega)]), f0.tr f2⟩
  have eA := fill_s (d + 1) 70 536870912 h hc.k70 (by rw [hc.n70]; omega)
  rw [hc.n70] at eA
  have hw := en.1.2.1
  rw [e0] at e2
  have eL : lA S mo sq (-1) = Lv S mo sq (fullN S) (-1) (-1) := (Lv_s (by omega)).symm
  rw [eL] at e2
  show EX (d+2) m_Joinings_leastOfFull 0 [(0, .inr (.inr (60))), (1, .inr (.inr (w))), (2, .inr (.inr (70))), (3, .inl (sq))] [] (h) = _
  simp (disch := omega) only [Joinings_leastOfFull_0, Joinings_leastOfFull_6, wr_id, ix_id, okx, if_pos, if_neg, Int.toNat_of_nonneg, bak_v, bak_n, wr_b01, wr_bt, b01_or, b01_0, b01_1, lc_lt0, lc_gt0, lc_eq0, wl_wr, wr_wr, wl_id, true_and, and_true, true_or, or_true, not_true_eq_false, not_false_eq_true, nc0, nc1, nc2, nc3, nc4, nc5, nc6, nc7, nc8, nc9, nc10, nc11, nc12, nc13, nc14, nc15, nc16, nc17, nc18, nc19, nc20, nc21, nc22, nc23, nc35, nc47, nc59, nc60, nc61, nc73, nc74, nc214, nc215, nc1115, nc2230, nc3345, if_true, if_false, Int.reduceToNat, hw1.k, w5, eA]
  exact e2
