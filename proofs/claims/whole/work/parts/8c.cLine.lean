/-! the class: lines -/
def lwL (S : Int → Int) (l : List Int) : Prop := (S 9 = 0 → l = []) ∧ (S 9 = 1 → (l.length : Int) = S 214 ∧ ∀ i : Nat, i < l.length → l.getD i 0 = S (215 + i))
def WN (h : Hp) (u : Nat) (S : Int → Int) : Prop := WV h u S ∧ HV h 28 S ∧ hI h (u + 1) 0 = 0 ∧ hI h (u + 2) 0 = 0
theorem lwL.cg {S S' : Int → Int} {l : List Int} (w : lwL S l) (e : ∀ k, (k = 9 ∨ 214 ≤ k) → S' k = S k) : lwL S' l := by
  unfold lwL at *
  rw [e 9 (by omega), e 214 (by omega)]
  exact ⟨w.1, fun z => ⟨(w.2 z).1, fun i hi => by rw [e _ (by omega)]; exact (w.2 z).2 i hi⟩⟩
theorem lwL.len {S : Int → Int} {l : List Int} (w : lwL S l) (lo : LawOk S) : l.length ≤ 900 := by
  rcases lo.1 with z | z
  · rw [w.1 z]; simp
  · have := (w.2 z).1
    have := (lo.2 z).2.1
    omega
theorem WN.fr {h h' : Hp} {u : Nat} {S : Int → Int} (v : WN h u S) {p : Nat → Nat → Prop} (f : Fr p h h') (hu : u = 14 ∨ u = 20) (hp : ∀ a k, p a k → a < 14) : WN h' u S := ⟨v.1.fr f (fun c k c1 c2 q => by have := hp c k q; omega), v.2.1.fr f (fun k q => by have := hp _ k q; omega) (fun k q => by have := hp _ k q; omega), by rw [f.I (fun q => by have := hp _ _ q; omega)]; exact v.2.2.1, by rw [f.I (fun q => by have := hp _ _ q; omega)]; exact v.2.2.2⟩
theorem pLw.lt {a k : Nat} (q : pLw a k) : a < 14 := by unfold pLw at q; omega
theorem HV.cg {h h' : Hp} {a : Nat} {S S' : Int → Int} (v : HV h a S) {p : Nat → Nat → Prop} (f : Fr p h h') (hp : ∀ k, ¬ p a k) (hp2 : ∀ k, ¬ p (a + 1) k) (e : ∀ k, 59 ≤ k → k ≤ 72 → S' k = S k) : HV h' a S' := by
  obtain ⟨q1, q2, q3, q4⟩ := v.fr f hp hp2
  exact ⟨q1, by rw [e 59 (by omega) (by omega)]; exact q2, by rw [e 60 (by omega) (by omega)]; exact q3, fun k hk => by rw [e _ (by omega) (by omega)]; exact q4 k hk⟩
theorem WVa.cg {h h' : Hp} {u : Nat} {S S' : Int → Int} (a : WVa h u S) (ga : S 1 ≤ 12) (gb : S 2 ≤ 12) (e1 : S' 1 = S 1) (e2 : S' 2 = S 2) (ag : ∀ k, 11 ≤ k → k < 59 → S' k = S k) (he : ∀ c k, u + 1 ≤ c → c ≤ u + 4 → hI h' c k = hI h c k) : WVa h' u S' := by
  refine ⟨fun k hk => ?_, fun k hk => ?_, fun k hk => ?_, fun k hk => ?_⟩
  · rw [e1] at hk
    rw [he _ _ (by omega) (by omega), a.1 k hk]
    exact sm_congr 0 (fun j j0 j1 => (ag _ (by omega) (by omega)).symm)
  · rw [e2] at hk
    rw [he _ _ (by omega) (by omega), a.2.1 k hk]
    exact sm_congr 0 (fun j j0 j1 => (ag _ (by omega) (by omega)).symm)
  · rw [he _ _ (by omega) (by omega), a.2.2.1 k hk, ag _ (by omega) (by omega)]
  · rw [he _ _ (by omega) (by omega), a.2.2.2 k hk, ag _ (by omega) (by omega)]
/-- a field of the window and its place in the row -/
def fz (f : Nat) (z : Int) : Prop := (f = 7 ∧ z = 10) ∨ (f = 8 ∧ z = 3) ∨ (f = 9 ∧ z = 4) ∨ (f = 10 ∧ z = 5) ∨ (f = 11 ∧ z = 6) ∨ (f = 12 ∧ z = 7) ∨ (f = 13 ∧ z = 8) ∨ (f = 14 ∧ z = 0)
theorem WN.pf {h : Hp} {u f : Nat} {S : Int → Int} {z v : Int} (n : WN h u S) (g : Gd S) (hu : u = 14 ∨ u = 20) (hf : fz f z) : WN (pI h u f v) u (up S z v) := by
  have ga := g.a
  have gb := g.b
  have f0 : Fr (fun a k => a = u ∧ k = f) h (pI h u f v) := Fr.pI Fr.rf ⟨rfl, rfl⟩
  obtain ⟨⟨hw, wf, wa⟩, hv, z1, z2⟩ := n
  unfold fz at hf
  refine ⟨⟨hw.fr f0, ?_, wa.cg (by omega) (by omega) (up_ne (by omega)) (up_ne (by omega)) (fun k k0 k1 => up_ne (by omega)) (fun c k c0 c1 => by rw [hI_pI, if_neg (by omega)])⟩, hv.cg f0 (by omega) (by omega) (fun k k0 k1 => up_ne (by omega)), by rw [hI_pI, if_neg (by omega)]; exact z1, by rw [hI_pI, if_neg (by omega)]; exact z2⟩
  obtain ⟨w1, w2, w3, w4, w5, w6, w7, w8, w9, w10⟩ := wf
  rcases hf with ⟨e1, e2⟩ | ⟨e1, e2⟩ | ⟨e1, e2⟩ | ⟨e1, e2⟩ | ⟨e1, e2⟩ | ⟨e1, e2⟩ | ⟨e1, e2⟩ | ⟨e1, e2⟩ <;> subst e1 <;> subst e2 <;> refine ⟨?_, ?_, ?_, ?_, ?_, ?_, ?_, ?_, ?_, ?_⟩ <;> simp [hI_pI, up, w1, w2, w3, w4, w5, w6, w7, w8, w9, w10]
theorem WN.pm {h : Hp} {u A : Nat} {S : Int → Int} {o x v : Int} (n : WN h u S) (g : Gd S) (hu : u = 14 ∨ u = 20) (hA : (A = u + 3 ∧ o = 35) ∨ (A = u + 4 ∧ o = 47)) (hx : 0 ≤ x ∧ x < 12) : WN (pI h A x.toNat v) u (up S (o + x) v) := by
  have ga := g.a
  have gb := g.b
  have f0 : Fr (fun a k => a = A) h (pI h A x.toNat v) := Fr.pI Fr.rf rfl
  obtain ⟨⟨hw, wf, wa⟩, hv, z1, z2⟩ := n
  refine ⟨⟨hw.fr f0, ?_, ?_⟩, hv.cg f0 (by omega) (by omega) (fun k k0 k1 => up_ne (by omega)), by rw [hI_pI, if_neg (by omega)]; exact z1, by rw [hI_pI, if_neg (by omega)]; exact z2⟩
  · obtain ⟨w1, w2, w3, w4, w5, w6, w7, w8, w9, w10⟩ := wf
    refine ⟨?_, ?_, ?_, ?_, ?_, ?_, ?_, ?_, ?_, ?_⟩ <;> (rw [hI_pI, if_neg (by omega), up_ne (by omega)]; assumption)
  · refine ⟨fun k hk => ?_, fun k hk => ?_, fun k hk => ?_, fun k hk => ?_⟩
    · rw [up_ne (by omega)] at hk
      rw [hI_pI, if_neg (by omega), wa.1 k hk]
      exact sm_congr 0 (fun j j0 j1 => (up_ne (by omega)).symm)
    · rw [up_ne (by omega)] at hk
      rw [hI_pI, if_neg (by omega), wa.2.1 k hk]
      exact sm_congr 0 (fun j j0 j1 => (up_ne (by omega)).symm)
    · rw [hI_pI]
      unfold up
      by_cases c : u + 3 = A ∧ k = x.toNat
      · rw [if_pos c, if_pos (by omega)]
      · rw [if_neg c, if_neg (by omega)]; exact wa.2.2.1 k hk
    · rw [hI_pI]
      unfold up
      by_cases c : u + 4 = A ∧ k = x.toNat
      · rw [if_pos c, if_pos (by omega)]
      · rw [if_neg c, if_neg (by omega)]; exact wa.2.2.2 k hk
theorem WN.ph {h : Hp} {u : Nat} {S : Int → Int} {x v : Int} (n : WN h u S) (g : Gd S) (hu : u = 14 ∨ u = 20) (hx : 0 ≤ x ∧ x < 12) : WN (pI h 29 x.toNat v) u (up S (61 + x) v) := by
  have ga := g.a
  have gb := g.b
  have f0 : Fr (fun a k => a = 29) h (pI h 29 x.toNat v) := Fr.pI Fr.rf rfl
  obtain ⟨⟨hw, wf, wa⟩, ⟨q1, q2, q3, q4⟩, z1, z2⟩ := n
  refine ⟨⟨hw.fr f0, ?_, wa.cg (by omega) (by omega) (up_ne (by omega)) (up_ne (by omega)) (fun k k0 k1 => up_ne (by omega)) (fun c k c0 c1 => by rw [hI_pI, if_neg (by omega)])⟩, ⟨q1.fr f0, ?_, ?_, fun k hk => ?_⟩, by rw [hI_pI, if_neg (by omega)]; exact z1, by rw [hI_pI, if_neg (by omega)]; exact z2⟩
  · obtain ⟨w1, w2, w3, w4, w5, w6, w7, w8, w9, w10⟩ := wf
    refine ⟨?_, ?_, ?_, ?_, ?_, ?_, ?_, ?_, ?_, ?_⟩ <;> (rw [hI_pI, if_neg (by omega), up_ne (by omega)]; assumption)
  · rw [hI_pI, if_neg (by omega), up_ne (by omega)]; exact q2
  · rw [hI_pI, if_neg (by omega), up_ne (by omega)]; exact q3
  · show hI (pI h 29 x.toNat v) 29 k = _
    rw [hI_pI]
    unfold up
    by_cases c : k = x.toNat
    · rw [if_pos ⟨rfl, c⟩, if_pos (by omega)]
    · rw [if_neg (fun z => c z.2), if_neg (by omega)]; exact q4 k hk
def crW (h' : Hp) (w u : Nat) (T : Int → Int) (n : Int) (r : RW2) : Prop := match r with
  | .inl e => CF h' w T n e
  | .inr q => ∃ l, CP h' w T n q.1 l ∧ lwL q.2 l ∧ WN h' u q.2
theorem c_mkF {d w A : Nat} {h : Hp} {T : Int → Int} {n v : Int} {e : Int × Int} (m : CF h w T n e) : ∃ h', EX (d+4) m_Reader_readMark 22 [(0, .inr (.inr (8))), (1, .inr (.inr (A))), (3, .inl (v))] [] (h) = some (.inl 0, h') ∧ CF h' w T n e ∧ Fr pLw h h' := by
  have hc := m.1.1
  obtain ⟨h1, v1, e1, m1, f1⟩ := c_takeF (d := d) (lo := 0) (hi := 99) m (by omega) (by omega)
  have hc1 := m1.1.1
  have es := c_soundF (d := d + 3) m1
  refine ⟨h1, ?_, m1, f1⟩
  simp (disch := omega) only [Reader_readMark_22, wr_id, ix_id, okx, if_pos, if_neg, Int.toNat_of_nonneg, bak_v, bak_n, wr_b01, wr_bt, b01_or, b01_0, b01_1, lc_lt0, lc_gt0, lc_eq0, wl_wr, wr_wr, wl_id, true_and, and_true, true_or, or_true, not_true_eq_false, not_false_eq_true, nc0, nc1, nc2, nc3, nc4, nc5, nc6, nc7, nc8, nc9, nc10, nc11, nc12, nc13, nc14, nc15, nc16, nc17, nc18, nc19, nc20, nc21, nc22, nc23, nc35, nc47, nc59, nc60, nc61, nc73, nc74, nc214, nc215, nc1115, nc2230, nc3345, if_true, if_false, Int.reduceToNat, hc.k8, hc.r8_0, hc.k9, e1]
  simp (disch := omega) only [Reader_readMark_32, Reader_readMark_41, Reader_readMark_55, wr_id, ix_id, okx, if_pos, if_neg, Int.toNat_of_nonneg, bak_v, bak_n, wr_b01, wr_bt, b01_or, b01_0, b01_1, lc_lt0, lc_gt0, lc_eq0, wl_wr, wr_wr, wl_id, true_and, and_true, true_or, or_true, not_true_eq_false, not_false_eq_true, nc0, nc1, nc2, nc3, nc4, nc5, nc6, nc7, nc8, nc9, nc10, nc11, nc12, nc13, nc14, nc15, nc16, nc17, nc18, nc19, nc20, nc21, nc22, nc23, nc35, nc47, nc59, nc60, nc61, nc73, nc74, nc214, nc215, nc1115, nc2230, nc3345, if_true, if_false, Int.reduceToNat, hc1.k8, hc1.r8_0, hc1.k9, es]
theorem c_mark {d w u A : Nat} {h : Hp} {T : Int → Int} {n a many o : Int} {S : Int → Int} {l : List Int} (hu : u = 14 ∨ u = 20) (hA : (A = u + 3 ∧ o = 35) ∨ (A = u + 4 ∧ o = 47)) (hm : 0 ≤ many ∧ many ≤ 12) (m : CP h w T n a l) (lw : lwL S l) (lo : LawOk S) (g : Gd S) (wn : WN h u S) : ∃ h', cal (d+5) m_Reader_readMark [.inr (.inr (8)), .inr (.inr (A)), .inl (many)] (h) = some (.inl 0, h') ∧ crW h' w u T n (mkP T n many o a S) ∧ Fr (pRd u) h h' := by
  have hc := m.1.1
  have hl := lw.len lo
  have rg := m.rng
  have lt : ∀ a k, pLw a k → a < 14 := fun a k z => z.lt
  have toR : ∀ {h h' : Hp}, Fr pLw h h' → Fr (pRd u) h h' := fun f => f.mo (fun a k z => z.rd)
  show ∃ h', EX (d+4) m_Reader_readMark 0 [(0, .inr (.inr (8))), (1, .inr (.inr (A))), (2, .inl (many))] [] (h) = some (.inl 0, h') ∧ _
  unfold mkP
  cases hq : tak T n 0 (many - 1) a with
  | inl e =>
    obtain ⟨h1, e1, m1, f1⟩ := c_takeN (d := d) m hl (lo := 0) (hi := many - 1) (by omega) (by omega) hq
    have hc1 := m1.1.1
    obtain ⟨h2, e2, m2, f2⟩ := c_passF (d := d) m1 138
    obtain ⟨h3, e3, m3, f3⟩ := c_mkF (d := d) (A := A) (v := 0) m2
    refine ⟨h3, ?_, m3, toR ((f1.tr f2).tr f3)⟩
    simp (disch := omega) only [Reader_readMark_0, wr_id, ix_id, okx, if_pos, if_neg, Int.toNat_of_nonneg, bak_v, bak_n, wr_b01, wr_bt, b01_or, b01_0, b01_1, lc_lt0, lc_gt0, lc_eq0, wl_wr, wr_wr, wl_id, true_and, and_true, true_or, or_true, not_true_eq_false, not_false_eq_true, nc0, nc1, nc2, nc3, nc4, nc5, nc6, nc7, nc8, nc9, nc10, nc11, nc12, nc13, nc14, nc15, nc16, nc17, nc18, nc19, nc20, nc21, nc22, nc23, nc35, nc47, nc59, nc60, nc61, nc73, nc74, nc214, nc215, nc1115, nc2230, nc3345, if_true, if_false, Int.reduceToNat, hc.k8, hc.r8_0, hc.k9, e1]
    simp (disch := omega) only [Reader_readMark_11, wr_id, ix_id, okx, if_pos, if_neg, Int.toNat_of_nonneg, bak_v, bak_n, wr_b01, wr_bt, b01_or, b01_0, b01_1, lc_lt0, lc_gt0, lc_eq0, wl_wr, wr_wr, wl_id, true_and, and_true, true_or, or_true, not_true_eq_false, not_false_eq_true, nc0, nc1, nc2, nc3, nc4, nc5, nc6, nc7, nc8, nc9, nc10, nc11, nc12, nc13, nc14, nc15, nc16, nc17, nc18, nc19, nc20, nc21, nc22, nc23, nc35, nc47, nc59, nc60, nc61, nc73, nc74, nc214, nc215, nc1115, nc2230, nc3345, if_true, if_false, Int.reduceToNat, hc1.k8, hc1.r8_0, hc1.k9, e2]
    exact e3
  | inr q1 =>
    obtain ⟨t1, t2, t3, t4, t5, t6, t7⟩ := tak_ok rg.2.1 hq
    obtain ⟨h1, e1, m1, f1⟩ := c_take (d := d) m (lo := 0) (hi := many - 1) (by omega) (by omega) hq
    have hc1 := m1.1.1
    have st : EX (d+4) m_Reader_readMark 0 [(0, .inr (.inr (8))), (1, .inr (.inr (A))), (2, .inl (many))] [] (h) = EX (d+4) m_Reader_readMark 11 [(0, .inr (.inr (8))), (1, .inr (.inr (A)))] [.inl (q1.2)] (h1) := by
      simp (disch := omega) only [Reader_readMark_0, wr_id, ix_id, okx, if_pos, if_neg, Int.toNat_of_nonneg, bak_v, bak_n, wr_b01, wr_bt, b01_or, b01_0, b01_1, lc_lt0, lc_gt0, lc_eq0, wl_wr, wr_wr, wl_id, true_and, and_true, true_or, or_true, not_true_eq_false, not_false_eq_true, nc0, nc1, nc2, nc3, nc4, nc5, nc6, nc7, nc8, nc9, nc10, nc11, nc12, nc13, nc14, nc15, nc16, nc17, nc18, nc19, nc20, nc21, nc22, nc23, nc35, nc47, nc59, nc60, nc61, nc73, nc74, nc214, nc215, nc1115, nc2230, nc3345, if_true, if_false, Int.reduceToNat, hc.k8, hc.r8_0, hc.k9, e1]
    rw [st]
    dsimp only
    by_cases c3 : tkK T n q1.1 = 3
    · rw [if_pos c3]
      obtain ⟨h2, e2, m2, f2⟩ := c_pass (d := d) m1 (k := 3) (c := 138) (by unfold kdO; omega) rfl c3
      have hc2 := m2.1.1
      cases hq2 : tak T n 0 99 (nx T n q1.1) with
      | inl e =>
        obtain ⟨h3, e3, m3, f3⟩ := c_takeN (d := d) m2 hl (lo := 0) (hi := 99) (by omega) (by omega) hq2
        have hc3 := m3.1.1
        have es := c_soundF (d := d + 3) m3
        refine ⟨h3, ?_, m3, toR ((f1.tr f2).tr f3)⟩
        simp (disch := omega) only [Reader_readMark_11, wr_id, ix_id, okx, if_pos, if_neg, Int.toNat_of_nonneg, bak_v, bak_n, wr_b01, wr_bt, b01_or, b01_0, b01_1, lc_lt0, lc_gt0, lc_eq0, wl_wr, wr_wr, wl_id, true_and, and_true, true_or, or_true, not_true_eq_false, not_false_eq_true, nc0, nc1, nc2, nc3, nc4, nc5, nc6, nc7, nc8, nc9, nc10, nc11, nc12, nc13, nc14, nc15, nc16, nc17, nc18, nc19, nc20, nc21, nc22, nc23, nc35, nc47, nc59, nc60, nc61, nc73, nc74, nc214, nc215, nc1115, nc2230, nc3345, if_true, if_false, Int.reduceToNat, hc1.k8, hc1.r8_0, hc1.k9, e2]
        simp (disch := omega) only [Reader_readMark_22, wr_id, ix_id, okx, if_pos, if_neg, Int.toNat_of_nonneg, bak_v, bak_n, wr_b01, wr_bt, b01_or, b01_0, b01_1, lc_lt0, lc_gt0, lc_eq0, wl_wr, wr_wr, wl_id, true_and, and_true, true_or, or_true, not_true_eq_false, not_false_eq_true, nc0, nc1, nc2, nc3, nc4, nc5, nc6, nc7, nc8, nc9, nc10, nc11, nc12, nc13, nc14, nc15, nc16, nc17, nc18, nc19, nc20, nc21, nc22, nc23, nc35, nc47, nc59, nc60, nc61, nc73, nc74, nc214, nc215, nc1115, nc2230, nc3345, if_true, if_false, Int.reduceToNat, hc2.k8, hc2.r8_0, hc2.k9, e3]
        simp (disch := omega) only [Reader_readMark_32, Reader_readMark_41, Reader_readMark_55, wr_id, ix_id, okx, if_pos, if_neg, Int.toNat_of_nonneg, bak_v, bak_n, wr_b01, wr_bt, b01_or, b01_0, b01_1, lc_lt0, lc_gt0, lc_eq0, wl_wr, wr_wr, wl_id, true_and, and_true, true_or, or_true, not_true_eq_false, not_false_eq_true, nc0, nc1, nc2, nc3, nc4, nc5, nc6, nc7, nc8, nc9, nc10, nc11, nc12, nc13, nc14, nc15, nc16, nc17, nc18, nc19, nc20, nc21, nc22, nc23, nc35, nc47, nc59, nc60, nc61, nc73, nc74, nc214, nc215, nc1115, nc2230, nc3345, if_true, if_false, Int.reduceToNat, hc3.k8, hc3.r8_0, hc3.k9, es]
      | inr q2 =>
        obtain ⟨h3, e3, m3, f3⟩ := c_take (d := d) m2 (lo := 0) (hi := 99) (by omega) (by omega) hq2
        have hc3 := m3.1.1
        have es := c_sound (d := d + 3) m3
        have wn3 := ((wn.fr f1 hu lt).fr f2 hu lt).fr f3 hu lt
        have hw := wn3.1.1
        have sA : sK h3 A = 20 ∧ sN h3 A = 12 := by
          rcases hA with ⟨z, -⟩ | ⟨z, -⟩ <;> subst z
          · exact ⟨hw.k3, hw.n3⟩
          · exact ⟨hw.k4, hw.n4⟩
        have s1 := sA.1
        have s2 := sA.2
        have s3 : sL h3 A = 12 := by rw [sL_eq, s2]; rfl
        refine ⟨pI h3 A q1.2.toNat q2.2, ?_, ⟨l, m3.fu (Fr.pI (p := fun a _ => a = A) Fr.rf rfl) (fun a k z => by omega), lw.cg (fun k hk => up_ne (by omega)), wn3.pm g hu hA (by omega)⟩, Fr.pI (toR ((f1.tr f2).tr f3)) (by unfold pRd; omega)⟩
        simp (disch := omega) only [Reader_readMark_11, wr_id, ix_id, okx, if_pos, if_neg, Int.toNat_of_nonneg, bak_v, bak_n, wr_b01, wr_bt, b01_or, b01_0, b01_1, lc_lt0, lc_gt0, lc_eq0, wl_wr, wr_wr, wl_id, true_and, and_true, true_or, or_true, not_true_eq_false, not_false_eq_true, nc0, nc1, nc2, nc3, nc4, nc5, nc6, nc7, nc8, nc9, nc10, nc11, nc12, nc13, nc14, nc15, nc16, nc17, nc18, nc19, nc20, nc21, nc22, nc23, nc35, nc47, nc59, nc60, nc61, nc73, nc74, nc214, nc215, nc1115, nc2230, nc3345, if_true, if_false, Int.reduceToNat, hc1.k8, hc1.r8_0, hc1.k9, e2]
        simp (disch := omega) only [Reader_readMark_22, wr_id, ix_id, okx, if_pos, if_neg, Int.toNat_of_nonneg, bak_v, bak_n, wr_b01, wr_bt, b01_or, b01_0, b01_1, lc_lt0, lc_gt0, lc_eq0, wl_wr, wr_wr, wl_id, true_and, and_true, true_or, or_true, not_true_eq_false, not_false_eq_true, nc0, nc1, nc2, nc3, nc4, nc5, nc6, nc7, nc8, nc9, nc10, nc11, nc12, nc13, nc14, nc15, nc16, nc17, nc18, nc19, nc20, nc21, nc22, nc23, nc35, nc47, nc59, nc60, nc61, nc73, nc74, nc214, nc215, nc1115, nc2230, nc3345, if_true, if_false, Int.reduceToNat, hc2.k8, hc2.r8_0, hc2.k9, e3]
        simp (disch := omega) only [Reader_readMark_32, Reader_readMark_41, Reader_readMark_44, Reader_readMark_50, Reader_readMark_55, wr_id, ix_id, okx, if_pos, if_neg, Int.toNat_of_nonneg, bak_v, bak_n, wr_b01, wr_bt, b01_or, b01_0, b01_1, lc_lt0, lc_gt0, lc_eq0, wl_wr, wr_wr, wl_id, true_and, and_true, true_or, or_true, not_true_eq_false, not_false_eq_true, nc0, nc1, nc2, nc3, nc4, nc5, nc6, nc7, nc8, nc9, nc10, nc11, nc12, nc13, nc14, nc15, nc16, nc17, nc18, nc19, nc20, nc21, nc22, nc23, nc35, nc47, nc59, nc60, nc61, nc73, nc74, nc214, nc215, nc1115, nc2230, nc3345, if_true, if_false, Int.reduceToNat, hc3.k8, hc3.r8_0, hc3.k9, es, s1, s2, s3]
    · rw [if_neg c3]
      obtain ⟨h2, e2, m2, f2⟩ := c_passN (d := d) m1 hl (k := 3) (c := 138) (by unfold kdO; omega) rfl c3
      obtain ⟨h3, e3, m3, f3⟩ := c_mkF (d := d) (A := A) (v := q1.2) m2
      refine ⟨h3, ?_, m3, toR ((f1.tr f2).tr f3)⟩
      simp (disch := omega) only [Reader_readMark_11, wr_id, ix_id, okx, if_pos, if_neg, Int.toNat_of_nonneg, bak_v, bak_n, wr_b01, wr_bt, b01_or, b01_0, b01_1, lc_lt0, lc_gt0, lc_eq0, wl_wr, wr_wr, wl_id, true_and, and_true, true_or, or_true, not_true_eq_false, not_false_eq_true, nc0, nc1, nc2, nc3, nc4, nc5, nc6, nc7, nc8, nc9, nc10, nc11, nc12, nc13, nc14, nc15, nc16, nc17, nc18, nc19, nc20, nc21, nc22, nc23, nc35, nc47, nc59, nc60, nc61, nc73, nc74, nc214, nc215, nc1115, nc2230, nc3345, if_true, if_false, Int.reduceToNat, hc1.k8, hc1.r8_0, hc1.k9, e2]
      exact e3
theorem c_joinR {d w u : Nat} {h : Hp} {T : Int → Int} {n a : Int} {S : Int → Int} {l : List Int} (hu : u = 14 ∨ u = 20) (m : CP h w T n a l) (lw : lwL S l) (lo : LawOk S) (g : Gd S) (wn : WN h u S) : ∃ h', cal (d+5) m_Reader_readJoin [.inr (.inr (8)), .inr (.inr (u)), .inr (.inr (28))] (h) = some (.inl 0, h') ∧ crW h' w u T n (jnP T n a S) ∧ Fr (pRd u) h h' := by
  have hc := m.1.1
  have hl := lw.len lo
  have rg := m.rng
  have ga := g.a
  have gb := g.b
  have lt : ∀ a k, pLw a k → a < 14 := fun a k z => z.lt
  have toR : ∀ {h h' : Hp}, Fr pLw h h' → Fr (pRd u) h h' := fun f => f.mo (fun a k z => z.rd)
  have w5 := wn.1.f5
  have w6 := wn.1.f6
  have hw := wn.1.1
  show ∃ h', EX (d+4) m_Reader_readJoin 0 [(0, .inr (.inr (8))), (1, .inr (.inr (u))), (2, .inr (.inr (28)))] [] (h) = some (.inl 0, h') ∧ _
  unfold jnP
  have rest : ∀ (h1 : Hp) (v : Int) (e : Int × Int), CF h1 w T n e → WN h1 u S → ∃ h', EX (d+4) m_Reader_readJoin 14 [(0, .inr (.inr (8))), (1, .inr (.inr (u))), (2, .inr (.inr (28)))] [.inl (v)] (h1) = some (.inl 0, h') ∧ CF h' w T n e ∧ Fr pLw h1 h' := fun h1 v e m1 wn1 => by
    have hc1 := m1.1.1
    have hw1 := wn1.1.1
    have w61 := wn1.1.f6
    obtain ⟨h2, v2, e2, m2, f2⟩ := c_takeF (d := d) (lo := 0) (hi := S 2 - 1) m1 (by omega) (by omega)
    have hc2 := m2.1.1
    have es := c_soundF (d := d + 3) m2
    refine ⟨h2, ?_, m2, f2⟩
    simp (disch := omega) only [Reader_readJoin_14, wr_id, ix_id, okx, if_pos, if_neg, Int.toNat_of_nonneg, bak_v, bak_n, wr_b01, wr_bt, b01_or, b01_0, b01_1, lc_lt0, lc_gt0, lc_eq0, wl_wr, wr_wr, wl_id, true_and, and_true, true_or, or_true, not_true_eq_false, not_false_eq_true, nc0, nc1, nc2, nc3, nc4, nc5, nc6, nc7, nc8, nc9, nc10, nc11, nc12, nc13, nc14, nc15, nc16, nc17, nc18, nc19, nc20, nc21, nc22, nc23, nc35, nc47, nc59, nc60, nc61, nc73, nc74, nc214, nc215, nc1115, nc2230, nc3345, if_true, if_false, Int.reduceToNat, hc1.k8, hc1.r8_0, hc1.k9, hw1.k, w61, e2]
    simp (disch := omega) only [Reader_readJoin_38, Reader_readJoin_47, Reader_readJoin_50, wr_id, ix_id, okx, if_pos, if_neg, Int.toNat_of_nonneg, bak_v, bak_n, wr_b01, wr_bt, b01_or, b01_0, b01_1, lc_lt0, lc_gt0, lc_eq0, wl_wr, wr_wr, wl_id, true_and, and_true, true_or, or_true, not_true_eq_false, not_false_eq_true, nc0, nc1, nc2, nc3, nc4, nc5, nc6, nc7, nc8, nc9, nc10, nc11, nc12, nc13, nc14, nc15, nc16, nc17, nc18, nc19, nc20, nc21, nc22, nc23, nc35, nc47, nc59, nc60, nc61, nc73, nc74, nc214, nc215, nc1115, nc2230, nc3345, if_true, if_false, Int.reduceToNat, hc2.k8, hc2.r8_0, hc2.k9, es]
  cases hq : tak T n 0 (S 1 - 1) a with
  | inl e =>
    obtain ⟨h1, e1, m1, f1⟩ := c_takeN (d := d) m hl (lo := 0) (hi := S 1 - 1) (by omega) (by omega) hq
    obtain ⟨h2, e2, m2, f2⟩ := rest h1 0 e m1 (wn.fr f1 hu lt)
    refine ⟨h2, ?_, m2, toR (f1.tr f2)⟩
    simp (disch := omega) only [Reader_readJoin_0, wr_id, ix_id, okx, if_pos, if_neg, Int.toNat_of_nonneg, bak_v, bak_n, wr_b01, wr_bt, b01_or, b01_0, b01_1, lc_lt0, lc_gt0, lc_eq0, wl_wr, wr_wr, wl_id, true_and, and_true, true_or, or_true, not_true_eq_false, not_false_eq_true, nc0, nc1, nc2, nc3, nc4, nc5, nc6, nc7, nc8, nc9, nc10, nc11, nc12, nc13, nc14, nc15, nc16, nc17, nc18, nc19, nc20, nc21, nc22, nc23, nc35, nc47, nc59, nc60, nc61, nc73, nc74, nc214, nc215, nc1115, nc2230, nc3345, if_true, if_false, Int.reduceToNat, hc.k8, hc.r8_0, hc.k9, hw.k, w5, e1]
    exact e2
  | inr q1 =>
    obtain ⟨t1, t2, t3, t4, t5, t6, t7⟩ := tak_ok rg.2.1 hq
    obtain ⟨h1, e1, m1, f1⟩ := c_take (d := d) m (lo := 0) (hi := S 1 - 1) (by omega) (by omega) hq
    have hc1 := m1.1.1
    have wn1 := wn.fr f1 hu lt
    have hw1 := wn1.1.1
    have w61 := wn1.1.f6
    have k5 := m1.2.1.1
    have st : EX (d+4) m_Reader_readJoin 0 [(0, .inr (.inr (8))), (1, .inr (.inr (u))), (2, .inr (.inr (28)))] [] (h) = EX (d+4) m_Reader_readJoin 14 [(0, .inr (.inr (8))), (1, .inr (.inr (u))), (2, .inr (.inr (28)))] [.inl (q1.2)] (h1) := by
      simp (disch := omega) only [Reader_readJoin_0, wr_id, ix_id, okx, if_pos, if_neg, Int.toNat_of_nonneg, bak_v, bak_n, wr_b01, wr_bt, b01_or, b01_0, b01_1, lc_lt0, lc_gt0, lc_eq0, wl_wr, wr_wr, wl_id, true_and, and_true, true_or, or_true, not_true_eq_false, not_false_eq_true, nc0, nc1, nc2, nc3, nc4, nc5, nc6, nc7, nc8, nc9, nc10, nc11, nc12, nc13, nc14, nc15, nc16, nc17, nc18, nc19, nc20, nc21, nc22, nc23, nc35, nc47, nc59, nc60, nc61, nc73, nc74, nc214, nc215, nc1115, nc2230, nc3345, if_true, if_false, Int.reduceToNat, hc.k8, hc.r8_0, hc.k9, hw.k, w5, e1]
    rw [st]
    dsimp only
    cases hq2 : tak T n 0 (S 2 - 1) q1.1 with
    | inl e =>
      have ee : (if tkK T n q1.1 = 21 ∧ (¬ (0 ≤ tkN T n q1.1 ∧ tkN T n q1.1 ≤ S 2 - 1) ∨ ¬ whyM S q1.2 (tkN T n q1.1) = 0) then (Sum.inl (3, q1.1) : RW2) else .inl e) = .inl e := by
        split
        · rename_i c
          unfold tak at hq2
          rw [if_pos c.1] at hq2
          split at hq2
          · cases hq2
          · cases hq2; rfl
        · rfl
      dsimp only
      rw [ee]
      obtain ⟨h2, e2, m2, f2⟩ := c_takeN (d := d) m1 hl (lo := 0) (hi := S 2 - 1) (by omega) (by omega) hq2
      have hc2 := m2.1.1
      have es := c_soundF (d := d + 3) m2
      refine ⟨h2, ?_, m2, toR (f1.tr f2)⟩
      simp (disch := omega) only [Reader_readJoin_14, wr_id, ix_id, okx, if_pos, if_neg, Int.toNat_of_nonneg, bak_v, bak_n, wr_b01, wr_bt, b01_or, b01_0, b01_1, lc_lt0, lc_gt0, lc_eq0, wl_wr, wr_wr, wl_id, true_and, and_true, true_or, or_true, not_true_eq_false, not_false_eq_true, nc0, nc1, nc2, nc3, nc4, nc5, nc6, nc7, nc8, nc9, nc10, nc11, nc12, nc13, nc14, nc15, nc16, nc17, nc18, nc19, nc20, nc21, nc22, nc23, nc35, nc47, nc59, nc60, nc61, nc73, nc74, nc214, nc215, nc1115, nc2230, nc3345, if_true, if_false, Int.reduceToNat, hc1.k8, hc1.r8_0, hc1.k9, hw1.k, w61, e2]
      simp (disch := omega) only [Reader_readJoin_38, Reader_readJoin_47, Reader_readJoin_50, wr_id, ix_id, okx, if_pos, if_neg, Int.toNat_of_nonneg, bak_v, bak_n, wr_b01, wr_bt, b01_or, b01_0, b01_1, lc_lt0, lc_gt0, lc_eq0, wl_wr, wr_wr, wl_id, true_and, and_true, true_or, or_true, not_true_eq_false, not_false_eq_true, nc0, nc1, nc2, nc3, nc4, nc5, nc6, nc7, nc8, nc9, nc10, nc11, nc12, nc13, nc14, nc15, nc16, nc17, nc18, nc19, nc20, nc21, nc22, nc23, nc35, nc47, nc59, nc60, nc61, nc73, nc74, nc214, nc215, nc1115, nc2230, nc3345, if_true, if_false, Int.reduceToNat, hc2.k8, hc2.r8_0, hc2.k9, es]
    | inr q2 =>
      have rg1 := m1.rng
      obtain ⟨s1, s2, s3, s4, s5, s6, s7⟩ := tak_ok rg1.2.1 hq2
      obtain ⟨h2, e2, m2, f2⟩ := c_take (d := d) m1 (lo := 0) (hi := S 2 - 1) (by omega) (by omega) hq2
      have hc2 := m2.1.1
      have wn2 := wn1.fr f2 hu lt
      have es := c_sound (d := d + 3) m2
      have ey := c_whyNotJoin (d := d + 1) wn2.1 wn2.2.1 g (x := q1.2) (y := q2.2) (by omega) (by omega)
      have wr' := whyM_rng S q1.2 q2.2
      have ha2 := wn2.2.1.1
      have hw2 := wn2.1.1
      dsimp only
      by_cases c0 : whyM S q1.2 q2.2 = 0
      · rw [if_neg (fun z => by rw [← s6] at z; rcases z.2 with y | y; exact y ⟨s3, s4⟩; exact y c0)]
        refine ⟨pI h2 29 q1.2.toNat q2.2, ?_, ⟨l, m2.fu (Fr.pI (p := fun a _ => a = 29) Fr.rf rfl) (fun a k z => by omega), lw.cg (fun k hk => up_ne (by omega)), wn2.ph g hu (by omega)⟩, Fr.pI (toR (f1.tr f2)) (by unfold pRd; omega)⟩
        rw [c0] at ey
        simp (disch := omega) only [Reader_readJoin_14, wr_id, ix_id, okx, if_pos, if_neg, Int.toNat_of_nonneg, bak_v, bak_n, wr_b01, wr_bt, b01_or, b01_0, b01_1, lc_lt0, lc_gt0, lc_eq0, wl_wr, wr_wr, wl_id, true_and, and_true, true_or, or_true, not_true_eq_false, not_false_eq_true, nc0, nc1, nc2, nc3, nc4, nc5, nc6, nc7, nc8, nc9, nc10, nc11, nc12, nc13, nc14, nc15, nc16, nc17, nc18, nc19, nc20, nc21, nc22, nc23, nc35, nc47, nc59, nc60, nc61, nc73, nc74, nc214, nc215, nc1115, nc2230, nc3345, if_true, if_false, Int.reduceToNat, hc1.k8, hc1.r8_0, hc1.k9, hw1.k, w61, e2]
        simp (disch := omega) only [Reader_readJoin_38, Reader_readJoin_47, Reader_readJoin_51, Reader_readJoin_59, Reader_readJoin_62, Reader_readJoin_70, Reader_readJoin_83, wr_id, ix_id, okx, if_pos, if_neg, Int.toNat_of_nonneg, bak_v, bak_n, wr_b01, wr_bt, b01_or, b01_0, b01_1, lc_lt0, lc_gt0, lc_eq0, wl_wr, wr_wr, wl_id, true_and, and_true, true_or, or_true, not_true_eq_false, not_false_eq_true, nc0, nc1, nc2, nc3, nc4, nc5, nc6, nc7, nc8, nc9, nc10, nc11, nc12, nc13, nc14, nc15, nc16, nc17, nc18, nc19, nc20, nc21, nc22, nc23, nc35, nc47, nc59, nc60, nc61, nc73, nc74, nc214, nc215, nc1115, nc2230, nc3345, if_true, if_false, Int.reduceToNat, hc2.k8, hc2.r8_0, hc2.k9, es, ey, ha2.k, ha2.r, ha2.k1, ha2.n1]
      · rw [if_pos ⟨s5, Or.inr (by rw [← s6]; exact c0)⟩]
        obtain ⟨h3, e3, m3, f3⟩ := c_failAt (d := d + 3) (p := q1.1) (f := 3) m2 hl (by omega)
        refine ⟨h3, ?_, m3, toR ((f1.tr f2).tr f3)⟩
        simp (disch := omega) only [Reader_readJoin_14, wr_id, ix_id, okx, if_pos, if_neg, Int.toNat_of_nonneg, bak_v, bak_n, wr_b01, wr_bt, b01_or, b01_0, b01_1, lc_lt0, lc_gt0, lc_eq0, wl_wr, wr_wr, wl_id, true_and, and_true, true_or, or_true, not_true_eq_false, not_false_eq_true, nc0, nc1, nc2, nc3, nc4, nc5, nc6, nc7, nc8, nc9, nc10, nc11, nc12, nc13, nc14, nc15, nc16, nc17, nc18, nc19, nc20, nc21, nc22, nc23, nc35, nc47, nc59, nc60, nc61, nc73, nc74, nc214, nc215, nc1115, nc2230, nc3345, if_true, if_false, Int.reduceToNat, hc1.k8, hc1.r8_0, hc1.k9, hw1.k, w61, k5, e2]
        simp (disch := omega) only [Reader_readJoin_38, Reader_readJoin_47, Reader_readJoin_51, Reader_readJoin_59, Reader_readJoin_73, Reader_readJoin_83, wr_id, ix_id, okx, if_pos, if_neg, Int.toNat_of_nonneg, bak_v, bak_n, wr_b01, wr_bt, b01_or, b01_0, b01_1, lc_lt0, lc_gt0, lc_eq0, wl_wr, wr_wr, wl_id, true_and, and_true, true_or, or_true, not_true_eq_false, not_false_eq_true, nc0, nc1, nc2, nc3, nc4, nc5, nc6, nc7, nc8, nc9, nc10, nc11, nc12, nc13, nc14, nc15, nc16, nc17, nc18, nc19, nc20, nc21, nc22, nc23, nc35, nc47, nc59, nc60, nc61, nc73, nc74, nc214, nc215, nc1115, nc2230, nc3345, if_true, if_false, Int.reduceToNat, hc2.k8, hc2.r8_0, hc2.k9, es, ey, ha2.k, e3]
