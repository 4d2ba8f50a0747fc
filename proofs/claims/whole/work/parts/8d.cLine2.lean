/-! the class: settings, laws, rows; a line -/
def tkW (T : Int → Int) (n lo hi z : Int) (r : RW2) : RW2 := match r with
  | .inl e => .inl e
  | .inr q => match tak T n lo hi q.1 with
    | .inl e => .inl e
    | .inr p => .inr (p.1, up q.2 z p.2)
theorem crW.cr {h : Hp} {w u : Nat} {T : Int → Int} {n : Int} {r : RW2} (c : crW h w u T n r) : CR h w := by
  cases r with
  | inl e => exact (show CF h w T n e from c).1.1
  | inr q => obtain ⟨l, m, -⟩ := (show ∃ l, CP h w T n q.1 l ∧ lwL q.2 l ∧ WN h u q.2 from c); exact m.1.1
def gW (n : Int) (r : RW2) : Prop := ∀ q, r = .inr q → Gd q.2 ∧ LawOk q.2 ∧ q.1 ≤ n
theorem gW_tk {T : Int → Int} {n lo hi z : Int} {r : RW2} (g : gW n r) (hz : 3 ≤ z ∧ z ≤ 8) (ok : ∀ v, lo ≤ v → v ≤ hi → okZ z v) : gW n (tkW T n lo hi z r) := by
  intro q hq
  cases r with
  | inl e => cases hq
  | inr p =>
    obtain ⟨g1, g2, g3⟩ := g p rfl
    simp only [tkW] at hq
    cases ht : tak T n lo hi p.1 with
    | inl e => rw [ht] at hq; cases hq
    | inr t =>
      rw [ht] at hq
      cases hq
      obtain ⟨t1, t2, t3, t4, -⟩ := tak_ok g3 ht
      exact ⟨g1.w (GdW_up g1.1 (ok _ t3 t4)) (fun k hk => up_ne (by omega)), g2.cg (fun k hk => up_ne (by omega)), t2⟩
theorem c_tkW {d w u f : Nat} {h : Hp} {T : Int → Int} {n lo hi z : Int} {r : RW2} (c : crW h w u T n r) (g : gW n r) (hu : u = 14 ∨ u = 20) (hz : 3 ≤ z ∧ z ≤ 8) (hf : fz f z) (hlo : -1 ≤ lo ∧ lo ≤ 1000) (hh : -1 ≤ hi ∧ hi ≤ 1000) : ∃ h' v, cal (d+4) m_Tokens_passNumber [.inr (.inr (9)), .inl (lo), .inl (hi)] (h) = some (.inl v, h') ∧ crW (pI h' u f v) w u T n (tkW T n lo hi z r) ∧ Fr (pRd u) h (pI h' u f v) ∧ CR h' w := by
  have fu : ∀ (h' : Hp) (v : Int), Fr (fun a _ => a = u) h' (pI h' u f v) := fun h' v => Fr.pI Fr.rf rfl
  have toR : ∀ {h h' : Hp} (v : Int), Fr pLw h h' → Fr (pRd u) h (pI h' u f v) := fun v fr => Fr.pI (fr.mo (fun a k z => z.rd)) (by unfold pRd; omega)
  cases r with
  | inl e =>
    have m : CF h w T n e := c
    obtain ⟨h', v, e1, m1, f1⟩ := c_takeF (d := d) (lo := lo) (hi := hi) m hlo hh
    exact ⟨h', v, e1, m1.fu (fu h' v) (fun a k z => by omega), toR v f1, m1.1.1⟩
  | inr q =>
    obtain ⟨l, m, lw, wn⟩ := (show ∃ l, CP h w T n q.1 l ∧ lwL q.2 l ∧ WN h u q.2 from c)
    obtain ⟨g1, g2, g3⟩ := g q rfl
    have hl := lw.len g2
    simp only [tkW]
    cases ht : tak T n lo hi q.1 with
    | inl e =>
      obtain ⟨h', e1, m1, f1⟩ := c_takeN (d := d) m hl hlo hh ht
      exact ⟨h', lo, e1, m1.fu (fu h' lo) (fun a k z => by omega), toR lo f1, m1.1.1⟩
    | inr p =>
      obtain ⟨h', e1, m1, f1⟩ := c_take (d := d) m hlo hh ht
      exact ⟨h', p.2, e1, ⟨l, m1.fu (fu h' p.2) (fun a k z => by omega), lw.cg (fun k hk => up_ne (by omega)), (wn.fr f1 hu (fun a k z => z.lt)).pf g1 hu hf⟩, toR p.2 f1, m1.1.1⟩
theorem chP_eq (T : Int → Int) (n a : Int) (S : Int → Int) : chP T n a S = tkW T n 1 99 5 (tkW T n 0 99 4 (tkW T n 0 9 3 (.inr (a, S)))) := by
  unfold chP
  simp only [tkW]
  cases tak T n 0 9 a with
  | inl e => rfl
  | inr q1 =>
    dsimp only
    cases tak T n 0 99 q1.1 with
    | inl e => rfl
    | inr q2 =>
      dsimp only
      cases tak T n 1 99 q2.1 <;> rfl
theorem plP_eq (T : Int → Int) (n a : Int) (S : Int → Int) : plP T n a S = tkW T n 2 6 6 (.inr (a, S)) := by
  unfold plP
  simp only [tkW]
  cases tak T n 2 6 a <;> rfl
theorem slP_eq (T : Int → Int) (n a : Int) (S : Int → Int) : slP T n a S = tkW T n 0 999 8 (tkW T n 0 9 7 (.inr (a, S))) := by
  unfold slP
  simp only [tkW]
  cases tak T n 0 9 a with
  | inl e => rfl
  | inr q1 =>
    dsimp only
    cases tak T n 0 999 q1.1 <;> rfl
theorem c_setting {d w u : Nat} {h : Hp} {T : Int → Int} {n a k : Int} {S : Int → Int} {l : List Int} (hu : u = 14 ∨ u = 20) (m : CP h w T n a l) (lw : lwL S l) (lo : LawOk S) (g : Gd S) (wn : WN h u S) (hk : k = 7 ∨ k = 8 ∨ k = 9) : ∃ h', cal (d+5) m_Reader_readSetting [.inr (.inr (8)), .inl (kc k), .inr (.inr (u))] (h) = some (.inl 0, h') ∧ crW h' w u T n (if k = 7 then chP T n a S else if k = 8 then plP T n a S else slP T n a S) ∧ Fr (pRd u) h h' := by
  have c0 : crW h w u T n (.inr (a, S)) := ⟨l, m, lw, wn⟩
  have g0 : gW n (.inr (a, S)) := fun q hq => by cases hq; exact ⟨g, lo, m.rng.2.1⟩
  have hc := m.1.1
  have kw : ∀ {h' : Hp}, CR h' w → sK h' u = 9 := fun c => by
    have := c.2.2.2.2.2.2.1
    rcases hu with e | e <;> subst e
    · exact this.1.1
    · exact this.2.1.1
  have kwp : ∀ (h' : Hp) (f : Nat) (v : Int), CR (pI h' u f v) w → sK h' u = 9 := fun h' f v c => by
    have := kw c
    rw [sK_pI] at this
    exact this
  show ∃ h', EX (d+4) m_Reader_readSetting 0 [(0, .inr (.inr (8))), (1, .inl (kc k)), (2, .inr (.inr (u)))] [] (h) = some (.inl 0, h') ∧ _
  rcases hk with e | e | e <;> subst e
  · rw [if_pos rfl, chP_eq]
    obtain ⟨h1, v1, e1, c1, f1, k1⟩ := c_tkW (d := d) (f := 8) (lo := 0) (hi := 9) (z := 3) c0 g0 hu (by omega) (by unfold fz; omega) (by omega) (by omega)
    have g1 := gW_tk (T := T) (lo := 0) (hi := 9) (z := 3) g0 (by omega) (fun v v0 v1 => by unfold okZ; omega)
    have hc1 := c1.cr
    have kw1 := kw k1
    obtain ⟨h2, v2, e2, c2, f2, k2⟩ := c_tkW (d := d) (f := 9) (lo := 0) (hi := 99) (z := 4) c1 g1 hu (by omega) (by unfold fz; omega) (by omega) (by omega)
    have g2 := gW_tk (T := T) (lo := 0) (hi := 99) (z := 4) g1 (by omega) (fun v v0 v1 => by unfold okZ; omega)
    have hc2 := c2.cr
    have kw2 := kw k2
    obtain ⟨h3, v3, e3, c3, f3, k3⟩ := c_tkW (d := d) (f := 10) (lo := 1) (hi := 99) (z := 5) c2 g2 hu (by omega) (by unfold fz; omega) (by omega) (by omega)
    have kw3 := kw k3
    refine ⟨_, ?_, c3, (f1.tr f2).tr f3⟩
    rw [show kc 7 = 134 by decide]
    simp (disch := omega) only [Reader_readSetting_0, Reader_readSetting_7, wr_id, ix_id, okx, if_pos, if_neg, Int.toNat_of_nonneg, bak_v, bak_n, wr_b01, wr_bt, b01_or, b01_0, b01_1, lc_lt0, lc_gt0, lc_eq0, wl_wr, wr_wr, wl_id, true_and, and_true, true_or, or_true, not_true_eq_false, not_false_eq_true, nc0, nc1, nc2, nc3, nc4, nc5, nc6, nc7, nc8, nc9, nc10, nc11, nc12, nc13, nc14, nc15, nc16, nc17, nc18, nc19, nc20, nc21, nc22, nc23, nc35, nc47, nc59, nc60, nc61, nc73, nc74, nc214, nc215, nc1115, nc2230, nc3345, if_true, if_false, Int.reduceToNat, hc.k8, hc.r8_0, hc.k9, e1]
    simp (disch := omega) only [Reader_readSetting_18, Reader_readSetting_21, wr_id, ix_id, okx, if_pos, if_neg, Int.toNat_of_nonneg, bak_v, bak_n, wr_b01, wr_bt, b01_or, b01_0, b01_1, lc_lt0, lc_gt0, lc_eq0, wl_wr, wr_wr, wl_id, true_and, and_true, true_or, or_true, not_true_eq_false, not_false_eq_true, nc0, nc1, nc2, nc3, nc4, nc5, nc6, nc7, nc8, nc9, nc10, nc11, nc12, nc13, nc14, nc15, nc16, nc17, nc18, nc19, nc20, nc21, nc22, nc23, nc35, nc47, nc59, nc60, nc61, nc73, nc74, nc214, nc215, nc1115, nc2230, nc3345, if_true, if_false, Int.reduceToNat, kw1, hc1.k8, hc1.r8_0, hc1.k9, e2]
    simp (disch := omega) only [Reader_readSetting_32, Reader_readSetting_35, wr_id, ix_id, okx, if_pos, if_neg, Int.toNat_of_nonneg, bak_v, bak_n, wr_b01, wr_bt, b01_or, b01_0, b01_1, lc_lt0, lc_gt0, lc_eq0, wl_wr, wr_wr, wl_id, true_and, and_true, true_or, or_true, not_true_eq_false, not_false_eq_true, nc0, nc1, nc2, nc3, nc4, nc5, nc6, nc7, nc8, nc9, nc10, nc11, nc12, nc13, nc14, nc15, nc16, nc17, nc18, nc19, nc20, nc21, nc22, nc23, nc35, nc47, nc59, nc60, nc61, nc73, nc74, nc214, nc215, nc1115, nc2230, nc3345, if_true, if_false, Int.reduceToNat, kw2, hc2.k8, hc2.r8_0, hc2.k9, e3]
    simp (disch := omega) only [Reader_readSetting_46, Reader_readSetting_49, Reader_readSetting_105, wr_id, ix_id, okx, if_pos, if_neg, Int.toNat_of_nonneg, bak_v, bak_n, wr_b01, wr_bt, b01_or, b01_0, b01_1, lc_lt0, lc_gt0, lc_eq0, wl_wr, wr_wr, wl_id, true_and, and_true, true_or, or_true, not_true_eq_false, not_false_eq_true, nc0, nc1, nc2, nc3, nc4, nc5, nc6, nc7, nc8, nc9, nc10, nc11, nc12, nc13, nc14, nc15, nc16, nc17, nc18, nc19, nc20, nc21, nc22, nc23, nc35, nc47, nc59, nc60, nc61, nc73, nc74, nc214, nc215, nc1115, nc2230, nc3345, if_true, if_false, Int.reduceToNat, kw3]
  · rw [if_neg (by omega), if_pos rfl, plP_eq]
    obtain ⟨h1, v1, e1, c1, f1, k1⟩ := c_tkW (d := d) (f := 11) (lo := 2) (hi := 6) (z := 6) c0 g0 hu (by omega) (by unfold fz; omega) (by omega) (by omega)
    have kw1 := kw k1
    refine ⟨_, ?_, c1, f1⟩
    rw [show kc 8 = 135 by decide]
    simp (disch := omega) only [Reader_readSetting_0, Reader_readSetting_52, Reader_readSetting_59, wr_id, ix_id, okx, if_pos, if_neg, Int.toNat_of_nonneg, bak_v, bak_n, wr_b01, wr_bt, b01_or, b01_0, b01_1, lc_lt0, lc_gt0, lc_eq0, wl_wr, wr_wr, wl_id, true_and, and_true, true_or, or_true, not_true_eq_false, not_false_eq_true, nc0, nc1, nc2, nc3, nc4, nc5, nc6, nc7, nc8, nc9, nc10, nc11, nc12, nc13, nc14, nc15, nc16, nc17, nc18, nc19, nc20, nc21, nc22, nc23, nc35, nc47, nc59, nc60, nc61, nc73, nc74, nc214, nc215, nc1115, nc2230, nc3345, if_true, if_false, Int.reduceToNat, hc.k8, hc.r8_0, hc.k9, e1]
    simp (disch := omega) only [Reader_readSetting_70, Reader_readSetting_73, Reader_readSetting_105, wr_id, ix_id, okx, if_pos, if_neg, Int.toNat_of_nonneg, bak_v, bak_n, wr_b01, wr_bt, b01_or, b01_0, b01_1, lc_lt0, lc_gt0, lc_eq0, wl_wr, wr_wr, wl_id, true_and, and_true, true_or, or_true, not_true_eq_false, not_false_eq_true, nc0, nc1, nc2, nc3, nc4, nc5, nc6, nc7, nc8, nc9, nc10, nc11, nc12, nc13, nc14, nc15, nc16, nc17, nc18, nc19, nc20, nc21, nc22, nc23, nc35, nc47, nc59, nc60, nc61, nc73, nc74, nc214, nc215, nc1115, nc2230, nc3345, if_true, if_false, Int.reduceToNat, kw1]
  · rw [if_neg (by omega), if_neg (by omega), slP_eq]
    obtain ⟨h1, v1, e1, c1, f1, k1⟩ := c_tkW (d := d) (f := 12) (lo := 0) (hi := 9) (z := 7) c0 g0 hu (by omega) (by unfold fz; omega) (by omega) (by omega)
    have g1 := gW_tk (T := T) (lo := 0) (hi := 9) (z := 7) g0 (by omega) (fun v v0 v1 => by unfold okZ; omega)
    have hc1 := c1.cr
    have kw1 := kw k1
    obtain ⟨h2, v2, e2, c2, f2, k2⟩ := c_tkW (d := d) (f := 13) (lo := 0) (hi := 999) (z := 8) c1 g1 hu (by omega) (by unfold fz; omega) (by omega) (by omega)
    have kw2 := kw k2
    refine ⟨_, ?_, c2, f1.tr f2⟩
    rw [show kc 9 = 136 by decide]
    simp (disch := omega) only [Reader_readSetting_0, Reader_readSetting_52, Reader_readSetting_76, wr_id, ix_id, okx, if_pos, if_neg, Int.toNat_of_nonneg, bak_v, bak_n, wr_b01, wr_bt, b01_or, b01_0, b01_1, lc_lt0, lc_gt0, lc_eq0, wl_wr, wr_wr, wl_id, true_and, and_true, true_or, or_true, not_true_eq_false, not_false_eq_true, nc0, nc1, nc2, nc3, nc4, nc5, nc6, nc7, nc8, nc9, nc10, nc11, nc12, nc13, nc14, nc15, nc16, nc17, nc18, nc19, nc20, nc21, nc22, nc23, nc35, nc47, nc59, nc60, nc61, nc73, nc74, nc214, nc215, nc1115, nc2230, nc3345, if_true, if_false, Int.reduceToNat, hc.k8, hc.r8_0, hc.k9, e1]
    simp (disch := omega) only [Reader_readSetting_87, Reader_readSetting_90, wr_id, ix_id, okx, if_pos, if_neg, Int.toNat_of_nonneg, bak_v, bak_n, wr_b01, wr_bt, b01_or, b01_0, b01_1, lc_lt0, lc_gt0, lc_eq0, wl_wr, wr_wr, wl_id, true_and, and_true, true_or, or_true, not_true_eq_false, not_false_eq_true, nc0, nc1, nc2, nc3, nc4, nc5, nc6, nc7, nc8, nc9, nc10, nc11, nc12, nc13, nc14, nc15, nc16, nc17, nc18, nc19, nc20, nc21, nc22, nc23, nc35, nc47, nc59, nc60, nc61, nc73, nc74, nc214, nc215, nc1115, nc2230, nc3345, if_true, if_false, Int.reduceToNat, kw1, hc1.k8, hc1.r8_0, hc1.k9, e2]
    simp (disch := omega) only [Reader_readSetting_102, Reader_readSetting_105, wr_id, ix_id, okx, if_pos, if_neg, Int.toNat_of_nonneg, bak_v, bak_n, wr_b01, wr_bt, b01_or, b01_0, b01_1, lc_lt0, lc_gt0, lc_eq0, wl_wr, wr_wr, wl_id, true_and, and_true, true_or, or_true, not_true_eq_false, not_false_eq_true, nc0, nc1, nc2, nc3, nc4, nc5, nc6, nc7, nc8, nc9, nc10, nc11, nc12, nc13, nc14, nc15, nc16, nc17, nc18, nc19, nc20, nc21, nc22, nc23, nc35, nc47, nc59, nc60, nc61, nc73, nc74, nc214, nc215, nc1115, nc2230, nc3345, if_true, if_false, Int.reduceToNat, kw2]
theorem appC_at : ∀ (l : List Int) (S : Int → Int), 0 ≤ S 214 → ∀ i : Nat, i < l.length → appC S l (215 + S 214 + i) = l.getD i 0 := by
  intro l
  induction l with
  | nil => intro S _ i hi; simp at hi
  | cons c r ih =>
    intro S s0 i hi
    simp only [List.length_cons] at hi
    simp only [appC]
    cases i with
    | zero =>
      rw [appC_o r (emC S c) (by rw [emC_214]; omega) _ (by omega) (by rw [emC_214]; omega)]
      unfold emC
      rw [up_ne (by omega), show (215 + S 214 + ((0 : Nat) : Int)) = 215 + S 214 by omega, up_same]
      rfl
    | succ j =>
      have := ih (emC S c) (by rw [emC_214]; omega) j (by omega)
      rw [emC_214] at this
      rw [show (215 + S 214 + ((j + 1 : Nat) : Int)) = 215 + (S 214 + 1) + j by omega, this]
      simp
theorem WN.cg {h : Hp} {u : Nat} {S S' : Int → Int} (n : WN h u S) (g : Gd S) (hu : u = 14 ∨ u = 20) (e : ∀ k, 0 ≤ k → k ≤ 72 → ¬ k = 9 → S' k = S k) : WN h u S' := by
  have ga := g.a
  have gb := g.b
  obtain ⟨⟨hw, wf, wa⟩, hv, z1, z2⟩ := n
  refine ⟨⟨hw, ?_, wa.cg (by omega) (by omega) (e 1 (by omega) (by omega) (by omega)) (e 2 (by omega) (by omega) (by omega)) (fun k k0 k1 => e k (by omega) (by omega) (by omega)) (fun _ _ _ _ => rfl)⟩, hv.cg (p := fun _ _ => False) Fr.rf (fun _ => id) (fun _ => id) (fun k k0 k1 => e k (by omega) (by omega) (by omega)), z1, z2⟩
  unfold WVf at wf ⊢
  rw [e 1 (by omega) (by omega) (by omega), e 2 (by omega) (by omega) (by omega), e 10 (by omega) (by omega) (by omega), e 3 (by omega) (by omega) (by omega), e 4 (by omega) (by omega) (by omega), e 5 (by omega) (by omega) (by omega), e 6 (by omega) (by omega) (by omega), e 7 (by omega) (by omega) (by omega), e 8 (by omega) (by omega) (by omega), e 0 (by omega) (by omega) (by omega)]
  exact wf
theorem CP.z {h : Hp} {w : Nat} {T : Int → Int} {n a : Int} {l : List Int} (m : CP h w T n a l) : CP (pI h 11 2 0) w T n a [] := by
  obtain ⟨x, ⟨k5, k2, k3, k4⟩, h6, h7, cd, ar⟩ := m
  have f : Fr (fun a k => a = 11 ∧ k = 2) h (pI h 11 2 0) := Fr.pI Fr.rf ⟨rfl, rfl⟩
  exact ⟨x.fr f (fun a k q => by omega), ⟨by rw [f.I (by omega)]; exact k5, by rw [f.I (by omega)]; exact k2, by rw [f.I (by omega)]; exact k3, fun z => by rw [f.I (by omega)]; exact k4 z⟩, by rw [f.I (by omega)]; exact h6, by rw [f.I (by omega)]; exact h7, ⟨by rw [hI_pI, if_pos ⟨rfl, rfl⟩]; rfl, fun i hi => by simp at hi⟩, ar⟩
theorem CF.z {h : Hp} {w : Nat} {T : Int → Int} {n : Int} {e : Int × Int} (m : CF h w T n e) : CF (pI h 11 2 0) w T n e := by
  obtain ⟨x, ⟨e1, e2, e3⟩, ⟨a, ⟨k5, k2, k3, k4⟩, ar⟩, sz⟩ := m
  have f : Fr (fun a k => a = 11 ∧ k = 2) h (pI h 11 2 0) := Fr.pI Fr.rf ⟨rfl, rfl⟩
  exact ⟨x.fr f (fun a k q => by omega), ⟨by rw [f.I (by omega)]; exact e1, by rw [f.I (by omega)]; exact e2, e3⟩, ⟨a, ⟨by rw [f.I (by omega)]; exact k5, by rw [f.I (by omega)]; exact k2, by rw [f.I (by omega)]; exact k3, fun z => by rw [f.I (by omega)]; exact k4 z⟩, ar⟩, by rw [hI_pI, if_pos ⟨rfl, rfl⟩]; omega⟩
theorem c_truth {d w : Nat} {h : Hp} {T : Int → Int} {n a : Int} {l : List Int} (m : CP h w T n a l) : ∃ h', cal (d+93) m_Law_readTruth [.inr (.inr (11)), .inr (.inr (9))] (h) = some (.inl 0, h') ∧ crL h' w T n [] (prt T n 43 0 0 a) ∧ Fr pLw h h' := by
  have hc := m.1.1
  have mz := m.z
  have hcz := mz.1.1
  have rg := m.rng
  have es : cal (d+92) m_Law_strike [.inr (.inr (11))] (h) = some (.inl 0, pI h 11 2 0) := by
    show EX (d+91) m_Law_strike 0 [(0, .inr (.inr (11)))] [] (h) = _
    simp (disch := omega) only [Law_strike_0, Law_strike_5, wr_id, ix_id, okx, if_pos, if_neg, Int.toNat_of_nonneg, bak_v, bak_n, wr_b01, wr_bt, b01_or, b01_0, b01_1, lc_lt0, lc_gt0, lc_eq0, wl_wr, wr_wr, wl_id, true_and, and_true, true_or, or_true, not_true_eq_false, not_false_eq_true, nc0, nc1, nc2, nc3, nc4, nc5, nc6, nc7, nc8, nc9, nc10, nc11, nc12, nc13, nc14, nc15, nc16, nc17, nc18, nc19, nc20, nc21, nc22, nc23, nc35, nc47, nc59, nc60, nc61, nc73, nc74, nc214, nc215, nc1115, nc2230, nc3345, if_true, if_false, Int.reduceToNat, hc.k11]
  have q := c_law (w := w) (T := T) (n := n) 43 d 0 0 (by omega) (by omega) (by omega) (by omega) (by omega) a (pI h 11 2 0) [] mz (by simp; omega)
  obtain ⟨h', e', r', f'⟩ := q
  refine ⟨h', ?_, r', Fr.tr (Fr.pI Fr.rf (by unfold pLw; omega)) f'⟩
  have e'' : cal (d+92) m_Law_readPart [.inr (.inr (11)), .inr (.inr (9)), .inl (0), .inl (0)] (pI h 11 2 0) = some (.inl 0, h') := e'
  show EX (d+92) m_Law_readTruth 0 [(0, .inr (.inr (11))), (1, .inr (.inr (9)))] [] (h) = _
  simp (disch := omega) only [Law_readTruth_0, Law_readTruth_4, Law_readTruth_11, wr_id, ix_id, okx, if_pos, if_neg, Int.toNat_of_nonneg, bak_v, bak_n, wr_b01, wr_bt, b01_or, b01_0, b01_1, lc_lt0, lc_gt0, lc_eq0, wl_wr, wr_wr, wl_id, true_and, and_true, true_or, or_true, not_true_eq_false, not_false_eq_true, nc0, nc1, nc2, nc3, nc4, nc5, nc6, nc7, nc8, nc9, nc10, nc11, nc12, nc13, nc14, nc15, nc16, nc17, nc18, nc19, nc20, nc21, nc22, nc23, nc35, nc47, nc59, nc60, nc61, nc73, nc74, nc214, nc215, nc1115, nc2230, nc3345, if_true, if_false, Int.reduceToNat, hc.k11, hcz.k11, es, e'']
theorem c_truthF {d w : Nat} {h : Hp} {T : Int → Int} {n : Int} {e : Int × Int} (m : CF h w T n e) : ∃ h', cal (d+93) m_Law_readTruth [.inr (.inr (11)), .inr (.inr (9))] (h) = some (.inl 0, h') ∧ CF h' w T n e ∧ Fr pLw h h' := by
  have hc := m.1.1
  have mz := m.z
  have hcz := mz.1.1
  have es : cal (d+92) m_Law_strike [.inr (.inr (11))] (h) = some (.inl 0, pI h 11 2 0) := by
    show EX (d+91) m_Law_strike 0 [(0, .inr (.inr (11)))] [] (h) = _
    simp (disch := omega) only [Law_strike_0, Law_strike_5, wr_id, ix_id, okx, if_pos, if_neg, Int.toNat_of_nonneg, bak_v, bak_n, wr_b01, wr_bt, b01_or, b01_0, b01_1, lc_lt0, lc_gt0, lc_eq0, wl_wr, wr_wr, wl_id, true_and, and_true, true_or, or_true, not_true_eq_false, not_false_eq_true, nc0, nc1, nc2, nc3, nc4, nc5, nc6, nc7, nc8, nc9, nc10, nc11, nc12, nc13, nc14, nc15, nc16, nc17, nc18, nc19, nc20, nc21, nc22, nc23, nc35, nc47, nc59, nc60, nc61, nc73, nc74, nc214, nc215, nc1115, nc2230, nc3345, if_true, if_false, Int.reduceToNat, hc.k11]
  have e'' := c_partF (d := d + 90) mz (lv := 0) (dp := 0) (by omega)
  refine ⟨pI h 11 2 0, ?_, mz, Fr.pI Fr.rf (by unfold pLw; omega)⟩
  show EX (d+92) m_Law_readTruth 0 [(0, .inr (.inr (11))), (1, .inr (.inr (9)))] [] (h) = _
  simp (disch := omega) only [Law_readTruth_0, Law_readTruth_4, Law_readTruth_11, wr_id, ix_id, okx, if_pos, if_neg, Int.toNat_of_nonneg, bak_v, bak_n, wr_b01, wr_bt, b01_or, b01_0, b01_1, lc_lt0, lc_gt0, lc_eq0, wl_wr, wr_wr, wl_id, true_and, and_true, true_or, or_true, not_true_eq_false, not_false_eq_true, nc0, nc1, nc2, nc3, nc4, nc5, nc6, nc7, nc8, nc9, nc10, nc11, nc12, nc13, nc14, nc15, nc16, nc17, nc18, nc19, nc20, nc21, nc22, nc23, nc35, nc47, nc59, nc60, nc61, nc73, nc74, nc214, nc215, nc1115, nc2230, nc3345, if_true, if_false, Int.reduceToNat, hc.k11, hcz.k11, es, e'']
/-- rows of gaps, of cloth -/
theorem WN.rail {h h' : Hp} {u : Nat} {S R : Int → Int} {k : Int} (n : WN h u S) (g : Gd S) (hu : u = 14 ∨ u = 20) (f : Fr (fun a k => pLw a k ∨ a = u + 2) h h') (o : ∀ z, ¬ (23 ≤ z ∧ z < 34) → R z = S z) (hk : 0 ≤ k ∧ k ≤ 11) (ar : ∀ j : Nat, (j : Int) ≤ k → hI h' (u + 2) j = sm (fun j => R (23 + j)) 0 j) : WN (pI h' u 6 (1 + k)) u (up R 2 (1 + k)) := by
  have ga := g.a
  obtain ⟨⟨hw, wf, wa⟩, hv, z1, z2⟩ := n
  have np : ∀ a k, 14 ≤ a → ¬ a = u + 2 → ¬ (pLw a k ∨ a = u + 2) := fun a k a1 a2 q => by rcases q with q | q; have := q.lt; omega; exact a2 q
  have f2 : Fr (fun a k => (pLw a k ∨ a = u + 2) ∨ (a = u ∧ k = 6)) h (pI h' u 6 (1 + k)) := Fr.pI (f.mo (fun _ _ z => Or.inl z)) (Or.inr ⟨rfl, rfl⟩)
  have np2 : ∀ a k, 14 ≤ a → ¬ a = u + 2 → ¬ (a = u ∧ k = 6) → ¬ ((pLw a k ∨ a = u + 2) ∨ (a = u ∧ k = 6)) := fun a k a1 a2 a3 q => by rcases q with q | q; exact np a k a1 a2 q; exact a3 q
  have e : ∀ z, ¬ z = 2 → ¬ (23 ≤ z ∧ z < 34) → up R 2 (1 + k) z = S z := fun z z1 z2 => by rw [up_ne z1]; exact o z z2
  refine ⟨⟨hw.fr f2, ?_, ⟨fun j hj => ?_, fun j hj => ?_, fun j hj => ?_, fun j hj => ?_⟩⟩, hv.cg f2 (fun j => np2 _ _ (by omega) (by omega) (by omega)) (fun j => np2 _ _ (by omega) (by omega) (by omega)) (fun z z0 z1 => e z (by omega) (by omega)), by rw [f2.I (np2 _ _ (by omega) (by omega) (by omega))]; exact z1, ?_⟩
  · obtain ⟨w1, w2, w3, w4, w5, w6, w7, w8, w9, w10⟩ := wf
    refine ⟨?_, by rw [hI_pI, if_pos ⟨rfl, rfl⟩, up_same], ?_, ?_, ?_, ?_, ?_, ?_, ?_, ?_⟩ <;> (rw [f2.I (np2 _ _ (by omega) (by omega) (by omega)), e _ (by omega) (by omega)]; assumption)
  · rw [e 1 (by omega) (by omega)] at hj
    rw [f2.I (np2 _ _ (by omega) (by omega) (by omega)), wa.1 j hj]
    exact sm_congr 0 (fun i i0 i1 => (e _ (by omega) (by omega)).symm)
  · rw [up_same] at hj
    rw [hI_pI, if_neg (by omega), ar j (by omega)]
    exact sm_congr 0 (fun i i0 i1 => (up_ne (by omega)).symm)
  · rw [f2.I (np2 _ _ (by omega) (by omega) (by omega)), wa.2.2.1 j hj, e _ (by omega) (by omega)]
  · rw [f2.I (np2 _ _ (by omega) (by omega) (by omega)), wa.2.2.2 j hj, e _ (by omega) (by omega)]
  · rw [hI_pI, if_neg (by omega), ar 0 (by omega)]
    exact sm_stop (by omega)
theorem WN.cloth {h h' : Hp} {u : Nat} {S R : Int → Int} {k : Int} (n : WN h u S) (g : Gd S) (hu : u = 14 ∨ u = 20) (f : Fr (fun a k => pLw a k ∨ a = u + 1) h h') (o : ∀ z, ¬ (11 ≤ z ∧ z < 22) → R z = S z) (hk : 0 ≤ k ∧ k ≤ 11) (ar : ∀ j : Nat, (j : Int) ≤ k → hI h' (u + 1) j = sm (fun j => R (11 + j)) 0 j) : WN (pI h' u 5 (1 + k)) u (up R 1 (1 + k)) := by
  have gb := g.b
  obtain ⟨⟨hw, wf, wa⟩, hv, z1, z2⟩ := n
  have np : ∀ a k, 14 ≤ a → ¬ a = u + 1 → ¬ (pLw a k ∨ a = u + 1) := fun a k a1 a2 q => by rcases q with q | q; have := q.lt; omega; exact a2 q
  have f2 : Fr (fun a k => (pLw a k ∨ a = u + 1) ∨ (a = u ∧ k = 5)) h (pI h' u 5 (1 + k)) := Fr.pI (f.mo (fun _ _ z => Or.inl z)) (Or.inr ⟨rfl, rfl⟩)
  have np2 : ∀ a k, 14 ≤ a → ¬ a = u + 1 → ¬ (a = u ∧ k = 5) → ¬ ((pLw a k ∨ a = u + 1) ∨ (a = u ∧ k = 5)) := fun a k a1 a2 a3 q => by rcases q with q | q; exact np a k a1 a2 q; exact a3 q
  have e : ∀ z, ¬ z = 1 → ¬ (11 ≤ z ∧ z < 22) → up R 1 (1 + k) z = S z := fun z z1 z2 => by rw [up_ne z1]; exact o z z2
  refine ⟨⟨hw.fr f2, ?_, ⟨fun j hj => ?_, fun j hj => ?_, fun j hj => ?_, fun j hj => ?_⟩⟩, hv.cg f2 (fun j => np2 _ _ (by omega) (by omega) (by omega)) (fun j => np2 _ _ (by omega) (by omega) (by omega)) (fun z z0 z1 => e z (by omega) (by omega)), ?_, by rw [f2.I (np2 _ _ (by omega) (by omega) (by omega))]; exact z2⟩
  · obtain ⟨w1, w2, w3, w4, w5, w6, w7, w8, w9, w10⟩ := wf
    refine ⟨by rw [hI_pI, if_pos ⟨rfl, rfl⟩, up_same], ?_, ?_, ?_, ?_, ?_, ?_, ?_, ?_, ?_⟩ <;> (rw [f2.I (np2 _ _ (by omega) (by omega) (by omega)), e _ (by omega) (by omega)]; assumption)
  · rw [up_same] at hj
    rw [hI_pI, if_neg (by omega), ar j (by omega)]
    exact sm_congr 0 (fun i i0 i1 => (up_ne (by omega)).symm)
  · rw [e 2 (by omega) (by omega)] at hj
    rw [f2.I (np2 _ _ (by omega) (by omega) (by omega)), wa.2.1 j hj]
    exact sm_congr 0 (fun i i0 i1 => (e _ (by omega) (by omega)).symm)
  · rw [f2.I (np2 _ _ (by omega) (by omega) (by omega)), wa.2.2.1 j hj, e _ (by omega) (by omega)]
  · rw [f2.I (np2 _ _ (by omega) (by omega) (by omega)), wa.2.2.2 j hj, e _ (by omega) (by omega)]
  · rw [hI_pI, if_neg (by omega), ar 0 (by omega)]
    exact sm_stop (by omega)
def mayB (S : Int → Int) (k : Int) : Prop := (k = 0 ∧ S 2 = 0) ∨ (k = 1 ∧ S 1 = 0) ∨ ((k = 2 ∨ k = 4 ∨ k = 5 ∨ k = 10) ∧ 0 < S 1 ∧ 0 < S 2) ∨ (6 ≤ k ∧ k ≤ 9)
theorem kc_mid_k : ∀ a : Fin 37, kdB (a.1 : Int) = true → ((128 ≤ kc (a.1 : Int) ∧ kc (a.1 : Int) ≤ 137) ↔ (((a.1 : Int) ≤ 2) ∨ (4 ≤ (a.1 : Int) ∧ (a.1 : Int) ≤ 10))) := by decide +kernel
theorem kc_mid {k : Int} (hk : kdO k) : (128 ≤ kc k ∧ kc k ≤ 137) ↔ (k ≤ 2 ∨ (4 ≤ k ∧ k ≤ 10)) := by
  have hk' := hk
  unfold kdO at hk'
  obtain ⟨x, rfl⟩ := Int.eq_ofNat_of_zero_le (show 0 ≤ k by omega)
  exact kc_mid_k ⟨x, by omega⟩ (by unfold kdB; simp only [decide_eq_true_eq]; exact hk)
theorem c_may {d u : Nat} {h : Hp} {S : Int → Int} {k : Int} (wv : WV h u S) (g : Gd S) (hk : kdO k) : (mayB S k → cal (d+1) m_Reader_mayBegin [.inl (kc k), .inr (.inr (u))] (h) = some (.inl 1, h)) ∧ (¬ mayB S k → cal (d+1) m_Reader_mayBegin [.inl (kc k), .inr (.inr (u))] (h) = some (.inl 0, h)) := by
  have ga := g.a
  have gb := g.b
  have hw := wv.1
  have w5 := wv.f5
  have w6 := wv.f6
  have kr := kc_rng hk
  have km := kc_mid hk
  show (_ → EX (d) m_Reader_mayBegin 0 [(0, .inl (kc k)), (1, .inr (.inr (u)))] [] (h) = _) ∧ (_ → EX (d) m_Reader_mayBegin 0 [(0, .inl (kc k)), (1, .inr (.inr (u)))] [] (h) = _)
  by_cases cm : k ≤ 2 ∨ (4 ≤ k ∧ k ≤ 10)
  · have k0 : 0 ≤ k := by unfold kdO at hk; omega
    have cs : k = 0 ∨ k = 1 ∨ (k = 2 ∨ k = 4 ∨ k = 5 ∨ k = 10) ∨ (k = 6 ∨ k = 7 ∨ k = 8 ∨ k = 9) := by omega
    rcases cs with e | e | e | e
    · subst e
      rw [show kc 0 = 128 by decide]
      refine ⟨fun z => ?_, fun z => ?_⟩
      · have : S 2 = 0 := by unfold mayB at z; omega
        simp (disch := omega) only [Reader_mayBegin_0, Reader_mayBegin_56, Reader_mayBegin_63, Reader_mayBegin_68, wr_id, ix_id, okx, if_pos, if_neg, Int.toNat_of_nonneg, bak_v, bak_n, wr_b01, wr_bt, b01_or, b01_0, b01_1, lc_lt0, lc_gt0, lc_eq0, wl_wr, wr_wr, wl_id, true_and, and_true, true_or, or_true, not_true_eq_false, not_false_eq_true, nc0, nc1, nc2, nc3, nc4, nc5, nc6, nc7, nc8, nc9, nc10, nc11, nc12, nc13, nc14, nc15, nc16, nc17, nc18, nc19, nc20, nc21, nc22, nc23, nc35, nc47, nc59, nc60, nc61, nc73, nc74, nc214, nc215, nc1115, nc2230, nc3345, if_true, if_false, Int.reduceToNat, hw.k, w6]
      · have : ¬ S 2 = 0 := by unfold mayB at z; omega
        simp (disch := omega) only [Reader_mayBegin_0, Reader_mayBegin_56, Reader_mayBegin_67, Reader_mayBegin_68, wr_id, ix_id, okx, if_pos, if_neg, Int.toNat_of_nonneg, bak_v, bak_n, wr_b01, wr_bt, b01_or, b01_0, b01_1, lc_lt0, lc_gt0, lc_eq0, wl_wr, wr_wr, wl_id, true_and, and_true, true_or, or_true, not_true_eq_false, not_false_eq_true, nc0, nc1, nc2, nc3, nc4, nc5, nc6, nc7, nc8, nc9, nc10, nc11, nc12, nc13, nc14, nc15, nc16, nc17, nc18, nc19, nc20, nc21, nc22, nc23, nc35, nc47, nc59, nc60, nc61, nc73, nc74, nc214, nc215, nc1115, nc2230, nc3345, if_true, if_false, Int.reduceToNat, hw.k, w6]
    · subst e
      rw [show kc 1 = 129 by decide]
      refine ⟨fun z => ?_, fun z => ?_⟩
      · have : S 1 = 0 := by unfold mayB at z; omega
        simp (disch := omega) only [Reader_mayBegin_0, Reader_mayBegin_69, Reader_mayBegin_76, Reader_mayBegin_81, wr_id, ix_id, okx, if_pos, if_neg, Int.toNat_of_nonneg, bak_v, bak_n, wr_b01, wr_bt, b01_or, b01_0, b01_1, lc_lt0, lc_gt0, lc_eq0, wl_wr, wr_wr, wl_id, true_and, and_true, true_or, or_true, not_true_eq_false, not_false_eq_true, nc0, nc1, nc2, nc3, nc4, nc5, nc6, nc7, nc8, nc9, nc10, nc11, nc12, nc13, nc14, nc15, nc16, nc17, nc18, nc19, nc20, nc21, nc22, nc23, nc35, nc47, nc59, nc60, nc61, nc73, nc74, nc214, nc215, nc1115, nc2230, nc3345, if_true, if_false, Int.reduceToNat, hw.k, w5]
      · have : ¬ S 1 = 0 := by unfold mayB at z; omega
        simp (disch := omega) only [Reader_mayBegin_0, Reader_mayBegin_69, Reader_mayBegin_80, Reader_mayBegin_81, wr_id, ix_id, okx, if_pos, if_neg, Int.toNat_of_nonneg, bak_v, bak_n, wr_b01, wr_bt, b01_or, b01_0, b01_1, lc_lt0, lc_gt0, lc_eq0, wl_wr, wr_wr, wl_id, true_and, and_true, true_or, or_true, not_true_eq_false, not_false_eq_true, nc0, nc1, nc2, nc3, nc4, nc5, nc6, nc7, nc8, nc9, nc10, nc11, nc12, nc13, nc14, nc15, nc16, nc17, nc18, nc19, nc20, nc21, nc22, nc23, nc35, nc47, nc59, nc60, nc61, nc73, nc74, nc214, nc215, nc1115, nc2230, nc3345, if_true, if_false, Int.reduceToNat, hw.k, w5]
    · have ee : EX (d) m_Reader_mayBegin 0 [(0, .inl (kc k)), (1, .inr (.inr (u)))] [] (h) = EX (d) m_Reader_mayBegin 82 [(0, .inl (kc k)), (1, .inr (.inr (u)))] [] (h) := by
        rcases e with e | e | e | e <;> subst e
        · rw [show kc 2 = 130 by decide]; simp (disch := omega) only [Reader_mayBegin_0, wr_id, ix_id, okx, if_pos, if_neg, Int.toNat_of_nonneg, bak_v, bak_n, wr_b01, wr_bt, b01_or, b01_0, b01_1, lc_lt0, lc_gt0, lc_eq0, wl_wr, wr_wr, wl_id, true_and, and_true, true_or, or_true, not_true_eq_false, not_false_eq_true, nc0, nc1, nc2, nc3, nc4, nc5, nc6, nc7, nc8, nc9, nc10, nc11, nc12, nc13, nc14, nc15, nc16, nc17, nc18, nc19, nc20, nc21, nc22, nc23, nc35, nc47, nc59, nc60, nc61, nc73, nc74, nc214, nc215, nc1115, nc2230, nc3345, if_true, if_false, Int.reduceToNat]
        · rw [show kc 4 = 131 by decide]; simp (disch := omega) only [Reader_mayBegin_0, wr_id, ix_id, okx, if_pos, if_neg, Int.toNat_of_nonneg, bak_v, bak_n, wr_b01, wr_bt, b01_or, b01_0, b01_1, lc_lt0, lc_gt0, lc_eq0, wl_wr, wr_wr, wl_id, true_and, and_true, true_or, or_true, not_true_eq_false, not_false_eq_true, nc0, nc1, nc2, nc3, nc4, nc5, nc6, nc7, nc8, nc9, nc10, nc11, nc12, nc13, nc14, nc15, nc16, nc17, nc18, nc19, nc20, nc21, nc22, nc23, nc35, nc47, nc59, nc60, nc61, nc73, nc74, nc214, nc215, nc1115, nc2230, nc3345, if_true, if_false, Int.reduceToNat]
        · rw [show kc 5 = 132 by decide]; simp (disch := omega) only [Reader_mayBegin_0, wr_id, ix_id, okx, if_pos, if_neg, Int.toNat_of_nonneg, bak_v, bak_n, wr_b01, wr_bt, b01_or, b01_0, b01_1, lc_lt0, lc_gt0, lc_eq0, wl_wr, wr_wr, wl_id, true_and, and_true, true_or, or_true, not_true_eq_false, not_false_eq_true, nc0, nc1, nc2, nc3, nc4, nc5, nc6, nc7, nc8, nc9, nc10, nc11, nc12, nc13, nc14, nc15, nc16, nc17, nc18, nc19, nc20, nc21, nc22, nc23, nc35, nc47, nc59, nc60, nc61, nc73, nc74, nc214, nc215, nc1115, nc2230, nc3345, if_true, if_false, Int.reduceToNat]
        · rw [show kc 10 = 137 by decide]; simp (disch := omega) only [Reader_mayBegin_0, wr_id, ix_id, okx, if_pos, if_neg, Int.toNat_of_nonneg, bak_v, bak_n, wr_b01, wr_bt, b01_or, b01_0, b01_1, lc_lt0, lc_gt0, lc_eq0, wl_wr, wr_wr, wl_id, true_and, and_true, true_or, or_true, not_true_eq_false, not_false_eq_true, nc0, nc1, nc2, nc3, nc4, nc5, nc6, nc7, nc8, nc9, nc10, nc11, nc12, nc13, nc14, nc15, nc16, nc17, nc18, nc19, nc20, nc21, nc22, nc23, nc35, nc47, nc59, nc60, nc61, nc73, nc74, nc214, nc215, nc1115, nc2230, nc3345, if_true, if_false, Int.reduceToNat]
      rw [ee]
      refine ⟨fun z => ?_, fun z => ?_⟩
      · have : 0 < S 1 ∧ 0 < S 2 := by unfold mayB at z; omega
        simp (disch := omega) only [Reader_mayBegin_82, Reader_mayBegin_89, Reader_mayBegin_96, Reader_mayBegin_101, wr_id, ix_id, okx, if_pos, if_neg, Int.toNat_of_nonneg, bak_v, bak_n, wr_b01, wr_bt, b01_or, b01_0, b01_1, lc_lt0, lc_gt0, lc_eq0, wl_wr, wr_wr, wl_id, true_and, and_true, true_or, or_true, not_true_eq_false, not_false_eq_true, nc0, nc1, nc2, nc3, nc4, nc5, nc6, nc7, nc8, nc9, nc10, nc11, nc12, nc13, nc14, nc15, nc16, nc17, nc18, nc19, nc20, nc21, nc22, nc23, nc35, nc47, nc59, nc60, nc61, nc73, nc74, nc214, nc215, nc1115, nc2230, nc3345, if_true, if_false, Int.reduceToNat, hw.k, w5, w6]
      · by_cases c2 : 0 < S 2
        · have : ¬ 0 < S 1 := by unfold mayB at z; omega
          simp (disch := omega) only [Reader_mayBegin_82, Reader_mayBegin_89, Reader_mayBegin_100, Reader_mayBegin_101, wr_id, ix_id, okx, if_pos, if_neg, Int.toNat_of_nonneg, bak_v, bak_n, wr_b01, wr_bt, b01_or, b01_0, b01_1, lc_lt0, lc_gt0, lc_eq0, wl_wr, wr_wr, wl_id, true_and, and_true, true_or, or_true, not_true_eq_false, not_false_eq_true, nc0, nc1, nc2, nc3, nc4, nc5, nc6, nc7, nc8, nc9, nc10, nc11, nc12, nc13, nc14, nc15, nc16, nc17, nc18, nc19, nc20, nc21, nc22, nc23, nc35, nc47, nc59, nc60, nc61, nc73, nc74, nc214, nc215, nc1115, nc2230, nc3345, if_true, if_false, Int.reduceToNat, hw.k, w5, w6]
        · simp (disch := omega) only [Reader_mayBegin_82, Reader_mayBegin_100, Reader_mayBegin_101, wr_id, ix_id, okx, if_pos, if_neg, Int.toNat_of_nonneg, bak_v, bak_n, wr_b01, wr_bt, b01_or, b01_0, b01_1, lc_lt0, lc_gt0, lc_eq0, wl_wr, wr_wr, wl_id, true_and, and_true, true_or, or_true, not_true_eq_false, not_false_eq_true, nc0, nc1, nc2, nc3, nc4, nc5, nc6, nc7, nc8, nc9, nc10, nc11, nc12, nc13, nc14, nc15, nc16, nc17, nc18, nc19, nc20, nc21, nc22, nc23, nc35, nc47, nc59, nc60, nc61, nc73, nc74, nc214, nc215, nc1115, nc2230, nc3345, if_true, if_false, Int.reduceToNat, hw.k, w6]
    · refine ⟨fun _ => ?_, fun z => absurd (show mayB S k by unfold mayB; omega) z⟩
      rcases e with e | e | e | e <;> subst e
      · rw [show kc 6 = 133 by decide]; simp (disch := omega) only [Reader_mayBegin_0, Reader_mayBegin_102, Reader_mayBegin_109, Reader_mayBegin_116, Reader_mayBegin_121, wr_id, ix_id, okx, if_pos, if_neg, Int.toNat_of_nonneg, bak_v, bak_n, wr_b01, wr_bt, b01_or, b01_0, b01_1, lc_lt0, lc_gt0, lc_eq0, wl_wr, wr_wr, wl_id, true_and, and_true, true_or, or_true, not_true_eq_false, not_false_eq_true, nc0, nc1, nc2, nc3, nc4, nc5, nc6, nc7, nc8, nc9, nc10, nc11, nc12, nc13, nc14, nc15, nc16, nc17, nc18, nc19, nc20, nc21, nc22, nc23, nc35, nc47, nc59, nc60, nc61, nc73, nc74, nc214, nc215, nc1115, nc2230, nc3345, if_true, if_false, Int.reduceToNat]
      · rw [show kc 7 = 134 by decide]; simp (disch := omega) only [Reader_mayBegin_0, Reader_mayBegin_102, Reader_mayBegin_109, Reader_mayBegin_116, Reader_mayBegin_121, wr_id, ix_id, okx, if_pos, if_neg, Int.toNat_of_nonneg, bak_v, bak_n, wr_b01, wr_bt, b01_or, b01_0, b01_1, lc_lt0, lc_gt0, lc_eq0, wl_wr, wr_wr, wl_id, true_and, and_true, true_or, or_true, not_true_eq_false, not_false_eq_true, nc0, nc1, nc2, nc3, nc4, nc5, nc6, nc7, nc8, nc9, nc10, nc11, nc12, nc13, nc14, nc15, nc16, nc17, nc18, nc19, nc20, nc21, nc22, nc23, nc35, nc47, nc59, nc60, nc61, nc73, nc74, nc214, nc215, nc1115, nc2230, nc3345, if_true, if_false, Int.reduceToNat]
      · rw [show kc 8 = 135 by decide]; simp (disch := omega) only [Reader_mayBegin_0, Reader_mayBegin_102, Reader_mayBegin_109, Reader_mayBegin_116, Reader_mayBegin_121, wr_id, ix_id, okx, if_pos, if_neg, Int.toNat_of_nonneg, bak_v, bak_n, wr_b01, wr_bt, b01_or, b01_0, b01_1, lc_lt0, lc_gt0, lc_eq0, wl_wr, wr_wr, wl_id, true_and, and_true, true_or, or_true, not_true_eq_false, not_false_eq_true, nc0, nc1, nc2, nc3, nc4, nc5, nc6, nc7, nc8, nc9, nc10, nc11, nc12, nc13, nc14, nc15, nc16, nc17, nc18, nc19, nc20, nc21, nc22, nc23, nc35, nc47, nc59, nc60, nc61, nc73, nc74, nc214, nc215, nc1115, nc2230, nc3345, if_true, if_false, Int.reduceToNat]
      · rw [show kc 9 = 136 by decide]; simp (disch := omega) only [Reader_mayBegin_0, Reader_mayBegin_102, Reader_mayBegin_109, Reader_mayBegin_116, Reader_mayBegin_121, wr_id, ix_id, okx, if_pos, if_neg, Int.toNat_of_nonneg, bak_v, bak_n, wr_b01, wr_bt, b01_or, b01_0, b01_1, lc_lt0, lc_gt0, lc_eq0, wl_wr, wr_wr, wl_id, true_and, and_true, true_or, or_true, not_true_eq_false, not_false_eq_true, nc0, nc1, nc2, nc3, nc4, nc5, nc6, nc7, nc8, nc9, nc10, nc11, nc12, nc13, nc14, nc15, nc16, nc17, nc18, nc19, nc20, nc21, nc22, nc23, nc35, nc47, nc59, nc60, nc61, nc73, nc74, nc214, nc215, nc1115, nc2230, nc3345, if_true, if_false, Int.reduceToNat]
  · have nm : ¬ (128 ≤ kc k ∧ kc k ≤ 137) := fun z => cm (km.mp z)
    refine ⟨fun z => absurd (show k ≤ 2 ∨ (4 ≤ k ∧ k ≤ 10) by unfold mayB at z; omega) cm, fun _ => ?_⟩
    by_cases c1 : kc k < 133
    · simp (disch := omega) only [Reader_mayBegin_0, Reader_mayBegin_102, Reader_mayBegin_120, Reader_mayBegin_121, wr_id, ix_id, okx, if_pos, if_neg, Int.toNat_of_nonneg, bak_v, bak_n, wr_b01, wr_bt, b01_or, b01_0, b01_1, lc_lt0, lc_gt0, lc_eq0, wl_wr, wr_wr, wl_id, true_and, and_true, true_or, or_true, not_true_eq_false, not_false_eq_true, nc0, nc1, nc2, nc3, nc4, nc5, nc6, nc7, nc8, nc9, nc10, nc11, nc12, nc13, nc14, nc15, nc16, nc17, nc18, nc19, nc20, nc21, nc22, nc23, nc35, nc47, nc59, nc60, nc61, nc73, nc74, nc214, nc215, nc1115, nc2230, nc3345, if_true, if_false, Int.reduceToNat]
    · simp (disch := omega) only [Reader_mayBegin_0, Reader_mayBegin_102, Reader_mayBegin_109, Reader_mayBegin_120, Reader_mayBegin_121, wr_id, ix_id, okx, if_pos, if_neg, Int.toNat_of_nonneg, bak_v, bak_n, wr_b01, wr_bt, b01_or, b01_0, b01_1, lc_lt0, lc_gt0, lc_eq0, wl_wr, wr_wr, wl_id, true_and, and_true, true_or, or_true, not_true_eq_false, not_false_eq_true, nc0, nc1, nc2, nc3, nc4, nc5, nc6, nc7, nc8, nc9, nc10, nc11, nc12, nc13, nc14, nc15, nc16, nc17, nc18, nc19, nc20, nc21, nc22, nc23, nc35, nc47, nc59, nc60, nc61, nc73, nc74, nc214, nc215, nc1115, nc2230, nc3345, if_true, if_false, Int.reduceToNat]
