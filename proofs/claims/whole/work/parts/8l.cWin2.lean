/-! the class's calls: feed, window -/
def TP (h : Hp) (T : Int → Int) (m : Int) : Prop := hI h 6 1 = m ∧ ∀ k : Nat, k < 900 → hI h 7 k = sb (T k)
def pTp (a k : Nat) : Prop := a = 7 ∨ (a = 6 ∧ k = 1)
theorem c_tape_1 {d w : Nat} {h : Hp} {T : Int → Int} {m v s : Int} (hc : CR h w) (tp : TP h T m) (hm : 0 ≤ m ∧ m < 900) (hs : s = 0 ∨ s = 8 ∨ s = 16 ∨ s = 24) : ∃ h', EX (d) m_Hook_putOnTape 3 [(0, .inr (.inr (6))), (1, .inl (v)), (2, .inl (s))] [] (h) = EX (d) m_Hook_putOnTape 3 [(0, .inr (.inr (6))), (1, .inl (v)), (2, .inl (s - 8))] [] (h') ∧ TP h' (up T m (byt v s)) (m + 1) ∧ Fr pTp h h' := by
  have t1 := tp.1
  have f : Fr pTp h (pI (pI h 7 m.toNat (sb (byt v s))) 6 1 (m + 1)) := Fr.pI (Fr.pI Fr.rf (Or.inl rfl)) (Or.inr ⟨rfl, rfl⟩)
  refine ⟨pI (pI h 7 m.toNat (sb (byt v s))) 6 1 (m + 1), ?_, ⟨by rw [hI_pI, if_pos ⟨rfl, rfl⟩], fun k hk => ?_⟩, f⟩
  · have eb := c_byt (v := v) hs
    rw [Hook_putOnTape_3]
    simp (disch := omega) only [Hook_putOnTape_7, Hook_putOnTape_17, Hook_putOnTape_30, Hook_putOnTape_40, wr_id, ix_id, okx, if_pos, if_neg, Int.toNat_of_nonneg, bak_v, bak_n, wr_b01, wr_bt, b01_or, b01_0, b01_1, lc_lt0, lc_gt0, lc_eq0, wl_wr, wr_wr, wl_id, true_and, and_true, true_or, or_true, not_true_eq_false, not_false_eq_true, nc0, nc1, nc2, nc3, nc4, nc5, nc6, nc7, nc8, nc9, nc10, nc11, nc12, nc13, nc14, nc15, nc16, nc17, nc18, nc19, nc20, nc21, nc22, nc23, nc35, nc47, nc59, nc60, nc61, nc73, nc74, nc214, nc215, nc1115, nc2230, nc3345, if_true, if_false, Int.reduceToNat, hc.k6, hc.r0, hc.k7, hc.n7, t1, eb, sK_pI, hI_pI]
    rw [show s + -8 = s - 8 by omega]
  · rw [hI_pI, if_neg (by omega), hI_pI]
    unfold up
    by_cases c : k = m.toNat
    · rw [if_pos ⟨rfl, c⟩, if_pos (by omega)]
    · rw [if_neg (fun z => c z.2), if_neg (by omega)]; exact tp.2 k hk
theorem c_putOn {d w : Nat} {h : Hp} {T W : Int → Int} {n k v : Int} (hc : CR h w) (hk : 0 ≤ k) (k4 : k % 4 = 0) (hn : 0 ≤ n ∧ n + k + 4 ≤ 900) (w0 : W k = v) (w1 : W (k + 1) = v) (w2 : W (k + 1 + 1) = v) (w3 : W (k + 1 + 1 + 1) = v) (tp : TP h (fdT T W n k) (n + k)) : ∃ h', cal (d+1) m_Hook_putOnTape [.inr (.inr (6)), .inl (v)] (h) = some (.inl 0, h') ∧ TP h' (fdT T W n (k + 4)) (n + (k + 4)) ∧ Fr pTp h h' := by
  obtain ⟨h1, e1, t1, f1⟩ := c_tape_1 (d := d) (v := v) (s := 24) hc tp (by omega) (by omega)
  have hc1 := hc.fr f1
  have q0 := fdT_s T W (n := n) (k := k) hk
  rw [w0, show (24 : Int) - 8 * (k % 4) = 24 by omega] at q0
  rw [← q0, show n + k + 1 = n + (k + 1) by omega] at t1
  obtain ⟨h2, e2, t2, f2⟩ := c_tape_1 (d := d) (v := v) (s := 16) hc1 t1 (by omega) (by omega)
  have hc2 := hc1.fr f2
  have q1 := fdT_s T W (n := n) (k := k + 1) (by omega)
  rw [w1, show (24 : Int) - 8 * ((k + 1) % 4) = 16 by omega] at q1
  rw [← q1, show n + (k + 1) + 1 = n + (k + 1 + 1) by omega] at t2
  obtain ⟨h3, e3, t3, f3⟩ := c_tape_1 (d := d) (v := v) (s := 8) hc2 t2 (by omega) (by omega)
  have hc3 := hc2.fr f3
  have q2 := fdT_s T W (n := n) (k := k + 1 + 1) (by omega)
  rw [w2, show (24 : Int) - 8 * ((k + 1 + 1) % 4) = 8 by omega] at q2
  rw [← q2, show n + (k + 1 + 1) + 1 = n + (k + 1 + 1 + 1) by omega] at t3
  obtain ⟨h4, e4, t4, f4⟩ := c_tape_1 (d := d) (v := v) (s := 0) hc3 t3 (by omega) (by omega)
  have q3 := fdT_s T W (n := n) (k := k + 1 + 1 + 1) (by omega)
  rw [w3, show (24 : Int) - 8 * ((k + 1 + 1 + 1) % 4) = 0 by omega] at q3
  rw [← q3, show n + (k + 1 + 1 + 1) + 1 = n + (k + 4) by omega, show k + 1 + 1 + 1 + 1 = k + 4 by omega] at t4
  refine ⟨h4, ?_, t4, ((f1.tr f2).tr f3).tr f4⟩
  show EX (d) m_Hook_putOnTape 0 [(0, .inr (.inr (6))), (1, .inl (v))] [] (h) = _
  rw [Hook_putOnTape_0, e1, show (24 : Int) - 8 = 16 by omega, e2, show (16 : Int) - 8 = 8 by omega, e3, show (8 : Int) - 8 = 0 by omega, e4, Hook_putOnTape_3]
  simp (disch := omega) only [Hook_putOnTape_46, wr_id, ix_id, okx, if_pos, if_neg, Int.toNat_of_nonneg, bak_v, bak_n, wr_b01, wr_bt, b01_or, b01_0, b01_1, lc_lt0, lc_gt0, lc_eq0, wl_wr, wr_wr, wl_id, true_and, and_true, true_or, or_true, not_true_eq_false, not_false_eq_true, nc0, nc1, nc2, nc3, nc4, nc5, nc6, nc7, nc8, nc9, nc10, nc11, nc12, nc13, nc14, nc15, nc16, nc17, nc18, nc19, nc20, nc21, nc22, nc23, nc35, nc47, nc59, nc60, nc61, nc73, nc74, nc214, nc215, nc1115, nc2230, nc3345, if_true, if_false, Int.reduceToNat]
theorem CB.p6 {h h' : Hp} {w : Nat} {S G T T' rs rm nb : Int → Int} {n fk fp n' fk' fp' : Int} (c : CB h w S G T rs rm nb n fk fp) {p : Nat → Nat → Prop} (f : Fr p h h') (hp : ∀ a k, p a k → a = 7 ∨ (a = 6 ∧ (k = 1 ∨ k = 3 ∨ k = 4))) (ht : ∀ k : Nat, k < 900 → hI h' 7 k = sb (T' k)) (h1 : hI h' 6 1 = n') (h3 : hI h' 6 3 = fk') (h4 : hI h' 6 4 = fp') : CB h' w S G T' rs rm nb n' fk' fp' := by
  obtain ⟨⟨c1, c2, c3, c4, c5, c6⟩, ⟨b1, b2, b3, b4, b5⟩, ci⟩ := c
  have wd := c1.wd
  have np : ∀ a k, 8 ≤ a → ¬ p a k := fun a k a8 z => by have := hp a k z; omega
  refine ⟨⟨c1.fr f, c2.fr f (fun a k a0 a1 => np _ _ (by omega)), c3.fr f (fun k => np _ _ (by omega)), c4.fr f (fun k => np _ _ (by omega)) (fun k => np _ _ (by omega)), c5.fr f (fun k => np _ _ (by omega)) (fun k => np _ _ (by omega)), c6.fr f (fun a k z => by have := hp a k z; omega)⟩, ⟨b1.fr f (fun a k a0 a1 => np _ _ (by omega)), ht, ⟨h1, h3, h4⟩, by rw [f.I (np _ _ (by omega))]; exact b4, b5.fr f (fun a k z => by have := hp a k z; omega)⟩, fun i hi => ?_⟩
  obtain ⟨i1, i2⟩ := ci i hi
  refine ⟨by rw [f.I (np _ _ (by omega))]; exact i1, fun z => ?_⟩
  obtain ⟨j1, j2, j3⟩ := i2 z
  exact ⟨j1.fr f (fun a k a0 a1 => np _ _ (by omega)), j2.fr f (fun k => np _ _ (by omega)), j3.fr f (fun k => np _ _ (by omega)) (fun k => np _ _ (by omega))⟩
theorem cc_feed {d w : Nat} {h : Hp} {S G T rs rm nb : Int → Int} {n fk fp : Int} (cb : CB h w S G T rs rm nb n fk fp) (hn : 0 ≤ n ∧ n ≤ 900) (a b c e f : Int) : ∃ h', cal (d+2) m_Hook_feed [.inr (.inr (6)), .inl (a), .inl (b), .inl (c), .inl (e), .inl (f)] (h) = some (.inl (ansFeed n), h') ∧ CB h' w S G (if 880 < n then T else fdT T (wdA a b c e f) n 20) rs rm nb (if 880 < n then n else n + 20) fk fp ∧ Fr pTp h h' := by
  have hc := cb.1.1
  obtain ⟨b1, b2, b3, b4, b5⟩ := cb.2.1
  have h1 := b3.1
  show ∃ h', EX (d+1) m_Hook_feed 0 [(0, .inr (.inr (6))), (1, .inl (a)), (2, .inl (b)), (3, .inl (c)), (4, .inl (e)), (5, .inl (f))] [] (h) = _ ∧ _
  unfold ansFeed
  by_cases c8 : 880 < n
  · simp only [if_pos c8]
    refine ⟨h, ?_, cb, Fr.rf⟩
    simp (disch := omega) only [Hook_feed_0, Hook_feed_13, wr_id, ix_id, okx, if_pos, if_neg, Int.toNat_of_nonneg, bak_v, bak_n, wr_b01, wr_bt, b01_or, b01_0, b01_1, lc_lt0, lc_gt0, lc_eq0, wl_wr, wr_wr, wl_id, true_and, and_true, true_or, or_true, not_true_eq_false, not_false_eq_true, nc0, nc1, nc2, nc3, nc4, nc5, nc6, nc7, nc8, nc9, nc10, nc11, nc12, nc13, nc14, nc15, nc16, nc17, nc18, nc19, nc20, nc21, nc22, nc23, nc35, nc47, nc59, nc60, nc61, nc73, nc74, nc214, nc215, nc1115, nc2230, nc3345, if_true, if_false, Int.reduceToNat, hc.k6, h1]
  · simp only [if_neg c8]
    have t0 : TP h (fdT T (wdA a b c e f) n 0) (n + 0) := ⟨by omega, by rw [fdT_0]; exact b2⟩
    obtain ⟨h1', e1, t1, f1⟩ := c_putOn (d := d) (v := a) hc (by omega) (by omega) (by omega) rfl rfl rfl rfl t0
    have hc1 := hc.fr f1
    obtain ⟨h2, e2, t2, f2⟩ := c_putOn (d := d) (v := b) hc1 (by omega) (by omega) (by omega) rfl rfl rfl rfl t1
    have hc2 := hc1.fr f2
    obtain ⟨h3, e3, t3, f3⟩ := c_putOn (d := d) (v := c) hc2 (by omega) (by omega) (by omega) rfl rfl rfl rfl t2
    have hc3 := hc2.fr f3
    obtain ⟨h4, e4, t4, f4⟩ := c_putOn (d := d) (v := e) hc3 (by omega) (by omega) (by omega) rfl rfl rfl rfl t3
    have hc4 := hc3.fr f4
    obtain ⟨h5, e5, t5, f5⟩ := c_putOn (d := d) (v := f) hc4 (by omega) (by omega) (by omega) rfl rfl rfl rfl t4
    have hc5 := hc4.fr f5
    have F : Fr pTp h h5 := (((f1.tr f2).tr f3).tr f4).tr f5
    have t5' : TP h5 (fdT T (wdA a b c e f) n 20) (n + 20) := t5
    have g1 := t5'.1
    refine ⟨h5, ?_, cb.p6 F (fun a k z => by unfold pTp at z; omega) t5'.2 g1 (by rw [F.I (by unfold pTp; omega)]; exact b3.2.1) (by rw [F.I (by unfold pTp; omega)]; exact b3.2.2), F⟩
    simp (disch := omega) only [Hook_feed_0, Hook_feed_16, Hook_feed_21, Hook_feed_26, Hook_feed_31, Hook_feed_37, Hook_feed_43, wr_id, ix_id, okx, if_pos, if_neg, Int.toNat_of_nonneg, bak_v, bak_n, wr_b01, wr_bt, b01_or, b01_0, b01_1, lc_lt0, lc_gt0, lc_eq0, wl_wr, wr_wr, wl_id, true_and, and_true, true_or, or_true, not_true_eq_false, not_false_eq_true, nc0, nc1, nc2, nc3, nc4, nc5, nc6, nc7, nc8, nc9, nc10, nc11, nc12, nc13, nc14, nc15, nc16, nc17, nc18, nc19, nc20, nc21, nc22, nc23, nc35, nc47, nc59, nc60, nc61, nc73, nc74, nc214, nc215, nc1115, nc2230, nc3345, if_true, if_false, Int.reduceToNat, hc.k6, hc1.k6, hc2.k6, hc3.k6, hc4.k6, hc5.k6, h1, e1, e2, e3, e4, e5, g1]
/-! the window told -/
theorem CB.pR9 {h : Hp} {w v : Nat} {S G T rs rm nb : Int → Int} {n fk fp : Int} (c : CB h w S G T rs rm nb n fk fp) : CB (pR h 9 0 v) w S G T rs rm nb n fk fp := by
  obtain ⟨⟨c1, c2, c3, c4, c5, c6⟩, ⟨b1, b2, b3, b4, b5⟩, ci⟩ := c
  have wd := c1.wd
  refine ⟨⟨c1.pR9, c2.pR9 (by omega), c3, c4.pR9 (by omega), ⟨c5.1.pR9, c5.2⟩, c6⟩, ⟨b1, b2, b3, b4, b5⟩, fun i hi => ?_⟩
  obtain ⟨i1, i2⟩ := ci i hi
  refine ⟨i1, fun z => ?_⟩
  obtain ⟨j1, j2, j3⟩ := i2 z
  exact ⟨j1.pR9 (by omega), j2, j3.pR9 (by omega)⟩
/-- told and spare change places -/
def swp (h : Hp) (w : Nat) : Hp := pR (pR h 6 5 (34 - w)) 6 6 w
theorem hR_swp (h : Hp) (w a k : Nat) : hR (swp h w) a k = if a = 6 ∧ k = 6 then w else if a = 6 ∧ k = 5 then 34 - w else hR h a k := rfl
theorem WinAt.sw {h : Hp} {w a : Nat} (q : WinAt h a) (ha : ¬ a = 6) : WinAt (swp h w) a := by
  obtain ⟨q1, ⟨r0, r1, r2, r3, r4⟩, q3⟩ := q
  refine ⟨q1, ⟨?_, ?_, ?_, ?_, ?_⟩, q3⟩ <;> (rw [hR_swp, if_neg (by omega), if_neg (by omega)]; assumption)
theorem HangAt.sw {h : Hp} {w a : Nat} (q : HangAt h a) (ha : ¬ a = 6) : HangAt (swp h w) a := ⟨q.1, by rw [hR_swp, if_neg (by omega), if_neg (by omega)]; exact q.2.1, q.2.2⟩
theorem HisAt.sw {h : Hp} {w : Nat} (q : HisAt h) : HisAt (swp h w) := ⟨q.1, by rw [hR_swp, if_neg (by omega), if_neg (by omega)]; exact q.2.1, q.2.2⟩
theorem CR.sw {h : Hp} {w : Nat} (c : CR h w) : CR (swp h w) (34 - w) := by
  obtain ⟨c1, c2, c3, c4, c5, c6, ⟨a1, a2, a3, a4⟩, ⟨b1, b2, b3, b4⟩, c9⟩ := c
  refine ⟨by omega, by rw [hR_swp, if_neg (by omega), if_pos (by omega), hR_swp, if_pos (by omega)]; omega, ?_, c4, c5, fun t ht => ?_, ⟨a1.sw (by omega), a2.sw (by omega), a3.sw (by omega), a4.sw (by omega)⟩, ⟨b1.sw (by omega), b2.sw (by omega), b3.sw (by omega), b4.sw (by omega)⟩, c9.sw⟩
  · unfold CRr at *
    simp (disch := omega) only [hR_swp, if_neg]
    exact c3
  · obtain ⟨q1, q2, q3, q4⟩ := c6 t ht
    exact ⟨by rw [hR_swp, if_neg (by omega), if_neg (by omega)]; exact q1, q2, by rw [hR_swp, if_neg (by omega), if_neg (by omega)]; exact q3, q4⟩
theorem winS_av {S W : Int → Int} : Av W (winS S W) := fun k k0 k1 _ => by unfold winS; rw [if_pos ⟨k0, k1⟩]
theorem imR_win {S W : Int → Int} {j : Int} (hj : 0 ≤ j ∧ j ≤ 1) : imR (winS S W) j = imR S j := by
  funext k
  unfold imR winS
  by_cases c : 0 ≤ k ∧ k < 1115
  · rw [if_pos c, if_pos c, if_neg (by omega)]
  · rw [if_neg c, if_neg c]
/-- only cells of the class -/
def Fc (h h' : Hp) : Prop := h'.1 = h.1 ∧ ∀ a, a < 6 ∨ 72 ≤ a → ∀ k, hI h' a k = hI h a k ∧ hL h' a k = hL h a k ∧ hR h' a k = hR h a k
theorem Fc.rf {h : Hp} : Fc h h := ⟨rfl, fun _ _ _ => ⟨rfl, rfl, rfl⟩⟩
theorem Fc.tr {h h' h'' : Hp} (f : Fc h h') (g : Fc h' h'') : Fc h h'' := ⟨g.1.trans f.1, fun a ha k => ⟨(g.2 a ha k).1.trans (f.2 a ha k).1, (g.2 a ha k).2.1.trans (f.2 a ha k).2.1, (g.2 a ha k).2.2.trans (f.2 a ha k).2.2⟩⟩
theorem Fr.fc {p : Nat → Nat → Prop} {h h' : Hp} (f : Fr p h h') (hp : ∀ a k, p a k → 6 ≤ a ∧ a < 72) : Fc h h' := ⟨f.1, fun a ha k => ⟨f.I (fun z => by have := hp a k z; omega), f.L (fun z => by have := hp a k z; omega), f.R a k⟩⟩
theorem fc_pR {h : Hp} {a k v : Nat} (ha : 6 ≤ a ∧ a < 72) : Fc h (pR h a k v) := ⟨rfl, fun b hb j => ⟨rfl, rfl, by rw [hR_pR, if_neg (by omega)]⟩⟩
theorem cc_window {d w : Nat} {h : Hp} {S G T rs rm nb R : Int → Int} {n fk fp k : Int} (cb : CB h w S G T rs rm nb n fk fp) (to : tOk T) (hn : 0 ≤ n ∧ n ≤ 900) (rk : -2147483648 ≤ k ∧ k ≤ 2147483647) : ∃ h' w', cal (d+96) m_Hook_window [.inr (.inr (6)), .inl (k)] (h) = some (.inl (if 0 ≤ k ∧ k ≤ n then wnA (wdP T k 901 (sk T k 0) (plR R)) else -3), h') ∧ (if 0 ≤ k ∧ k ≤ n then CB h' w' (wnR S (wdP T k 901 (sk T k 0) (plR R))) G T rs rm nb 0 (wnK (wdP T k 901 (sk T k 0) (plR R))) (wnP (wdP T k 901 (sk T k 0) (plR R))) else CB h' w' S G T rs rm nb n fk fp) ∧ Fc h h' := by
  have hc := cb.1.1
  obtain ⟨b1, b2, b3, b4, b5⟩ := cb.2.1
  have h1 := b3.1
  have wd := hc.wd
  show ∃ h' w', EX (d+95) m_Hook_window 0 [(0, .inr (.inr (6))), (1, .inl (k))] [] (h) = _ ∧ _
  by_cases ck : 0 ≤ k ∧ k ≤ n
  · simp only [if_pos ck]
    have f0 : Fr (fun a k => a = 6 ∧ k = 1) h (pI h 6 1 0) := Fr.pI Fr.rf ⟨rfl, rfl⟩
    have hc0 := hc.fr f0
    have cb0 : CB (pI h 6 1 0) w S G T rs rm nb 0 fk fp := cb.p6 f0 (fun a k z => by omega) (fun k hk => by rw [f0.I (by omega)]; exact b2 k hk) (by rw [hI_pI, if_pos ⟨rfl, rfl⟩]) (by rw [f0.I (by omega)]; exact b3.2.1) (by rw [f0.I (by omega)]; exact b3.2.2)
    obtain ⟨h2, e2, r2, f2⟩ := c_readText (d := d) (u := 34 - w) (R := R) (n := k) hc0 rfl (b5.fr f0 (by omega)) to (fun k hk => by rw [f0.I (by omega)]; exact b2 k hk) (by omega)
    have cbP := cb0.pR9 (v := 7)
    have kjP := cbP.1.2.2.2.2.2
    have pq : ∀ a k, pRt (34 - w) a k → pQ w a k := fun a k z => by unfold pRt pRd pLw at z; unfold pQ; omega
    have cb2 : CB h2 w S G T rs rm nb 0 fk fp := cbP.fr f2 pq (kjP.fr f2 (fun a k z => by unfold pRt pRd pLw at z; omega))
    have hc2 := cb2.1.1
    have F2 : Fc h h2 := ((f0.fc (fun a k z => by omega)).tr (fc_pR (by omega))).tr (f2.fc (fun a k z => by unfold pRt pRd pLw at z; omega))
    have u9 : sK (pI h 6 1 0) (34 - w) = 9 := by
      rcases wd with e | e <;> subst e
      · exact hc0.w20.1
      · exact hc0.w14.1
    have a28 : sK (pI h 6 1 0) 28 = 0 := (hc0.2.2.2.2.2.2.2.1.2.1).1
    have st : EX (d+95) m_Hook_window 0 [(0, .inr (.inr (6))), (1, .inl (k))] [] (h) = EX (d+95) m_Hook_window 40 [(0, .inr (.inr (6)))] [] (h2) := by
      simp (disch := omega) only [Hook_window_0, Hook_window_4, Hook_window_15, Hook_window_20, wr_id, ix_id, okx, if_pos, if_neg, Int.toNat_of_nonneg, bak_v, bak_n, wr_b01, wr_bt, b01_or, b01_0, b01_1, lc_lt0, lc_gt0, lc_eq0, wl_wr, wr_wr, wl_id, true_and, and_true, true_or, or_true, not_true_eq_false, not_false_eq_true, nc0, nc1, nc2, nc3, nc4, nc5, nc6, nc7, nc8, nc9, nc10, nc11, nc12, nc13, nc14, nc15, nc16, nc17, nc18, nc19, nc20, nc21, nc22, nc23, nc35, nc47, nc59, nc60, nc61, nc73, nc74, nc214, nc215, nc1115, nc2230, nc3345, if_true, if_false, Int.reduceToNat, hc.k6, h1, hc0.k6, hc0.r0, hc0.r2, hc0.r6, hc0.r8, hc0.k7, hc0.k8, u9, a28, e2]
    rw [st]
    have ef : ∀ h, CR h w → ∀ x, hI h 9 6 = x → cal (d+95) m_Reader_foundFault [.inr (.inr (8))] (h) = some (.inl x, h) := fun h hc x hx => by
      show EX (d+94) m_Reader_foundFault 0 [(0, .inr (.inr (8)))] [] (h) = _
      simp (disch := omega) only [Reader_foundFault_0, wr_id, ix_id, okx, if_pos, if_neg, Int.toNat_of_nonneg, bak_v, bak_n, wr_b01, wr_bt, b01_or, b01_0, b01_1, lc_lt0, lc_gt0, lc_eq0, wl_wr, wr_wr, wl_id, true_and, and_true, true_or, or_true, not_true_eq_false, not_false_eq_true, nc0, nc1, nc2, nc3, nc4, nc5, nc6, nc7, nc8, nc9, nc10, nc11, nc12, nc13, nc14, nc15, nc16, nc17, nc18, nc19, nc20, nc21, nc22, nc23, nc35, nc47, nc59, nc60, nc61, nc73, nc74, nc214, nc215, nc1115, nc2230, nc3345, if_true, if_false, Int.reduceToNat, hc.k8, hc.r8_0, hc.k9, hx]
    have ep : ∀ h, CR h w → ∀ x, hI h 9 7 = x → cal (d+95) m_Reader_foundPlace [.inr (.inr (8))] (h) = some (.inl x, h) := fun h hc x hx => by
      show EX (d+94) m_Reader_foundPlace 0 [(0, .inr (.inr (8)))] [] (h) = _
      simp (disch := omega) only [Reader_foundPlace_0, wr_id, ix_id, okx, if_pos, if_neg, Int.toNat_of_nonneg, bak_v, bak_n, wr_b01, wr_bt, b01_or, b01_0, b01_1, lc_lt0, lc_gt0, lc_eq0, wl_wr, wr_wr, wl_id, true_and, and_true, true_or, or_true, not_true_eq_false, not_false_eq_true, nc0, nc1, nc2, nc3, nc4, nc5, nc6, nc7, nc8, nc9, nc10, nc11, nc12, nc13, nc14, nc15, nc16, nc17, nc18, nc19, nc20, nc21, nc22, nc23, nc35, nc47, nc59, nc60, nc61, nc73, nc74, nc214, nc215, nc1115, nc2230, nc3345, if_true, if_false, Int.reduceToNat, hc.k8, hc.r8_0, hc.k9, hx]
    have st2 : ∀ x y, hI h2 9 6 = x → hI h2 9 7 = y → EX (d+95) m_Hook_window 40 [(0, .inr (.inr (6)))] [] (h2) = EX (d+95) m_Hook_window 62 [(0, .inr (.inr (6)))] [] (pI (pI h2 6 3 x) 6 4 y) ∧ CB (pI (pI h2 6 3 x) 6 4 y) w S G T rs rm nb 0 x y ∧ Fr (fun a k => a = 6 ∧ (k = 3 ∨ k = 4)) h2 (pI (pI h2 6 3 x) 6 4 y) := fun x y hx hy => by
      have g1 : Fr (fun a k => a = 6 ∧ (k = 3 ∨ k = 4)) h2 (pI h2 6 3 x) := Fr.pI Fr.rf (by omega)
      have g2 : Fr (fun a k => a = 6 ∧ (k = 3 ∨ k = 4)) h2 (pI (pI h2 6 3 x) 6 4 y) := Fr.pI g1 (by omega)
      have hcA := hc2.fr g1
      have q1 := ef h2 hc2 x hx
      have q2 := ep (pI h2 6 3 x) hcA y (by rw [g1.I (by omega)]; exact hy)
      refine ⟨?_, cb2.p6 g2 (fun a k z => by omega) (fun k hk => by rw [g2.I (by omega)]; exact cb2.2.1.2.1 k hk) (by rw [g2.I (by omega)]; exact cb2.2.1.2.2.1.1) (by simp [hI_pI]) (by simp [hI_pI]), g2⟩
      simp (disch := omega) only [Hook_window_40, Hook_window_48, wr_id, ix_id, okx, if_pos, if_neg, Int.toNat_of_nonneg, bak_v, bak_n, wr_b01, wr_bt, b01_or, b01_0, b01_1, lc_lt0, lc_gt0, lc_eq0, wl_wr, wr_wr, wl_id, true_and, and_true, true_or, or_true, not_true_eq_false, not_false_eq_true, nc0, nc1, nc2, nc3, nc4, nc5, nc6, nc7, nc8, nc9, nc10, nc11, nc12, nc13, nc14, nc15, nc16, nc17, nc18, nc19, nc20, nc21, nc22, nc23, nc35, nc47, nc59, nc60, nc61, nc73, nc74, nc214, nc215, nc1115, nc2230, nc3345, if_true, if_false, Int.reduceToNat, hc2.k6, hc2.r2, hc2.k8, q1]
      simp (disch := omega) only [Hook_window_51, Hook_window_59, wr_id, ix_id, okx, if_pos, if_neg, Int.toNat_of_nonneg, bak_v, bak_n, wr_b01, wr_bt, b01_or, b01_0, b01_1, lc_lt0, lc_gt0, lc_eq0, wl_wr, wr_wr, wl_id, true_and, and_true, true_or, or_true, not_true_eq_false, not_false_eq_true, nc0, nc1, nc2, nc3, nc4, nc5, nc6, nc7, nc8, nc9, nc10, nc11, nc12, nc13, nc14, nc15, nc16, nc17, nc18, nc19, nc20, nc21, nc22, nc23, nc35, nc47, nc59, nc60, nc61, nc73, nc74, nc214, nc215, nc1115, nc2230, nc3345, if_true, if_false, Int.reduceToNat, hcA.k6, hcA.r2, hcA.k8, q2]
    cases hq : wdP T k 901 (sk T k 0) (plR R) with
    | inl e =>
      rw [hq] at r2
      have r2' : CF h2 w T k e := r2
      obtain ⟨x1, x2, x3⟩ := r2'.2.1
      obtain ⟨s1, s2, s3⟩ := st2 _ _ x1 x2
      have hc3 := s2.1.1
      refine ⟨_, w, ?_, s2, F2.tr (s3.fc (fun a k z => by omega))⟩
      have h63 := s2.2.1.2.2.1.2.1
      rw [s1]
      show _ = some (Sum.inl (-30 - e.1), _)
      simp (disch := omega) only [Hook_window_62, Hook_window_69, wr_id, ix_id, okx, if_pos, if_neg, Int.toNat_of_nonneg, bak_v, bak_n, wr_b01, wr_bt, b01_or, b01_0, b01_1, lc_lt0, lc_gt0, lc_eq0, wl_wr, wr_wr, wl_id, true_and, and_true, true_or, or_true, not_true_eq_false, not_false_eq_true, nc0, nc1, nc2, nc3, nc4, nc5, nc6, nc7, nc8, nc9, nc10, nc11, nc12, nc13, nc14, nc15, nc16, nc17, nc18, nc19, nc20, nc21, nc22, nc23, nc35, nc47, nc59, nc60, nc61, nc73, nc74, nc214, nc215, nc1115, nc2230, nc3345, if_true, if_false, Int.reduceToNat, hc3.k6, h63]
    | inr q =>
      rw [hq] at r2
      obtain ⟨x1, x2, wv, hv, rv, pg⟩ := r2
      obtain ⟨s1, s2, s3⟩ := st2 _ _ x1 x2
      obtain ⟨hc3, -, -, hvO, hs3, kj3⟩ := s2.1
      have wv3 := wv.fr s3 (fun c k c1 c2 => by omega)
      have rv3 := rv.fr s3 (fun k => by omega)
      have hv3 := hv.fr s3 (by omega) (by omega)
      generalize hh3 : pI (pI h2 6 3 0) 6 4 (-1) = h3 at *
      have hc4 := hc3.sw
      have wv4 : WV (swp h3 w) (34 - w) q.2 := ⟨wv3.1.sw (by omega), wv3.2⟩
      have rv4 : RV (swp h3 w) (34 - w) q.2 := rv3
      have hv4 : HV (swp h3 w) 28 q.2 := ⟨hv3.1.sw (by omega), hv3.2⟩
      have hs4 : HisV (swp h3 w) S := ⟨hs3.1.sw, hs3.2⟩
      obtain ⟨h5, e5, hv5, f5⟩ := c_takeFrom (d := d + 94) (a := 26) (b := 28) (hvO.1.sw (w := w) (by omega)) hv4 (by omega)
      have hc5 := hc4.fr f5
      have e6 := c_hForget (d := d + 94) hc5
      have f6 : Fr (fun a k => a = 30) h5 (pI h5 30 2 0) := Fr.pI Fr.rf rfl
      have hc6 := hc5.fr f6
      have e7 := c_jForget (d := d + 94) hc6
      have f7 : Fr (fun a k => a = 60 ∧ (k = 3 ∨ k = 7)) (pI h5 30 2 0) (pI (pI (pI h5 30 2 0) 60 3 0) 60 7 0) := Fr.pI (Fr.pI Fr.rf (by omega)) (by omega)
      have hc7 := hc6.fr f7
      have F7 : Fr (fun a k => a = 26 ∨ a = 27 ∨ a = 30 ∨ (a = 60 ∧ (k = 3 ∨ k = 7))) (swp h3 w) (pI (pI (pI h5 30 2 0) 60 3 0) 60 7 0) := ((f5.mo (fun a k z => by omega)).tr (f6.mo (fun a k z => by omega))).tr (f7.mo (fun a k z => by omega))
      have av := winS_av (S := S) (W := q.2)
      have wv7 := (wv4.fr F7 (fun c k c1 c2 => by omega)).aw av pg.1.1
      obtain ⟨d1, d2, d3, d4, d5⟩ := s2.2.1
      refine ⟨pI (pI (pI h5 30 2 0) 60 3 0) 60 7 0, 34 - w, ?_, ?_, ?_⟩
      · rw [s1]
        show _ = some (Sum.inl (q.2 0), _)
        have h63 := d3.2.1
        have q5 : hR (swp h3 w) 6 7 = 26 := hc4.r7
        have q6 : hR (swp h3 w) 6 8 = 28 := hc4.r8
        have w14 := wv7.f14
        have wk7 := wv7.1.k
        have k26 := (hvO.1.sw (w := w) (by omega)).k
        have k28 := hv4.1.k
        have k30 := hc5.2.2.2.2.2.2.2.2.1
        have e14 : winS S q.2 0 = q.2 0 := by unfold winS; rw [if_pos (by omega)]
        rw [e14] at w14
        have sw1 : EX (d+95) m_Hook_window 62 [(0, .inr (.inr (6)))] [] (h3) = EX (d+95) m_Hook_window 95 [(0, .inr (.inr (6)))] [] (swp h3 w) := by
          simp (disch := omega) only [Hook_window_62, Hook_window_77, Hook_window_90, wr_id, ix_id, okx, if_pos, if_neg, Int.toNat_of_nonneg, bak_v, bak_n, wr_b01, wr_bt, b01_or, b01_0, b01_1, lc_lt0, lc_gt0, lc_eq0, wl_wr, wr_wr, wl_id, true_and, and_true, true_or, or_true, not_true_eq_false, not_false_eq_true, nc0, nc1, nc2, nc3, nc4, nc5, nc6, nc7, nc8, nc9, nc10, nc11, nc12, nc13, nc14, nc15, nc16, nc17, nc18, nc19, nc20, nc21, nc22, nc23, nc35, nc47, nc59, nc60, nc61, nc73, nc74, nc214, nc215, nc1115, nc2230, nc3345, if_true, if_false, Int.reduceToNat, hc3.k6, h63, hc3.r5, hc3.r6, sK_pR]
          rfl
        rw [sw1]
        simp (disch := omega) only [Hook_window_95, wr_id, ix_id, okx, if_pos, if_neg, Int.toNat_of_nonneg, bak_v, bak_n, wr_b01, wr_bt, b01_or, b01_0, b01_1, lc_lt0, lc_gt0, lc_eq0, wl_wr, wr_wr, wl_id, true_and, and_true, true_or, or_true, not_true_eq_false, not_false_eq_true, nc0, nc1, nc2, nc3, nc4, nc5, nc6, nc7, nc8, nc9, nc10, nc11, nc12, nc13, nc14, nc15, nc16, nc17, nc18, nc19, nc20, nc21, nc22, nc23, nc35, nc47, nc59, nc60, nc61, nc73, nc74, nc214, nc215, nc1115, nc2230, nc3345, if_true, if_false, Int.reduceToNat, hc4.k6, q5, q6, k26, k28, e5]
        simp (disch := omega) only [Hook_window_106, wr_id, ix_id, okx, if_pos, if_neg, Int.toNat_of_nonneg, bak_v, bak_n, wr_b01, wr_bt, b01_or, b01_0, b01_1, lc_lt0, lc_gt0, lc_eq0, wl_wr, wr_wr, wl_id, true_and, and_true, true_or, or_true, not_true_eq_false, not_false_eq_true, nc0, nc1, nc2, nc3, nc4, nc5, nc6, nc7, nc8, nc9, nc10, nc11, nc12, nc13, nc14, nc15, nc16, nc17, nc18, nc19, nc20, nc21, nc22, nc23, nc35, nc47, nc59, nc60, nc61, nc73, nc74, nc214, nc215, nc1115, nc2230, nc3345, if_true, if_false, Int.reduceToNat, hc5.k6, hc5.r9, k30, e6]
        simp (disch := omega) only [Hook_window_113, wr_id, ix_id, okx, if_pos, if_neg, Int.toNat_of_nonneg, bak_v, bak_n, wr_b01, wr_bt, b01_or, b01_0, b01_1, lc_lt0, lc_gt0, lc_eq0, wl_wr, wr_wr, wl_id, true_and, and_true, true_or, or_true, not_true_eq_false, not_false_eq_true, nc0, nc1, nc2, nc3, nc4, nc5, nc6, nc7, nc8, nc9, nc10, nc11, nc12, nc13, nc14, nc15, nc16, nc17, nc18, nc19, nc20, nc21, nc22, nc23, nc35, nc47, nc59, nc60, nc61, nc73, nc74, nc214, nc215, nc1115, nc2230, nc3345, if_true, if_false, Int.reduceToNat, hc6.k6, hc6.r14, hc6.k60, e7]
        simp (disch := omega) only [Hook_window_120, wr_id, ix_id, okx, if_pos, if_neg, Int.toNat_of_nonneg, bak_v, bak_n, wr_b01, wr_bt, b01_or, b01_0, b01_1, lc_lt0, lc_gt0, lc_eq0, wl_wr, wr_wr, wl_id, true_and, and_true, true_or, or_true, not_true_eq_false, not_false_eq_true, nc0, nc1, nc2, nc3, nc4, nc5, nc6, nc7, nc8, nc9, nc10, nc11, nc12, nc13, nc14, nc15, nc16, nc17, nc18, nc19, nc20, nc21, nc22, nc23, nc35, nc47, nc59, nc60, nc61, nc73, nc74, nc214, nc215, nc1115, nc2230, nc3345, if_true, if_false, Int.reduceToNat, hc7.k6, hc7.r5, wk7, w14]
      · show CB _ (34 - w) (winS S q.2) G T rs rm nb 0 0 (-1)
        have z73 : winS S q.2 73 = 0 := by unfold winS; rw [if_pos (by omega)]; exact pg.2.2.2.1.2.2
        refine ⟨⟨hc7, wv7, (rv4.fr F7 (fun k => by omega)).aw av pg.1.1 pg.2.1, ((hv5.fr f6 (by omega) (by omega)).fr f7 (by omega) (by omega)).aw av, ?_, ⟨Or.inl (by simp [hI_pI]), Or.inl (by simp [hI_pI])⟩⟩, ⟨TV.fr (h := swp h3 w) d1 F7 (by omega), fun k hk => by rw [F7.I (by omega)]; exact d2 k hk, by rw [F7.I (show ¬ (6 = 26 ∨ 6 = 27 ∨ 6 = 30 ∨ (6 = 60 ∧ (1 = 3 ∨ 1 = 7))) by omega), F7.I (show ¬ (6 = 26 ∨ 6 = 27 ∨ 6 = 30 ∨ (6 = 60 ∧ (3 = 3 ∨ 3 = 7))) by omega), F7.I (show ¬ (6 = 26 ∨ 6 = 27 ∨ 6 = 30 ∨ (6 = 60 ∧ (4 = 3 ∨ 4 = 7))) by omega)]; exact d3, by rw [F7.I (by omega)]; exact d4, STR.fr (h := swp h3 w) d5 F7 (by omega)⟩, fun j hj => ?_⟩
        · exact ((hs4.fr f5 (by omega) (by omega)).z z73).fr f7 (by omega) (by omega)
        · obtain ⟨j1, j2⟩ := s2.2.2 j hj
          rw [imR_win (by omega)]
          refine ⟨by rw [F7.I (by omega)]; exact j1, fun z => ?_⟩
          obtain ⟨k1, k2, k3⟩ := j2 z
          exact ⟨WV.fr (h := swp h3 w) ⟨k1.1.sw (by omega), k1.2⟩ F7 (fun c k c1 c2 => by omega), RV.fr (h := swp h3 w) k2 F7 (fun k => by omega), HV.fr (h := swp h3 w) ⟨k3.1.sw (by omega), k3.2⟩ F7 (by omega) (by omega)⟩
      · have s0 : Fc h3 (swp h3 w) := (fc_pR (by omega)).tr (fc_pR (by omega))
        have s3' : Fc h2 h3 := s3.fc (fun a k z => by omega)
        exact ((F2.tr s3').tr s0).tr (F7.fc (fun a k z => by omega))
  · simp only [if_neg ck]
    refine ⟨h, w, ?_, cb, Fc.rf⟩
    by_cases c1 : k < 0
    · simp (disch := omega) only [Hook_window_0, Hook_window_12, wr_id, ix_id, okx, if_pos, if_neg, Int.toNat_of_nonneg, bak_v, bak_n, wr_b01, wr_bt, b01_or, b01_0, b01_1, lc_lt0, lc_gt0, lc_eq0, wl_wr, wr_wr, wl_id, true_and, and_true, true_or, or_true, not_true_eq_false, not_false_eq_true, nc0, nc1, nc2, nc3, nc4, nc5, nc6, nc7, nc8, nc9, nc10, nc11, nc12, nc13, nc14, nc15, nc16, nc17, nc18, nc19, nc20, nc21, nc22, nc23, nc35, nc47, nc59, nc60, nc61, nc73, nc74, nc214, nc215, nc1115, nc2230, nc3345, if_true, if_false, Int.reduceToNat]
    · simp (disch := omega) only [Hook_window_0, Hook_window_4, Hook_window_12, wr_id, ix_id, okx, if_pos, if_neg, Int.toNat_of_nonneg, bak_v, bak_n, wr_b01, wr_bt, b01_or, b01_0, b01_1, lc_lt0, lc_gt0, lc_eq0, wl_wr, wr_wr, wl_id, true_and, and_true, true_or, or_true, not_true_eq_false, not_false_eq_true, nc0, nc1, nc2, nc3, nc4, nc5, nc6, nc7, nc8, nc9, nc10, nc11, nc12, nc13, nc14, nc15, nc16, nc17, nc18, nc19, nc20, nc21, nc22, nc23, nc35, nc47, nc59, nc60, nc61, nc73, nc74, nc214, nc215, nc1115, nc2230, nc3345, if_true, if_false, Int.reduceToNat, hc.k6, h1]
