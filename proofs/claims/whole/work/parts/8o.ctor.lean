/-! the constructors: what lies where -/
def wnSh : List (Nat × Nat) := [(9, 15), (20, 12), (20, 12), (20, 12), (20, 12), (20, 12)]
def SH (L : Nat) : List (Nat × Nat) := [(99, 0), (30, L), (40, 88), (40, 12), (40, 89), (99, 0), (10, 19), (22, 900), (5, 2), (6, 8), (22, 0), (3, 4), (20, 900), (20, 64), (9, 15), (20, 12), (20, 12), (20, 12), (20, 12), (20, 12), (9, 15), (20, 12), (20, 12), (20, 12), (20, 12), (20, 12), (0, 3), (20, 12), (0, 3), (20, 12), (1, 3), (20, 140), (24, 4), (7, 3), (21, 40), (7, 3), (21, 40), (7, 3), (21, 40), (7, 3), (21, 40), (25, 2), (26, 2), (23, 2), (9, 15), (20, 12), (20, 12), (20, 12), (20, 12), (20, 12), (0, 3), (20, 12), (9, 15), (20, 12), (20, 12), (20, 12), (20, 12), (20, 12), (0, 3), (20, 12), (2, 8), (20, 1728), (20, 13), (20, 12), (4, 5), (20, 12), (20, 144), (20, 13), (8, 3), (20, 144), (20, 3456), (20, 8), (11, 36), (20, 3345), (23, 2), (20, 900), (20, 1115), (20, 900), (20, 14), (21, 2197), (20, 12), (20, 169), (20, 2197), (20, 2197), (20, 441), (20, 8), (20, 8), (20, 4), (20, 4), (21, 160)]
def IT (a k : Nat) : Int := if a = 6 then (if k = 4 then -1 else 0) else if a = 9 then (if k = 7 then -1 else 0) else if a = 14 ∨ a = 20 ∨ a = 44 ∨ a = 52 then (if k = 8 then 1 else if k = 9 then 5 else if k = 10 then 2 else if k = 13 then 10 else 0) else if a = 27 ∨ a = 29 ∨ a = 51 ∨ a = 59 then (if k < 12 then -1 else 0) else if a = 33 ∨ a = 35 ∨ a = 37 ∨ a = 39 then (if k = 2 then -1 else 0) else if a = 72 then (if k = 14 then -1 else 0) else if a = 73 then plS k else if a = 87 then (if k < 4 then -1 else 0) else 0
def RT (a k : Nat) : Nat := if a = 6 then (if k = 18 then 71 else if k = 17 then 70 else if k = 16 then 68 else if k = 15 then 64 else if k = 14 then 60 else if k = 13 then 43 else if k = 12 then 42 else if k = 11 then 41 else if k = 10 then 32 else if k = 9 then 30 else if k = 8 then 28 else if k = 7 then 26 else if k = 6 then 20 else if k = 5 then 14 else if k = 2 then 8 else if k = 0 then 7 else 0) else if a = 8 then (if k = 0 then 9 else if k = 1 then 11 else 0) else if a = 9 then (if k = 0 then 10 else 0) else if a = 11 then (if k = 0 then 12 else if k = 1 then 13 else 0) else if a = 14 ∨ a = 20 ∨ a = 44 ∨ a = 52 then (if k < 5 then a + 1 + k else 0) else if a = 26 ∨ a = 28 ∨ a = 50 ∨ a = 58 ∨ a = 30 ∨ a = 33 ∨ a = 35 ∨ a = 37 ∨ a = 39 ∨ a = 68 then (if k = 0 then a + 1 else 0) else if a = 32 then (if k < 4 then 33 + 2 * k else 0) else if a = 41 then (if k = 0 then 44 else if k = 1 then 52 else 0) else if a = 42 then (if k = 0 then 50 else if k = 1 then 58 else 0) else if a = 60 then (if k = 0 then 61 else if k = 1 then 62 else if k = 4 then 63 else 0) else if a = 64 then (if k = 0 then 65 else if k = 3 then 66 else if k = 4 then 67 else 0) else if a = 72 then (if k = 35 then 89 else if k = 34 then 88 else if k = 33 then 87 else if k = 31 then 86 else if k = 30 then 85 else if k = 29 then 84 else if k = 26 then 83 else if k = 25 then 82 else if k = 24 then 81 else if k = 23 then 80 else if k = 19 then 79 else if k = 16 then 78 else if k = 15 then 77 else if k = 4 then 76 else if k = 3 then 75 else if k = 2 then 74 else if k = 1 then 73 else 0) else 0
def Bd (L : Nat) (h : Hp) (n z : Nat) : Prop := h.1 = (SH L).take n ∧ ∀ a, z ≤ a → ∀ k, hI h a k = 0 ∧ hL h a k = 0 ∧ hR h a k = 0
/-- slots that are spoken of -/
def okI (a k : Nat) : Prop := ((a = 14 ∨ a = 20 ∨ a = 44 ∨ a = 52) → 5 ≤ k ∧ k ≤ 14) ∧ (((15 ≤ a ∧ a ≤ 19) ∨ (21 ≤ a ∧ a ≤ 25) ∨ (45 ≤ a ∧ a ≤ 49) ∨ (53 ≤ a ∧ a ≤ 57)) → k < 12) ∧ ((a = 26 ∨ a = 28 ∨ a = 50 ∨ a = 58) → k = 1 ∨ k = 2) ∧ ((a = 27 ∨ a = 29 ∨ a = 51 ∨ a = 59) → k < 12)
def okY (a : Nat) : Prop := ¬ (14 ≤ a ∧ a ≤ 29) ∧ ¬ (44 ≤ a ∧ a ≤ 59) ∧ ¬ a = 73
def Dn (h : Hp) (lo hi : Nat) : Prop := ∀ a, lo ≤ a → a < hi → ∀ k, (okI a k → hI h a k = IT a k) ∧ (okY a → hL h a k = 0) ∧ hR h a k = RT a k
def Uc (c : Nat) (h h' : Hp) : Prop := ∀ a, a < c → ∀ k, hI h' a k = hI h a k ∧ hL h' a k = hL h a k ∧ hR h' a k = hR h a k
theorem Uc.rf {c : Nat} {h : Hp} : Uc c h h := fun _ _ _ => ⟨rfl, rfl, rfl⟩
theorem Uc.tr {c : Nat} {h h' h'' : Hp} (f : Uc c h h') (g : Uc c h' h'') : Uc c h h'' := fun a ha k => ⟨(g a ha k).1.trans (f a ha k).1, (g a ha k).2.1.trans (f a ha k).2.1, (g a ha k).2.2.trans (f a ha k).2.2⟩
theorem Uc.mo {c d : Nat} {h h' : Hp} (f : Uc c h h') (hd : d ≤ c) : Uc d h h' := fun a ha k => f a (by omega) k
theorem Dn.uc {h h' : Hp} {lo hi c : Nat} (d : Dn h lo hi) (f : Uc c h h') (hc : hi ≤ c) : Dn h' lo hi := fun a a0 a1 k => by
  obtain ⟨f1, f2, f3⟩ := f a (by omega) k
  rw [f1, f2, f3]
  exact d a a0 a1 k
theorem Dn.ap {h : Hp} {a b c : Nat} (d : Dn h a b) (e : Dn h b c) : Dn h a c := fun x x0 x1 k => by
  by_cases z : x < b
  · exact d x x0 z k
  · exact e x (by omega) x1 k
theorem Bd.k {L : Nat} {h : Hp} {n z : Nat} (b : Bd L h n z) (a : Nat) : sK h a = (((SH L).take n).getD a (99, 0)).1 := by unfold sK; rw [b.1]
theorem Bd.n {L : Nat} {h : Hp} {n z : Nat} (b : Bd L h n z) (a : Nat) : sN h a = (((SH L).take n).getD a (99, 0)).2 := by unfold sN; rw [b.1]
theorem Bd.l {L : Nat} {h : Hp} {n z : Nat} (b : Bd L h n z) (hn : n ≤ 90) : (Prod.fst h).length = n := by
  rw [b.1, List.length_take]
  show min n 90 = n
  omega
theorem Bd.up {L : Nat} {h : Hp} {n z z' : Nat} (b : Bd L h n z) (hz : z ≤ z') : Bd L h n z' := ⟨b.1, fun a ha k => b.2 a (by omega) k⟩
theorem hI_nwH (h : Hp) (kd m a k : Nat) : hI (nwH h kd m) a k = if a = (Prod.fst h).length then 0 else hI h a k := rfl
theorem hL_nwH (h : Hp) (kd m a k : Nat) : hL (nwH h kd m) a k = if a = (Prod.fst h).length then 0 else hL h a k := rfl
theorem hR_nwH (h : Hp) (kd m a k : Nat) : hR (nwH h kd m) a k = if a = (Prod.fst h).length then 0 else hR h a k := rfl
/-- a new cell -/
theorem Bd.nw {L : Nat} {h : Hp} {n z kd m : Nat} (b : Bd L h n z) (hn : n < 90) (hz : z ≤ n) (hs : (SH L).take n ++ [(kd, m)] = (SH L).take (n + 1)) : Bd L (nwH h kd m) (n + 1) z ∧ ∀ a k, hI (nwH h kd m) a k = hI h a k ∧ hL (nwH h kd m) a k = hL h a k ∧ hR (nwH h kd m) a k = hR h a k := by
  have l := b.l (by omega)
  have e : ∀ a k, hI (nwH h kd m) a k = hI h a k ∧ hL (nwH h kd m) a k = hL h a k ∧ hR (nwH h kd m) a k = hR h a k := fun a k => by
    rw [hI_nwH, hL_nwH, hR_nwH, l]
    by_cases c : a = n
    · obtain ⟨q1, q2, q3⟩ := b.2 a (by omega) k
      rw [if_pos c, if_pos c, if_pos c, q1, q2, q3]
      exact ⟨rfl, rfl, rfl⟩
    · rw [if_neg c, if_neg c, if_neg c]
      exact ⟨rfl, rfl, rfl⟩
  refine ⟨⟨?_, fun a ha k => ?_⟩, e⟩
  · show h.1 ++ [(kd, m)] = _
    rw [b.1, hs]
  · obtain ⟨q1, q2, q3⟩ := e a k
    rw [q1, q2, q3]
    exact b.2 a ha k
theorem Bd.pI {L : Nat} {h : Hp} {n z a k : Nat} {v : Int} (b : Bd L h n z) (ha : a < z) : Bd L (pI h a k v) n z := ⟨b.1, fun c hc j => by rw [hI_pI, if_neg (by omega)]; exact b.2 c hc j⟩
theorem Bd.pR {L : Nat} {h : Hp} {n z a k v : Nat} (b : Bd L h n z) (ha : a < z) : Bd L (pR h a k v) n z := ⟨b.1, fun c hc j => by rw [hR_pR, if_neg (by omega)]; exact b.2 c hc j⟩
/-- what a constructor of cell c promises -/
def Ct (L : Nat) (D md c n : Nat) : Prop := ∀ h, Bd L h (c + 1) c → ∃ h', cal D md [.inr (.inr c)] h = some (.inl 0, h') ∧ Bd L h' n n ∧ Dn h' c n ∧ Uc c h h'
theorem i_tok {L d : Nat} : Ct L (d + 1) m_Tokens_init 9 11 := by
  intro h b
  have z := fun k => b.2 9 (by omega) k
  have l := b.l (by omega)
  obtain ⟨b1, e1⟩ := (b.up (show 9 ≤ 10 by omega)).nw (kd := 22) (m := 0) (by omega) (by omega) rfl
  have k1 : sK (nwH h 22 0) 9 = 6 := (b1.k 9).trans rfl
  refine ⟨pI (pI (pI (pI (pI (pI (pI (pR (nwH h 22 0) 9 0 10) 9 1 0) 9 2 0) 9 3 0) 9 4 0) 9 5 0) 9 6 0) 9 7 (-1), ?_, (((((((((b1.up (show 10 ≤ 11 by omega)).pR (by omega)).pI (by omega)).pI (by omega)).pI (by omega)).pI (by omega)).pI (by omega)).pI (by omega)).pI (by omega)), fun a a0 a1 k => ?_, fun a ha k => ?_⟩
  · show EX (d) m_Tokens_init 0 [(0, .inr (.inr (9)))] [] (h) = _
    simp (disch := omega) only [Tokens_init_0, Tokens_init_8, Tokens_init_11, Tokens_init_16, Tokens_init_21, Tokens_init_26, Tokens_init_31, Tokens_init_36, Tokens_init_41, Tokens_init_46, wr_id, ix_id, okx, if_pos, if_neg, Int.toNat_of_nonneg, bak_v, bak_n, wr_b01, wr_bt, b01_or, b01_0, b01_1, lc_lt0, lc_gt0, lc_eq0, wl_wr, wr_wr, wl_id, true_and, and_true, true_or, or_true, not_true_eq_false, not_false_eq_true, nc0, nc1, nc2, nc3, nc4, nc5, nc6, nc7, nc8, nc9, nc10, nc11, nc12, nc13, nc14, nc15, nc16, nc17, nc18, nc19, nc20, nc21, nc22, nc23, nc35, nc47, nc59, nc60, nc61, nc73, nc74, nc214, nc215, nc1115, nc2230, nc3345, if_true, if_false, Int.reduceToNat, l, k1, sK_pR, sK_pI]
  · have : a = 9 ∨ a = 10 := by omega
    obtain ⟨q1, q2, q3⟩ := e1 a k
    rcases this with e | e <;> subst e
    · obtain ⟨w1, w2, w3⟩ := z k
      refine ⟨fun _ => ?_, fun _ => ?_, ?_⟩
      · simp only [hI_pI, hI_pR, q1, w1, IT]
        simp
        repeat' split
        all_goals first | rfl | omega
      · simp only [hL_pI, hL_pR, q2, w2]
      · simp only [hR_pI, hR_pR, q3, w3, RT]
        simp
    · obtain ⟨w1, w2, w3⟩ := b.2 10 (by omega) k
      refine ⟨fun _ => ?_, fun _ => ?_, ?_⟩
      · simp only [hI_pI, hI_pR, q1, w1, IT]
        simp
      · simp only [hL_pI, hL_pR, q2, w2]
      · simp only [hR_pI, hR_pR, q3, w3, RT]
        simp
  · obtain ⟨q1, q2, q3⟩ := e1 a k
    refine ⟨?_, ?_, ?_⟩
    · simp (disch := omega) only [hI_pI, hI_pR, if_neg, q1]
    · simp only [hL_pI, hL_pR, q2]
    · simp (disch := omega) only [hR_pI, hR_pR, if_neg, q3]
theorem Bd.fr {L : Nat} {h h' : Hp} {n z : Nat} (b : Bd L h n z) {p : Nat → Nat → Prop} (f : Fr p h h') (hp : ∀ a k, p a k → a < z) : Bd L h' n z := ⟨f.1.trans b.1, fun a ha k => by
  obtain ⟨q1, q2, q3⟩ := b.2 a ha k
  rw [f.I (fun z => by have := hp _ _ z; omega), f.L (fun z => by have := hp _ _ z; omega), f.R]
  exact ⟨q1, q2, q3⟩⟩
theorem Fr.uc {h h' : Hp} {p : Nat → Nat → Prop} {c : Nat} (f : Fr p h h') (hp : ∀ a k, p a k → c ≤ a) : Uc c h h' := fun a ha k => ⟨f.I (fun z => by have := hp _ _ z; omega), f.L (fun z => by have := hp _ _ z; omega), f.R a k⟩
theorem i_law {L d : Nat} : Ct L (d + 1) m_Law_init 11 14 := by
  intro h b
  have z := fun k => b.2 11 (by omega) k
  have l := b.l (by omega)
  obtain ⟨b1, e1⟩ := (b.up (show 11 ≤ 12 by omega)).nw (kd := 20) (m := 900) (by omega) (by omega) rfl
  have k1 : sK (nwH h 20 900) 11 = 3 := (b1.k 11).trans rfl
  have b2 := b1.pR (a := 11) (k := 0) (v := 12) (by omega)
  have l2 := b2.l (by omega)
  obtain ⟨b3, e3⟩ := b2.nw (kd := 20) (m := 64) (by omega) (by omega) rfl
  have k3 : sK (nwH (pR (nwH h 20 900) 11 0 12) 20 64) 11 = 3 := (b3.k 11).trans rfl
  refine ⟨pI (pI (pR (nwH (pR (nwH h 20 900) 11 0 12) 20 64) 11 1 13) 11 2 0) 11 3 0, ?_, ((((b3.up (show 12 ≤ 14 by omega)).pR (by omega)).pI (by omega)).pI (by omega)), fun a a0 a1 k => ?_, fun a ha k => ?_⟩
  · show EX (d) m_Law_init 0 [(0, .inr (.inr (11)))] [] (h) = _
    simp (disch := omega) only [Law_init_0, Law_init_10, Law_init_13, Law_init_18, Law_init_21, Law_init_26, Law_init_31, wr_id, ix_id, okx, if_pos, if_neg, Int.toNat_of_nonneg, bak_v, bak_n, wr_b01, wr_bt, b01_or, b01_0, b01_1, lc_lt0, lc_gt0, lc_eq0, wl_wr, wr_wr, wl_id, true_and, and_true, true_or, or_true, not_true_eq_false, not_false_eq_true, nc0, nc1, nc2, nc3, nc4, nc5, nc6, nc7, nc8, nc9, nc10, nc11, nc12, nc13, nc14, nc15, nc16, nc17, nc18, nc19, nc20, nc21, nc22, nc23, nc35, nc47, nc59, nc60, nc61, nc73, nc74, nc214, nc215, nc1115, nc2230, nc3345, if_true, if_false, Int.reduceToNat, l, l2, k1, k3, sK_pR, sK_pI]
  · obtain ⟨q1, q2, q3⟩ := e1 a k
    obtain ⟨r1, r2, r3⟩ := e3 a k
    obtain ⟨w1, w2, w3⟩ := b.2 a (by omega) k
    have : a = 11 ∨ a = 12 ∨ a = 13 := by omega
    rcases this with e | e | e <;> subst e <;> refine ⟨fun _ => ?_, fun _ => ?_, ?_⟩
    all_goals first
      | (simp only [hI_pI, hI_pR, r1, q1, w1, IT]; simp)
      | (simp only [hL_pI, hL_pR, r2, q2, w2])
      | (simp only [hR_pI, hR_pR, r3, q3, w3, RT]; simp; try (repeat' split) <;> omega)
  · obtain ⟨q1, q2, q3⟩ := e1 a k
    obtain ⟨r1, r2, r3⟩ := e3 a k
    refine ⟨?_, ?_, ?_⟩
    · simp (disch := omega) only [hI_pI, hI_pR, if_neg, r1, q1]
    · simp only [hL_pI, hL_pR, r2, q2]
    · simp (disch := omega) only [hR_pI, hR_pR, if_neg, r3, q3]
theorem i_read {L d : Nat} : Ct L (d + 2) m_Reader_init 8 14 := by
  intro h b
  have l := b.l (by omega)
  obtain ⟨b1, e1⟩ := (b.up (show 8 ≤ 9 by omega)).nw (kd := 6) (m := 8) (by omega) (by omega) rfl
  obtain ⟨h2, c2, b2, d2, u2⟩ := i_tok (d := d) _ b1
  have k2 : sK h2 8 = 5 := (b2.k 8).trans rfl
  have k1 : sK (nwH h 6 8) 9 = 6 := (b1.k 9).trans rfl
  have b3 := b2.pR (a := 8) (k := 0) (v := 9) (by omega)
  have l3 := b3.l (by omega)
  obtain ⟨b4, e4⟩ := b3.nw (kd := 3) (m := 4) (by omega) (by omega) rfl
  obtain ⟨h5, c5, b5, d5, u5⟩ := i_law (d := d) _ b4
  have k4 : sK (nwH (pR h2 8 0 9) 3 4) 11 = 3 := (b4.k 11).trans rfl
  have k5 : sK h5 8 = 5 := (b5.k 8).trans rfl
  refine ⟨pR h5 8 1 11, ?_, b5.pR (by omega), fun a a0 a1 k => ?_, fun a ha k => ?_⟩
  · show EX (d+1) m_Reader_init 0 [(0, .inr (.inr (8)))] [] (h) = _
    simp (disch := omega) only [Reader_init_0, Reader_init_8, wr_id, ix_id, okx, if_pos, if_neg, Int.toNat_of_nonneg, bak_v, bak_n, wr_b01, wr_bt, b01_or, b01_0, b01_1, lc_lt0, lc_gt0, lc_eq0, wl_wr, wr_wr, wl_id, true_and, and_true, true_or, or_true, not_true_eq_false, not_false_eq_true, nc0, nc1, nc2, nc3, nc4, nc5, nc6, nc7, nc8, nc9, nc10, nc11, nc12, nc13, nc14, nc15, nc16, nc17, nc18, nc19, nc20, nc21, nc22, nc23, nc35, nc47, nc59, nc60, nc61, nc73, nc74, nc214, nc215, nc1115, nc2230, nc3345, if_true, if_false, Int.reduceToNat, l, k1, c2]
    simp (disch := omega) only [Reader_init_12, Reader_init_15, Reader_init_19, wr_id, ix_id, okx, if_pos, if_neg, Int.toNat_of_nonneg, bak_v, bak_n, wr_b01, wr_bt, b01_or, b01_0, b01_1, lc_lt0, lc_gt0, lc_eq0, wl_wr, wr_wr, wl_id, true_and, and_true, true_or, or_true, not_true_eq_false, not_false_eq_true, nc0, nc1, nc2, nc3, nc4, nc5, nc6, nc7, nc8, nc9, nc10, nc11, nc12, nc13, nc14, nc15, nc16, nc17, nc18, nc19, nc20, nc21, nc22, nc23, nc35, nc47, nc59, nc60, nc61, nc73, nc74, nc214, nc215, nc1115, nc2230, nc3345, if_true, if_false, Int.reduceToNat, l3, k2, k4, sK_pR, c5]
    simp (disch := omega) only [Reader_init_23, Reader_init_26, wr_id, ix_id, okx, if_pos, if_neg, Int.toNat_of_nonneg, bak_v, bak_n, wr_b01, wr_bt, b01_or, b01_0, b01_1, lc_lt0, lc_gt0, lc_eq0, wl_wr, wr_wr, wl_id, true_and, and_true, true_or, or_true, not_true_eq_false, not_false_eq_true, nc0, nc1, nc2, nc3, nc4, nc5, nc6, nc7, nc8, nc9, nc10, nc11, nc12, nc13, nc14, nc15, nc16, nc17, nc18, nc19, nc20, nc21, nc22, nc23, nc35, nc47, nc59, nc60, nc61, nc73, nc74, nc214, nc215, nc1115, nc2230, nc3345, if_true, if_false, Int.reduceToNat, k5]
  · by_cases c1 : a = 8
    · subst c1
      obtain ⟨q1, q2, q3⟩ := e1 8 k
      obtain ⟨w1, w2, w3⟩ := b.2 8 (by omega) k
      obtain ⟨v1, v2, v3⟩ := u2 8 (by omega) k
      obtain ⟨r1, r2, r3⟩ := e4 8 k
      obtain ⟨x1, x2, x3⟩ := u5 8 (by omega) k
      refine ⟨fun _ => ?_, fun _ => ?_, ?_⟩
      · simp only [hI_pR, x1, r1, v1, q1, w1, IT]; simp
      · simp only [hL_pR, x2, r2, v2, q2, w2]
      · simp only [hR_pR, x3, r3, v3, q3, w3, RT]; simp; try (repeat' split) <;> omega
    · by_cases c2' : a < 11
      · obtain ⟨r1, r2, r3⟩ := e4 a k
        obtain ⟨x1, x2, x3⟩ := u5 a (by omega) k
        have := d2 a (by omega) c2' k
        rw [hI_pR, hL_pR, hR_pR, if_neg (by omega), x1, x2, x3, r1, r2, r3, hI_pR, hL_pR, hR_pR, if_neg (by omega)]
        exact this
      · have := d5 a (by omega) a1 k
        rw [hI_pR, hL_pR, hR_pR, if_neg (by omega)]
        exact this
  · obtain ⟨q1, q2, q3⟩ := e1 a k
    obtain ⟨v1, v2, v3⟩ := u2 a (by omega) k
    obtain ⟨r1, r2, r3⟩ := e4 a k
    obtain ⟨x1, x2, x3⟩ := u5 a (by omega) k
    rw [hI_pR, hL_pR, hR_pR, if_neg (by omega), x1, x2, x3, r1, r2, r3, hI_pR, hL_pR, hR_pR, if_neg (by omega), v1, v2, v3, q1, q2, q3]
    exact ⟨rfl, rfl, rfl⟩
