/-! constructors of single objects (PRINTED by gen/ctor.py) -/
theorem i_win14 {L d : Nat} : Ct L (d + 3) m_Window_init 14 20 := by
  intro h b
  have l0 := b.l (by omega)
  have b0 := b.up (show 14 ≤ 15 by omega)
  obtain ⟨c1, e1⟩ := b0.nw (kd := 20) (m := 12) (by omega) (by omega) rfl
  have k1 : sK (nwH h 20 12) 14 = 9 := (c1.k 14).trans rfl
  have b1 := c1.pR (a := 14) (k := 0) (v := 15) (by omega)
  have l1 := b1.l (by omega)
  obtain ⟨c2, e2⟩ := b1.nw (kd := 20) (m := 12) (by omega) (by omega) rfl
  have k2 : sK (nwH (pR (nwH h 20 12) 14 0 15) 20 12) 14 = 9 := (c2.k 14).trans rfl
  have b2 := c2.pR (a := 14) (k := 1) (v := 16) (by omega)
  have l2 := b2.l (by omega)
  obtain ⟨c3, e3⟩ := b2.nw (kd := 20) (m := 12) (by omega) (by omega) rfl
  have k3 : sK (nwH (pR (nwH (pR (nwH h 20 12) 14 0 15) 20 12) 14 1 16) 20 12) 14 = 9 := (c3.k 14).trans rfl
  have b3 := c3.pR (a := 14) (k := 2) (v := 17) (by omega)
  have l3 := b3.l (by omega)
  obtain ⟨c4, e4⟩ := b3.nw (kd := 20) (m := 12) (by omega) (by omega) rfl
  have k4 : sK (nwH (pR (nwH (pR (nwH (pR (nwH h 20 12) 14 0 15) 20 12) 14 1 16) 20 12) 14 2 17) 20 12) 14 = 9 := (c4.k 14).trans rfl
  have b4 := c4.pR (a := 14) (k := 3) (v := 18) (by omega)
  have l4 := b4.l (by omega)
  obtain ⟨c5, e5⟩ := b4.nw (kd := 20) (m := 12) (by omega) (by omega) rfl
  have k5 : sK (nwH (pR (nwH (pR (nwH (pR (nwH (pR (nwH h 20 12) 14 0 15) 20 12) 14 1 16) 20 12) 14 2 17) 20 12) 14 3 18) 20 12) 14 = 9 := (c5.k 14).trans rfl
  have b5 := c5.pR (a := 14) (k := 4) (v := 19) (by omega)
  have l5 := b5.l (by omega)
  have cI : ∀ a k, hI (pR (nwH (pR (nwH (pR (nwH (pR (nwH (pR (nwH h 20 12) 14 0 15) 20 12) 14 1 16) 20 12) 14 2 17) 20 12) 14 3 18) 20 12) 14 4 19) a k = hI h a k := fun a k => by
    simp only [hI_pI, hI_pR, (e1 a k).1, (e2 a k).1, (e3 a k).1, (e4 a k).1, (e5 a k).1]
  have cL : ∀ a k, hL (pR (nwH (pR (nwH (pR (nwH (pR (nwH (pR (nwH h 20 12) 14 0 15) 20 12) 14 1 16) 20 12) 14 2 17) 20 12) 14 3 18) 20 12) 14 4 19) a k = hL h a k := fun a k => by
    simp only [hL_pI, hL_pR, (e1 a k).2.1, (e2 a k).2.1, (e3 a k).2.1, (e4 a k).2.1, (e5 a k).2.1]
  have cR : ∀ a k, hR (pR (nwH (pR (nwH (pR (nwH (pR (nwH (pR (nwH h 20 12) 14 0 15) 20 12) 14 1 16) 20 12) 14 2 17) 20 12) 14 3 18) 20 12) 14 4 19) a k = if a = 14 then (if k = 4 then 19 else if k = 3 then 18 else if k = 2 then 17 else if k = 1 then 16 else if k = 0 then 15 else hR h a k) else hR h a k := fun a k => by
    simp only [hR_pI, hR_pR, (e1 a k).2.2, (e2 a k).2.2, (e3 a k).2.2, (e4 a k).2.2, (e5 a k).2.2]
    by_cases q : a = 14 <;> simp [q]
  have zR : ∀ k, hR h 14 k = 0 := fun k => (b.2 14 (by omega) k).2.2
  have hw : WinAt (pR (nwH (pR (nwH (pR (nwH (pR (nwH (pR (nwH h 20 12) 14 0 15) 20 12) 14 1 16) 20 12) 14 2 17) 20 12) 14 3 18) 20 12) 14 4 19) 14 := ⟨(b5.k 14).trans rfl, ⟨by rw [cR]; rfl, by rw [cR]; rfl, by rw [cR]; rfl, by rw [cR]; rfl, by rw [cR]; rfl⟩, fun k k1 k2 => by
    have : k = 1 ∨ k = 2 ∨ k = 3 ∨ k = 4 ∨ k = 5 := by omega
    rcases this with e | e | e | e | e <;> subst e <;> exact ⟨(b5.k _).trans rfl, (b5.n _).trans rfl⟩⟩
  obtain ⟨h', ee, wv, z1, z2, z5, f⟩ := c_winEmpty (d := d) hw
  have kc : sK (pR (nwH (pR (nwH (pR (nwH (pR (nwH (pR (nwH h 20 12) 14 0 15) 20 12) 14 1 16) 20 12) 14 2 17) 20 12) 14 3 18) 20 12) 14 4 19) 14 = 9 := hw.1
  refine ⟨h', ?_, (b5.up (by omega)).fr f (fun a k z => by omega), fun a a0 a1 k => ⟨fun oi => ?_, fun oy => ?_, ?_⟩, fun a ha k => ?_⟩
  · show EX (d+2) m_Window_init 0 [(0, .inr (.inr (14)))] [] (h) = _
    simp (disch := omega) only [Window_init_0, Window_init_9, Window_init_12, Window_init_17, Window_init_20, Window_init_25, Window_init_28, Window_init_33, Window_init_36, Window_init_41, Window_init_44, wr_id, ix_id, okx, if_pos, if_neg, Int.toNat_of_nonneg, bak_v, bak_n, wr_b01, wr_bt, b01_or, b01_0, b01_1, lc_lt0, lc_gt0, lc_eq0, wl_wr, wr_wr, wl_id, true_and, and_true, true_or, or_true, not_true_eq_false, not_false_eq_true, nc0, nc1, nc2, nc3, nc4, nc5, nc6, nc7, nc8, nc9, nc10, nc11, nc12, nc13, nc14, nc15, nc16, nc17, nc18, nc19, nc20, nc21, nc22, nc23, nc35, nc47, nc59, nc60, nc61, nc73, nc74, nc214, nc215, nc1115, nc2230, nc3345, if_true, if_false, Int.reduceToNat, l0, l1, l2, l3, l4, l5, k1, k2, k3, k4, k5, sK_pR, sK_pI]
    simp (disch := omega) only [ee, Window_init_48, wr_id, ix_id, okx, if_pos, if_neg, Int.toNat_of_nonneg, bak_v, bak_n, wr_b01, wr_bt, b01_or, b01_0, b01_1, lc_lt0, lc_gt0, lc_eq0, wl_wr, wr_wr, wl_id, true_and, and_true, true_or, or_true, not_true_eq_false, not_false_eq_true, nc0, nc1, nc2, nc3, nc4, nc5, nc6, nc7, nc8, nc9, nc10, nc11, nc12, nc13, nc14, nc15, nc16, nc17, nc18, nc19, nc20, nc21, nc22, nc23, nc35, nc47, nc59, nc60, nc61, nc73, nc74, nc214, nc215, nc1115, nc2230, nc3345, if_true, if_false, Int.reduceToNat]
  · unfold okI at oi
    obtain ⟨w1, w2, w3, w4, w5, w6, w7, w8, w9, w10⟩ := wv.2.1
    have a3 := wv.hk
    have a4 := wv.rk
    have : a = 14 ∨ a = 15 ∨ a = 16 ∨ a = 17 ∨ a = 18 ∨ a = 19 := by omega
    rcases this with e | e | e | e | e | e <;> subst e
    · have : k = 5 ∨ k = 6 ∨ k = 7 ∨ k = 8 ∨ k = 9 ∨ k = 10 ∨ k = 11 ∨ k = 12 ∨ k = 13 ∨ k = 14 := by omega
      rcases this with e | e | e | e | e | e | e | e | e | e <;> subst e <;> first | exact w1.trans rfl | exact w2.trans rfl | exact w3.trans rfl | exact w4.trans rfl | exact w5.trans rfl | exact w6.trans rfl | exact w7.trans rfl | exact w8.trans rfl | exact w9.trans rfl | exact w10.trans rfl
    · exact (z1 k (by omega)).trans rfl
    · exact (z2 k (by omega)).trans rfl
    · refine (a3 k (by omega)).trans ?_
      simp (disch := omega) only [plS, if_neg, IT]
    · refine (a4 k (by omega)).trans ?_
      simp (disch := omega) only [plS, if_neg, IT]
    · exact (z5 k (by omega)).trans rfl
  · unfold okY at oy; omega
  · rw [f.R, cR, (b.2 a (by omega) k).2.2]
    have : a = 14 ∨ a = 15 ∨ a = 16 ∨ a = 17 ∨ a = 18 ∨ a = 19 := by omega
    rcases this with e | e | e | e | e | e <;> subst e <;> simp [RT] <;> (try (repeat' split)) <;> first | rfl | omega
  · obtain ⟨q1, q2, q3⟩ := f.uc (c := 14) (fun a k z => by omega) a ha k
    rw [q1, q2, q3, cI, cL, cR, if_neg (by omega)]
    exact ⟨rfl, rfl, rfl⟩
theorem i_win20 {L d : Nat} : Ct L (d + 3) m_Window_init 20 26 := by
  intro h b
  have l0 := b.l (by omega)
  have b0 := b.up (show 20 ≤ 21 by omega)
  obtain ⟨c1, e1⟩ := b0.nw (kd := 20) (m := 12) (by omega) (by omega) rfl
  have k1 : sK (nwH h 20 12) 20 = 9 := (c1.k 20).trans rfl
  have b1 := c1.pR (a := 20) (k := 0) (v := 21) (by omega)
  have l1 := b1.l (by omega)
  obtain ⟨c2, e2⟩ := b1.nw (kd := 20) (m := 12) (by omega) (by omega) rfl
  have k2 : sK (nwH (pR (nwH h 20 12) 20 0 21) 20 12) 20 = 9 := (c2.k 20).trans rfl
  have b2 := c2.pR (a := 20) (k := 1) (v := 22) (by omega)
  have l2 := b2.l (by omega)
  obtain ⟨c3, e3⟩ := b2.nw (kd := 20) (m := 12) (by omega) (by omega) rfl
  have k3 : sK (nwH (pR (nwH (pR (nwH h 20 12) 20 0 21) 20 12) 20 1 22) 20 12) 20 = 9 := (c3.k 20).trans rfl
  have b3 := c3.pR (a := 20) (k := 2) (v := 23) (by omega)
  have l3 := b3.l (by omega)
  obtain ⟨c4, e4⟩ := b3.nw (kd := 20) (m := 12) (by omega) (by omega) rfl
  have k4 : sK (nwH (pR (nwH (pR (nwH (pR (nwH h 20 12) 20 0 21) 20 12) 20 1 22) 20 12) 20 2 23) 20 12) 20 = 9 := (c4.k 20).trans rfl
  have b4 := c4.pR (a := 20) (k := 3) (v := 24) (by omega)
  have l4 := b4.l (by omega)
  obtain ⟨c5, e5⟩ := b4.nw (kd := 20) (m := 12) (by omega) (by omega) rfl
  have k5 : sK (nwH (pR (nwH (pR (nwH (pR (nwH (pR (nwH h 20 12) 20 0 21) 20 12) 20 1 22) 20 12) 20 2 23) 20 12) 20 3 24) 20 12) 20 = 9 := (c5.k 20).trans rfl
  have b5 := c5.pR (a := 20) (k := 4) (v := 25) (by omega)
  have l5 := b5.l (by omega)
  have cI : ∀ a k, hI (pR (nwH (pR (nwH (pR (nwH (pR (nwH (pR (nwH h 20 12) 20 0 21) 20 12) 20 1 22) 20 12) 20 2 23) 20 12) 20 3 24) 20 12) 20 4 25) a k = hI h a k := fun a k => by
    simp only [hI_pI, hI_pR, (e1 a k).1, (e2 a k).1, (e3 a k).1, (e4 a k).1, (e5 a k).1]
  have cL : ∀ a k, hL (pR (nwH (pR (nwH (pR (nwH (pR (nwH (pR (nwH h 20 12) 20 0 21) 20 12) 20 1 22) 20 12) 20 2 23) 20 12) 20 3 24) 20 12) 20 4 25) a k = hL h a k := fun a k => by
    simp only [hL_pI, hL_pR, (e1 a k).2.1, (e2 a k).2.1, (e3 a k).2.1, (e4 a k).2.1, (e5 a k).2.1]
  have cR : ∀ a k, hR (pR (nwH (pR (nwH (pR (nwH (pR (nwH (pR (nwH h 20 12) 20 0 21) 20 12) 20 1 22) 20 12) 20 2 23) 20 12) 20 3 24) 20 12) 20 4 25) a k = if a = 20 then (if k = 4 then 25 else if k = 3 then 24 else if k = 2 then 23 else if k = 1 then 22 else if k = 0 then 21 else hR h a k) else hR h a k := fun a k => by
    simp only [hR_pI, hR_pR, (e1 a k).2.2, (e2 a k).2.2, (e3 a k).2.2, (e4 a k).2.2, (e5 a k).2.2]
    by_cases q : a = 20 <;> simp [q]
  have zR : ∀ k, hR h 20 k = 0 := fun k => (b.2 20 (by omega) k).2.2
  have hw : WinAt (pR (nwH (pR (nwH (pR (nwH (pR (nwH (pR (nwH h 20 12) 20 0 21) 20 12) 20 1 22) 20 12) 20 2 23) 20 12) 20 3 24) 20 12) 20 4 25) 20 := ⟨(b5.k 20).trans rfl, ⟨by rw [cR]; rfl, by rw [cR]; rfl, by rw [cR]; rfl, by rw [cR]; rfl, by rw [cR]; rfl⟩, fun k k1 k2 => by
    have : k = 1 ∨ k = 2 ∨ k = 3 ∨ k = 4 ∨ k = 5 := by omega
    rcases this with e | e | e | e | e <;> subst e <;> exact ⟨(b5.k _).trans rfl, (b5.n _).trans rfl⟩⟩
  obtain ⟨h', ee, wv, z1, z2, z5, f⟩ := c_winEmpty (d := d) hw
  have kc : sK (pR (nwH (pR (nwH (pR (nwH (pR (nwH (pR (nwH h 20 12) 20 0 21) 20 12) 20 1 22) 20 12) 20 2 23) 20 12) 20 3 24) 20 12) 20 4 25) 20 = 9 := hw.1
  refine ⟨h', ?_, (b5.up (by omega)).fr f (fun a k z => by omega), fun a a0 a1 k => ⟨fun oi => ?_, fun oy => ?_, ?_⟩, fun a ha k => ?_⟩
  · show EX (d+2) m_Window_init 0 [(0, .inr (.inr (20)))] [] (h) = _
    simp (disch := omega) only [Window_init_0, Window_init_9, Window_init_12, Window_init_17, Window_init_20, Window_init_25, Window_init_28, Window_init_33, Window_init_36, Window_init_41, Window_init_44, wr_id, ix_id, okx, if_pos, if_neg, Int.toNat_of_nonneg, bak_v, bak_n, wr_b01, wr_bt, b01_or, b01_0, b01_1, lc_lt0, lc_gt0, lc_eq0, wl_wr, wr_wr, wl_id, true_and, and_true, true_or, or_true, not_true_eq_false, not_false_eq_true, nc0, nc1, nc2, nc3, nc4, nc5, nc6, nc7, nc8, nc9, nc10, nc11, nc12, nc13, nc14, nc15, nc16, nc17, nc18, nc19, nc20, nc21, nc22, nc23, nc35, nc47, nc59, nc60, nc61, nc73, nc74, nc214, nc215, nc1115, nc2230, nc3345, if_true, if_false, Int.reduceToNat, l0, l1, l2, l3, l4, l5, k1, k2, k3, k4, k5, sK_pR, sK_pI]
    simp (disch := omega) only [ee, Window_init_48, wr_id, ix_id, okx, if_pos, if_neg, Int.toNat_of_nonneg, bak_v, bak_n, wr_b01, wr_bt, b01_or, b01_0, b01_1, lc_lt0, lc_gt0, lc_eq0, wl_wr, wr_wr, wl_id, true_and, and_true, true_or, or_true, not_true_eq_false, not_false_eq_true, nc0, nc1, nc2, nc3, nc4, nc5, nc6, nc7, nc8, nc9, nc10, nc11, nc12, nc13, nc14, nc15, nc16, nc17, nc18, nc19, nc20, nc21, nc22, nc23, nc35, nc47, nc59, nc60, nc61, nc73, nc74, nc214, nc215, nc1115, nc2230, nc3345, if_true, if_false, Int.reduceToNat]
  · unfold okI at oi
    obtain ⟨w1, w2, w3, w4, w5, w6, w7, w8, w9, w10⟩ := wv.2.1
    have a3 := wv.hk
    have a4 := wv.rk
    have : a = 20 ∨ a = 21 ∨ a = 22 ∨ a = 23 ∨ a = 24 ∨ a = 25 := by omega
    rcases this with e | e | e | e | e | e <;> subst e
    · have : k = 5 ∨ k = 6 ∨ k = 7 ∨ k = 8 ∨ k = 9 ∨ k = 10 ∨ k = 11 ∨ k = 12 ∨ k = 13 ∨ k = 14 := by omega
      rcases this with e | e | e | e | e | e | e | e | e | e <;> subst e <;> first | exact w1.trans rfl | exact w2.trans rfl | exact w3.trans rfl | exact w4.trans rfl | exact w5.trans rfl | exact w6.trans rfl | exact w7.trans rfl | exact w8.trans rfl | exact w9.trans rfl | exact w10.trans rfl
    · exact (z1 k (by omega)).trans rfl
    · exact (z2 k (by omega)).trans rfl
    · refine (a3 k (by omega)).trans ?_
      simp (disch := omega) only [plS, if_neg, IT]
    · refine (a4 k (by omega)).trans ?_
      simp (disch := omega) only [plS, if_neg, IT]
    · exact (z5 k (by omega)).trans rfl
  · unfold okY at oy; omega
  · rw [f.R, cR, (b.2 a (by omega) k).2.2]
    have : a = 20 ∨ a = 21 ∨ a = 22 ∨ a = 23 ∨ a = 24 ∨ a = 25 := by omega
    rcases this with e | e | e | e | e | e <;> subst e <;> simp [RT] <;> (try (repeat' split)) <;> first | rfl | omega
  · obtain ⟨q1, q2, q3⟩ := f.uc (c := 20) (fun a k z => by omega) a ha k
    rw [q1, q2, q3, cI, cL, cR, if_neg (by omega)]
    exact ⟨rfl, rfl, rfl⟩
theorem i_win44 {L d : Nat} : Ct L (d + 3) m_Window_init 44 50 := by
  intro h b
  have l0 := b.l (by omega)
  have b0 := b.up (show 44 ≤ 45 by omega)
  obtain ⟨c1, e1⟩ := b0.nw (kd := 20) (m := 12) (by omega) (by omega) rfl
  have k1 : sK (nwH h 20 12) 44 = 9 := (c1.k 44).trans rfl
  have b1 := c1.pR (a := 44) (k := 0) (v := 45) (by omega)
  have l1 := b1.l (by omega)
  obtain ⟨c2, e2⟩ := b1.nw (kd := 20) (m := 12) (by omega) (by omega) rfl
  have k2 : sK (nwH (pR (nwH h 20 12) 44 0 45) 20 12) 44 = 9 := (c2.k 44).trans rfl
  have b2 := c2.pR (a := 44) (k := 1) (v := 46) (by omega)
  have l2 := b2.l (by omega)
  obtain ⟨c3, e3⟩ := b2.nw (kd := 20) (m := 12) (by omega) (by omega) rfl
  have k3 : sK (nwH (pR (nwH (pR (nwH h 20 12) 44 0 45) 20 12) 44 1 46) 20 12) 44 = 9 := (c3.k 44).trans rfl
  have b3 := c3.pR (a := 44) (k := 2) (v := 47) (by omega)
  have l3 := b3.l (by omega)
  obtain ⟨c4, e4⟩ := b3.nw (kd := 20) (m := 12) (by omega) (by omega) rfl
  have k4 : sK (nwH (pR (nwH (pR (nwH (pR (nwH h 20 12) 44 0 45) 20 12) 44 1 46) 20 12) 44 2 47) 20 12) 44 = 9 := (c4.k 44).trans rfl
  have b4 := c4.pR (a := 44) (k := 3) (v := 48) (by omega)
  have l4 := b4.l (by omega)
  obtain ⟨c5, e5⟩ := b4.nw (kd := 20) (m := 12) (by omega) (by omega) rfl
  have k5 : sK (nwH (pR (nwH (pR (nwH (pR (nwH (pR (nwH h 20 12) 44 0 45) 20 12) 44 1 46) 20 12) 44 2 47) 20 12) 44 3 48) 20 12) 44 = 9 := (c5.k 44).trans rfl
  have b5 := c5.pR (a := 44) (k := 4) (v := 49) (by omega)
  have l5 := b5.l (by omega)
  have cI : ∀ a k, hI (pR (nwH (pR (nwH (pR (nwH (pR (nwH (pR (nwH h 20 12) 44 0 45) 20 12) 44 1 46) 20 12) 44 2 47) 20 12) 44 3 48) 20 12) 44 4 49) a k = hI h a k := fun a k => by
    simp only [hI_pI, hI_pR, (e1 a k).1, (e2 a k).1, (e3 a k).1, (e4 a k).1, (e5 a k).1]
  have cL : ∀ a k, hL (pR (nwH (pR (nwH (pR (nwH (pR (nwH (pR (nwH h 20 12) 44 0 45) 20 12) 44 1 46) 20 12) 44 2 47) 20 12) 44 3 48) 20 12) 44 4 49) a k = hL h a k := fun a k => by
    simp only [hL_pI, hL_pR, (e1 a k).2.1, (e2 a k).2.1, (e3 a k).2.1, (e4 a k).2.1, (e5 a k).2.1]
  have cR : ∀ a k, hR (pR (nwH (pR (nwH (pR (nwH (pR (nwH (pR (nwH h 20 12) 44 0 45) 20 12) 44 1 46) 20 12) 44 2 47) 20 12) 44 3 48) 20 12) 44 4 49) a k = if a = 44 then (if k = 4 then 49 else if k = 3 then 48 else if k = 2 then 47 else if k = 1 then 46 else if k = 0 then 45 else hR h a k) else hR h a k := fun a k => by
    simp only [hR_pI, hR_pR, (e1 a k).2.2, (e2 a k).2.2, (e3 a k).2.2, (e4 a k).2.2, (e5 a k).2.2]
    by_cases q : a = 44 <;> simp [q]
  have zR : ∀ k, hR h 44 k = 0 := fun k => (b.2 44 (by omega) k).2.2
  have hw : WinAt (pR (nwH (pR (nwH (pR (nwH (pR (nwH (pR (nwH h 20 12) 44 0 45) 20 12) 44 1 46) 20 12) 44 2 47) 20 12) 44 3 48) 20 12) 44 4 49) 44 := ⟨(b5.k 44).trans rfl, ⟨by rw [cR]; rfl, by rw [cR]; rfl, by rw [cR]; rfl, by rw [cR]; rfl, by rw [cR]; rfl⟩, fun k k1 k2 => by
    have : k = 1 ∨ k = 2 ∨ k = 3 ∨ k = 4 ∨ k = 5 := by omega
    rcases this with e | e | e | e | e <;> subst e <;> exact ⟨(b5.k _).trans rfl, (b5.n _).trans rfl⟩⟩
  obtain ⟨h', ee, wv, z1, z2, z5, f⟩ := c_winEmpty (d := d) hw
  have kc : sK (pR (nwH (pR (nwH (pR (nwH (pR (nwH (pR (nwH h 20 12) 44 0 45) 20 12) 44 1 46) 20 12) 44 2 47) 20 12) 44 3 48) 20 12) 44 4 49) 44 = 9 := hw.1
  refine ⟨h', ?_, (b5.up (by omega)).fr f (fun a k z => by omega), fun a a0 a1 k => ⟨fun oi => ?_, fun oy => ?_, ?_⟩, fun a ha k => ?_⟩
  · show EX (d+2) m_Window_init 0 [(0, .inr (.inr (44)))] [] (h) = _
    simp (disch := omega) only [Window_init_0, Window_init_9, Window_init_12, Window_init_17, Window_init_20, Window_init_25, Window_init_28, Window_init_33, Window_init_36, Window_init_41, Window_init_44, wr_id, ix_id, okx, if_pos, if_neg, Int.toNat_of_nonneg, bak_v, bak_n, wr_b01, wr_bt, b01_or, b01_0, b01_1, lc_lt0, lc_gt0, lc_eq0, wl_wr, wr_wr, wl_id, true_and, and_true, true_or, or_true, not_true_eq_false, not_false_eq_true, nc0, nc1, nc2, nc3, nc4, nc5, nc6, nc7, nc8, nc9, nc10, nc11, nc12, nc13, nc14, nc15, nc16, nc17, nc18, nc19, nc20, nc21, nc22, nc23, nc35, nc47, nc59, nc60, nc61, nc73, nc74, nc214, nc215, nc1115, nc2230, nc3345, if_true, if_false, Int.reduceToNat, l0, l1, l2, l3, l4, l5, k1, k2, k3, k4, k5, sK_pR, sK_pI]
    simp (disch := omega) only [ee, Window_init_48, wr_id, ix_id, okx, if_pos, if_neg, Int.toNat_of_nonneg, bak_v, bak_n, wr_b01, wr_bt, b01_or, b01_0, b01_1, lc_lt0, lc_gt0, lc_eq0, wl_wr, wr_wr, wl_id, true_and, and_true, true_or, or_true, not_true_eq_false, not_false_eq_true, nc0, nc1, nc2, nc3, nc4, nc5, nc6, nc7, nc8, nc9, nc10, nc11, nc12, nc13, nc14, nc15, nc16, nc17, nc18, nc19, nc20, nc21, nc22, nc23, nc35, nc47, nc59, nc60, nc61, nc73, nc74, nc214, nc215, nc1115, nc2230, nc3345, if_true, if_false, Int.reduceToNat]
  · unfold okI at oi
    obtain ⟨w1, w2, w3, w4, w5, w6, w7, w8, w9, w10⟩ := wv.2.1
    have a3 := wv.hk
    have a4 := wv.rk
    have : a = 44 ∨ a = 45 ∨ a = 46 ∨ a = 47 ∨ a = 48 ∨ a = 49 := by omega
    rcases this with e | e | e | e | e | e <;> subst e
    · have : k = 5 ∨ k = 6 ∨ k = 7 ∨ k = 8 ∨ k = 9 ∨ k = 10 ∨ k = 11 ∨ k = 12 ∨ k = 13 ∨ k = 14 := by omega
      rcases this with e | e | e | e | e | e | e | e | e | e <;> subst e <;> first | exact w1.trans rfl | exact w2.trans rfl | exact w3.trans rfl | exact w4.trans rfl | exact w5.trans rfl | exact w6.trans rfl | exact w7.trans rfl | exact w8.trans rfl | exact w9.trans rfl | exact w10.trans rfl
    · exact (z1 k (by omega)).trans rfl
    · exact (z2 k (by omega)).trans rfl
    · refine (a3 k (by omega)).trans ?_
      simp (disch := omega) only [plS, if_neg, IT]
    · refine (a4 k (by omega)).trans ?_
      simp (disch := omega) only [plS, if_neg, IT]
    · exact (z5 k (by omega)).trans rfl
  · unfold okY at oy; omega
  · rw [f.R, cR, (b.2 a (by omega) k).2.2]
    have : a = 44 ∨ a = 45 ∨ a = 46 ∨ a = 47 ∨ a = 48 ∨ a = 49 := by omega
    rcases this with e | e | e | e | e | e <;> subst e <;> simp [RT] <;> (try (repeat' split)) <;> first | rfl | omega
  · obtain ⟨q1, q2, q3⟩ := f.uc (c := 44) (fun a k z => by omega) a ha k
    rw [q1, q2, q3, cI, cL, cR, if_neg (by omega)]
    exact ⟨rfl, rfl, rfl⟩
theorem i_win52 {L d : Nat} : Ct L (d + 3) m_Window_init 52 58 := by
  intro h b
  have l0 := b.l (by omega)
  have b0 := b.up (show 52 ≤ 53 by omega)
  obtain ⟨c1, e1⟩ := b0.nw (kd := 20) (m := 12) (by omega) (by omega) rfl
  have k1 : sK (nwH h 20 12) 52 = 9 := (c1.k 52).trans rfl
  have b1 := c1.pR (a := 52) (k := 0) (v := 53) (by omega)
  have l1 := b1.l (by omega)
  obtain ⟨c2, e2⟩ := b1.nw (kd := 20) (m := 12) (by omega) (by omega) rfl
  have k2 : sK (nwH (pR (nwH h 20 12) 52 0 53) 20 12) 52 = 9 := (c2.k 52).trans rfl
  have b2 := c2.pR (a := 52) (k := 1) (v := 54) (by omega)
  have l2 := b2.l (by omega)
  obtain ⟨c3, e3⟩ := b2.nw (kd := 20) (m := 12) (by omega) (by omega) rfl
  have k3 : sK (nwH (pR (nwH (pR (nwH h 20 12) 52 0 53) 20 12) 52 1 54) 20 12) 52 = 9 := (c3.k 52).trans rfl
  have b3 := c3.pR (a := 52) (k := 2) (v := 55) (by omega)
  have l3 := b3.l (by omega)
  obtain ⟨c4, e4⟩ := b3.nw (kd := 20) (m := 12) (by omega) (by omega) rfl
  have k4 : sK (nwH (pR (nwH (pR (nwH (pR (nwH h 20 12) 52 0 53) 20 12) 52 1 54) 20 12) 52 2 55) 20 12) 52 = 9 := (c4.k 52).trans rfl
  have b4 := c4.pR (a := 52) (k := 3) (v := 56) (by omega)
  have l4 := b4.l (by omega)
  obtain ⟨c5, e5⟩ := b4.nw (kd := 20) (m := 12) (by omega) (by omega) rfl
  have k5 : sK (nwH (pR (nwH (pR (nwH (pR (nwH (pR (nwH h 20 12) 52 0 53) 20 12) 52 1 54) 20 12) 52 2 55) 20 12) 52 3 56) 20 12) 52 = 9 := (c5.k 52).trans rfl
  have b5 := c5.pR (a := 52) (k := 4) (v := 57) (by omega)
  have l5 := b5.l (by omega)
  have cI : ∀ a k, hI (pR (nwH (pR (nwH (pR (nwH (pR (nwH (pR (nwH h 20 12) 52 0 53) 20 12) 52 1 54) 20 12) 52 2 55) 20 12) 52 3 56) 20 12) 52 4 57) a k = hI h a k := fun a k => by
    simp only [hI_pI, hI_pR, (e1 a k).1, (e2 a k).1, (e3 a k).1, (e4 a k).1, (e5 a k).1]
  have cL : ∀ a k, hL (pR (nwH (pR (nwH (pR (nwH (pR (nwH (pR (nwH h 20 12) 52 0 53) 20 12) 52 1 54) 20 12) 52 2 55) 20 12) 52 3 56) 20 12) 52 4 57) a k = hL h a k := fun a k => by
    simp only [hL_pI, hL_pR, (e1 a k).2.1, (e2 a k).2.1, (e3 a k).2.1, (e4 a k).2.1, (e5 a k).2.1]
  have cR : ∀ a k, hR (pR (nwH (pR (nwH (pR (nwH (pR (nwH (pR (nwH h 20 12) 52 0 53) 20 12) 52 1 54) 20 12) 52 2 55) 20 12) 52 3 56) 20 12) 52 4 57) a k = if a = 52 then (if k = 4 then 57 else if k = 3 then 56 else if k = 2 then 55 else if k = 1 then 54 else if k = 0 then 53 else hR h a k) else hR h a k := fun a k => by
    simp only [hR_pI, hR_pR, (e1 a k).2.2, (e2 a k).2.2, (e3 a k).2.2, (e4 a k).2.2, (e5 a k).2.2]
    by_cases q : a = 52 <;> simp [q]
  have zR : ∀ k, hR h 52 k = 0 := fun k => (b.2 52 (by omega) k).2.2
  have hw : WinAt (pR (nwH (pR (nwH (pR (nwH (pR (nwH (pR (nwH h 20 12) 52 0 53) 20 12) 52 1 54) 20 12) 52 2 55) 20 12) 52 3 56) 20 12) 52 4 57) 52 := ⟨(b5.k 52).trans rfl, ⟨by rw [cR]; rfl, by rw [cR]; rfl, by rw [cR]; rfl, by rw [cR]; rfl, by rw [cR]; rfl⟩, fun k k1 k2 => by
    have : k = 1 ∨ k = 2 ∨ k = 3 ∨ k = 4 ∨ k = 5 := by omega
    rcases this with e | e | e | e | e <;> subst e <;> exact ⟨(b5.k _).trans rfl, (b5.n _).trans rfl⟩⟩
  obtain ⟨h', ee, wv, z1, z2, z5, f⟩ := c_winEmpty (d := d) hw
  have kc : sK (pR (nwH (pR (nwH (pR (nwH (pR (nwH (pR (nwH h 20 12) 52 0 53) 20 12) 52 1 54) 20 12) 52 2 55) 20 12) 52 3 56) 20 12) 52 4 57) 52 = 9 := hw.1
  refine ⟨h', ?_, (b5.up (by omega)).fr f (fun a k z => by omega), fun a a0 a1 k => ⟨fun oi => ?_, fun oy => ?_, ?_⟩, fun a ha k => ?_⟩
  · show EX (d+2) m_Window_init 0 [(0, .inr (.inr (52)))] [] (h) = _
    simp (disch := omega) only [Window_init_0, Window_init_9, Window_init_12, Window_init_17, Window_init_20, Window_init_25, Window_init_28, Window_init_33, Window_init_36, Window_init_41, Window_init_44, wr_id, ix_id, okx, if_pos, if_neg, Int.toNat_of_nonneg, bak_v, bak_n, wr_b01, wr_bt, b01_or, b01_0, b01_1, lc_lt0, lc_gt0, lc_eq0, wl_wr, wr_wr, wl_id, true_and, and_true, true_or, or_true, not_true_eq_false, not_false_eq_true, nc0, nc1, nc2, nc3, nc4, nc5, nc6, nc7, nc8, nc9, nc10, nc11, nc12, nc13, nc14, nc15, nc16, nc17, nc18, nc19, nc20, nc21, nc22, nc23, nc35, nc47, nc59, nc60, nc61, nc73, nc74, nc214, nc215, nc1115, nc2230, nc3345, if_true, if_false, Int.reduceToNat, l0, l1, l2, l3, l4, l5, k1, k2, k3, k4, k5, sK_pR, sK_pI]
    simp (disch := omega) only [ee, Window_init_48, wr_id, ix_id, okx, if_pos, if_neg, Int.toNat_of_nonneg, bak_v, bak_n, wr_b01, wr_bt, b01_or, b01_0, b01_1, lc_lt0, lc_gt0, lc_eq0, wl_wr, wr_wr, wl_id, true_and, and_true, true_or, or_true, not_true_eq_false, not_false_eq_true, nc0, nc1, nc2, nc3, nc4, nc5, nc6, nc7, nc8, nc9, nc10, nc11, nc12, nc13, nc14, nc15, nc16, nc17, nc18, nc19, nc20, nc21, nc22, nc23, nc35, nc47, nc59, nc60, nc61, nc73, nc74, nc214, nc215, nc1115, nc2230, nc3345, if_true, if_false, Int.reduceToNat]
  · unfold okI at oi
    obtain ⟨w1, w2, w3, w4, w5, w6, w7, w8, w9, w10⟩ := wv.2.1
    have a3 := wv.hk
    have a4 := wv.rk
    have : a = 52 ∨ a = 53 ∨ a = 54 ∨ a = 55 ∨ a = 56 ∨ a = 57 := by omega
    rcases this with e | e | e | e | e | e <;> subst e
    · have : k = 5 ∨ k = 6 ∨ k = 7 ∨ k = 8 ∨ k = 9 ∨ k = 10 ∨ k = 11 ∨ k = 12 ∨ k = 13 ∨ k = 14 := by omega
      rcases this with e | e | e | e | e | e | e | e | e | e <;> subst e <;> first | exact w1.trans rfl | exact w2.trans rfl | exact w3.trans rfl | exact w4.trans rfl | exact w5.trans rfl | exact w6.trans rfl | exact w7.trans rfl | exact w8.trans rfl | exact w9.trans rfl | exact w10.trans rfl
    · exact (z1 k (by omega)).trans rfl
    · exact (z2 k (by omega)).trans rfl
    · refine (a3 k (by omega)).trans ?_
      simp (disch := omega) only [plS, if_neg, IT]
    · refine (a4 k (by omega)).trans ?_
      simp (disch := omega) only [plS, if_neg, IT]
    · exact (z5 k (by omega)).trans rfl
  · unfold okY at oy; omega
  · rw [f.R, cR, (b.2 a (by omega) k).2.2]
    have : a = 52 ∨ a = 53 ∨ a = 54 ∨ a = 55 ∨ a = 56 ∨ a = 57 := by omega
    rcases this with e | e | e | e | e | e <;> subst e <;> simp [RT] <;> (try (repeat' split)) <;> first | rfl | omega
  · obtain ⟨q1, q2, q3⟩ := f.uc (c := 52) (fun a k z => by omega) a ha k
    rw [q1, q2, q3, cI, cL, cR, if_neg (by omega)]
    exact ⟨rfl, rfl, rfl⟩
theorem i_han26 {L d : Nat} : Ct L (d + 3) m_Hanging_init 26 28 := by
  intro h b
  have l0 := b.l (by omega)
  have b0 := b.up (show 26 ≤ 27 by omega)
  obtain ⟨c1, e1⟩ := b0.nw (kd := 20) (m := 12) (by omega) (by omega) rfl
  have k1 : sK (nwH h 20 12) 26 = 0 := (c1.k 26).trans rfl
  have b1 := c1.pR (a := 26) (k := 0) (v := 27) (by omega)
  have l1 := b1.l (by omega)
  have cI : ∀ a k, hI (pR (nwH h 20 12) 26 0 27) a k = hI h a k := fun a k => by
    simp only [hI_pI, hI_pR, (e1 a k).1]
  have cL : ∀ a k, hL (pR (nwH h 20 12) 26 0 27) a k = hL h a k := fun a k => by
    simp only [hL_pI, hL_pR, (e1 a k).2.1]
  have cR : ∀ a k, hR (pR (nwH h 20 12) 26 0 27) a k = if a = 26 then (if k = 0 then 27 else hR h a k) else hR h a k := fun a k => by
    simp only [hR_pI, hR_pR, (e1 a k).2.2]
    by_cases q : a = 26 <;> simp [q]
  have hg : HangAt (pR (nwH h 20 12) 26 0 27) 26 := ⟨(b1.k 26).trans rfl, by rw [cR]; rfl, (b1.k _).trans rfl, (b1.n _).trans rfl⟩
  obtain ⟨h', ee, hv, f⟩ := c_hanEmpty (d := d) hg
  have kc : sK (pR (nwH h 20 12) 26 0 27) 26 = 0 := hg.1
  refine ⟨h', ?_, (b1.up (by omega)).fr f (fun a k z => by omega), fun a a0 a1 k => ⟨fun oi => ?_, fun oy => ?_, ?_⟩, fun a ha k => ?_⟩
  · show EX (d+2) m_Hanging_init 0 [(0, .inr (.inr (26)))] [] (h) = _
    simp (disch := omega) only [Hanging_init_0, Hanging_init_9, Hanging_init_12, wr_id, ix_id, okx, if_pos, if_neg, Int.toNat_of_nonneg, bak_v, bak_n, wr_b01, wr_bt, b01_or, b01_0, b01_1, lc_lt0, lc_gt0, lc_eq0, wl_wr, wr_wr, wl_id, true_and, and_true, true_or, or_true, not_true_eq_false, not_false_eq_true, nc0, nc1, nc2, nc3, nc4, nc5, nc6, nc7, nc8, nc9, nc10, nc11, nc12, nc13, nc14, nc15, nc16, nc17, nc18, nc19, nc20, nc21, nc22, nc23, nc35, nc47, nc59, nc60, nc61, nc73, nc74, nc214, nc215, nc1115, nc2230, nc3345, if_true, if_false, Int.reduceToNat, l0, l1, k1, sK_pR, sK_pI]
    simp (disch := omega) only [ee, Hanging_init_16, wr_id, ix_id, okx, if_pos, if_neg, Int.toNat_of_nonneg, bak_v, bak_n, wr_b01, wr_bt, b01_or, b01_0, b01_1, lc_lt0, lc_gt0, lc_eq0, wl_wr, wr_wr, wl_id, true_and, and_true, true_or, or_true, not_true_eq_false, not_false_eq_true, nc0, nc1, nc2, nc3, nc4, nc5, nc6, nc7, nc8, nc9, nc10, nc11, nc12, nc13, nc14, nc15, nc16, nc17, nc18, nc19, nc20, nc21, nc22, nc23, nc35, nc47, nc59, nc60, nc61, nc73, nc74, nc214, nc215, nc1115, nc2230, nc3345, if_true, if_false, Int.reduceToNat]
  · unfold okI at oi
    obtain ⟨v1, v2, v3, v4⟩ := hv
    have : a = 26 ∨ a = 27 := by omega
    rcases this with e | e <;> subst e
    · have : k = 1 ∨ k = 2 := by omega
      rcases this with e | e <;> subst e
      · exact v2.trans rfl
      · exact v3.trans rfl
    · have k12 : k < 12 := by omega
      refine (v4 k k12).trans ?_
      simp (disch := omega) only [plS, if_neg, if_pos]
      simp [IT, k12]
  · unfold okY at oy; omega
  · rw [f.R, cR, (b.2 a (by omega) k).2.2]
    have : a = 26 ∨ a = 27 := by omega
    rcases this with e | e <;> subst e <;> simp [RT] <;> (try (repeat' split)) <;> first | rfl | omega
  · obtain ⟨q1, q2, q3⟩ := f.uc (c := 26) (fun a k z => by omega) a ha k
    rw [q1, q2, q3, cI, cL, cR, if_neg (by omega)]
    exact ⟨rfl, rfl, rfl⟩
theorem i_han28 {L d : Nat} : Ct L (d + 3) m_Hanging_init 28 30 := by
  intro h b
  have l0 := b.l (by omega)
  have b0 := b.up (show 28 ≤ 29 by omega)
  obtain ⟨c1, e1⟩ := b0.nw (kd := 20) (m := 12) (by omega) (by omega) rfl
  have k1 : sK (nwH h 20 12) 28 = 0 := (c1.k 28).trans rfl
  have b1 := c1.pR (a := 28) (k := 0) (v := 29) (by omega)
  have l1 := b1.l (by omega)
  have cI : ∀ a k, hI (pR (nwH h 20 12) 28 0 29) a k = hI h a k := fun a k => by
    simp only [hI_pI, hI_pR, (e1 a k).1]
  have cL : ∀ a k, hL (pR (nwH h 20 12) 28 0 29) a k = hL h a k := fun a k => by
    simp only [hL_pI, hL_pR, (e1 a k).2.1]
  have cR : ∀ a k, hR (pR (nwH h 20 12) 28 0 29) a k = if a = 28 then (if k = 0 then 29 else hR h a k) else hR h a k := fun a k => by
    simp only [hR_pI, hR_pR, (e1 a k).2.2]
    by_cases q : a = 28 <;> simp [q]
  have hg : HangAt (pR (nwH h 20 12) 28 0 29) 28 := ⟨(b1.k 28).trans rfl, by rw [cR]; rfl, (b1.k _).trans rfl, (b1.n _).trans rfl⟩
  obtain ⟨h', ee, hv, f⟩ := c_hanEmpty (d := d) hg
  have kc : sK (pR (nwH h 20 12) 28 0 29) 28 = 0 := hg.1
  refine ⟨h', ?_, (b1.up (by omega)).fr f (fun a k z => by omega), fun a a0 a1 k => ⟨fun oi => ?_, fun oy => ?_, ?_⟩, fun a ha k => ?_⟩
  · show EX (d+2) m_Hanging_init 0 [(0, .inr (.inr (28)))] [] (h) = _
    simp (disch := omega) only [Hanging_init_0, Hanging_init_9, Hanging_init_12, wr_id, ix_id, okx, if_pos, if_neg, Int.toNat_of_nonneg, bak_v, bak_n, wr_b01, wr_bt, b01_or, b01_0, b01_1, lc_lt0, lc_gt0, lc_eq0, wl_wr, wr_wr, wl_id, true_and, and_true, true_or, or_true, not_true_eq_false, not_false_eq_true, nc0, nc1, nc2, nc3, nc4, nc5, nc6, nc7, nc8, nc9, nc10, nc11, nc12, nc13, nc14, nc15, nc16, nc17, nc18, nc19, nc20, nc21, nc22, nc23, nc35, nc47, nc59, nc60, nc61, nc73, nc74, nc214, nc215, nc1115, nc2230, nc3345, if_true, if_false, Int.reduceToNat, l0, l1, k1, sK_pR, sK_pI]
    simp (disch := omega) only [ee, Hanging_init_16, wr_id, ix_id, okx, if_pos, if_neg, Int.toNat_of_nonneg, bak_v, bak_n, wr_b01, wr_bt, b01_or, b01_0, b01_1, lc_lt0, lc_gt0, lc_eq0, wl_wr, wr_wr, wl_id, true_and, and_true, true_or, or_true, not_true_eq_false, not_false_eq_true, nc0, nc1, nc2, nc3, nc4, nc5, nc6, nc7, nc8, nc9, nc10, nc11, nc12, nc13, nc14, nc15, nc16, nc17, nc18, nc19, nc20, nc21, nc22, nc23, nc35, nc47, nc59, nc60, nc61, nc73, nc74, nc214, nc215, nc1115, nc2230, nc3345, if_true, if_false, Int.reduceToNat]
  · unfold okI at oi
    obtain ⟨v1, v2, v3, v4⟩ := hv
    have : a = 28 ∨ a = 29 := by omega
    rcases this with e | e <;> subst e
    · have : k = 1 ∨ k = 2 := by omega
      rcases this with e | e <;> subst e
      · exact v2.trans rfl
      · exact v3.trans rfl
    · have k12 : k < 12 := by omega
      refine (v4 k k12).trans ?_
      simp (disch := omega) only [plS, if_neg, if_pos]
      simp [IT, k12]
  · unfold okY at oy; omega
  · rw [f.R, cR, (b.2 a (by omega) k).2.2]
    have : a = 28 ∨ a = 29 := by omega
    rcases this with e | e <;> subst e <;> simp [RT] <;> (try (repeat' split)) <;> first | rfl | omega
  · obtain ⟨q1, q2, q3⟩ := f.uc (c := 28) (fun a k z => by omega) a ha k
    rw [q1, q2, q3, cI, cL, cR, if_neg (by omega)]
    exact ⟨rfl, rfl, rfl⟩
theorem i_han50 {L d : Nat} : Ct L (d + 3) m_Hanging_init 50 52 := by
  intro h b
  have l0 := b.l (by omega)
  have b0 := b.up (show 50 ≤ 51 by omega)
  obtain ⟨c1, e1⟩ := b0.nw (kd := 20) (m := 12) (by omega) (by omega) rfl
  have k1 : sK (nwH h 20 12) 50 = 0 := (c1.k 50).trans rfl
  have b1 := c1.pR (a := 50) (k := 0) (v := 51) (by omega)
  have l1 := b1.l (by omega)
  have cI : ∀ a k, hI (pR (nwH h 20 12) 50 0 51) a k = hI h a k := fun a k => by
    simp only [hI_pI, hI_pR, (e1 a k).1]
  have cL : ∀ a k, hL (pR (nwH h 20 12) 50 0 51) a k = hL h a k := fun a k => by
    simp only [hL_pI, hL_pR, (e1 a k).2.1]
  have cR : ∀ a k, hR (pR (nwH h 20 12) 50 0 51) a k = if a = 50 then (if k = 0 then 51 else hR h a k) else hR h a k := fun a k => by
    simp only [hR_pI, hR_pR, (e1 a k).2.2]
    by_cases q : a = 50 <;> simp [q]
  have hg : HangAt (pR (nwH h 20 12) 50 0 51) 50 := ⟨(b1.k 50).trans rfl, by rw [cR]; rfl, (b1.k _).trans rfl, (b1.n _).trans rfl⟩
  obtain ⟨h', ee, hv, f⟩ := c_hanEmpty (d := d) hg
  have kc : sK (pR (nwH h 20 12) 50 0 51) 50 = 0 := hg.1
  refine ⟨h', ?_, (b1.up (by omega)).fr f (fun a k z => by omega), fun a a0 a1 k => ⟨fun oi => ?_, fun oy => ?_, ?_⟩, fun a ha k => ?_⟩
  · show EX (d+2) m_Hanging_init 0 [(0, .inr (.inr (50)))] [] (h) = _
    simp (disch := omega) only [Hanging_init_0, Hanging_init_9, Hanging_init_12, wr_id, ix_id, okx, if_pos, if_neg, Int.toNat_of_nonneg, bak_v, bak_n, wr_b01, wr_bt, b01_or, b01_0, b01_1, lc_lt0, lc_gt0, lc_eq0, wl_wr, wr_wr, wl_id, true_and, and_true, true_or, or_true, not_true_eq_false, not_false_eq_true, nc0, nc1, nc2, nc3, nc4, nc5, nc6, nc7, nc8, nc9, nc10, nc11, nc12, nc13, nc14, nc15, nc16, nc17, nc18, nc19, nc20, nc21, nc22, nc23, nc35, nc47, nc59, nc60, nc61, nc73, nc74, nc214, nc215, nc1115, nc2230, nc3345, if_true, if_false, Int.reduceToNat, l0, l1, k1, sK_pR, sK_pI]
    simp (disch := omega) only [ee, Hanging_init_16, wr_id, ix_id, okx, if_pos, if_neg, Int.toNat_of_nonneg, bak_v, bak_n, wr_b01, wr_bt, b01_or, b01_0, b01_1, lc_lt0, lc_gt0, lc_eq0, wl_wr, wr_wr, wl_id, true_and, and_true, true_or, or_true, not_true_eq_false, not_false_eq_true, nc0, nc1, nc2, nc3, nc4, nc5, nc6, nc7, nc8, nc9, nc10, nc11, nc12, nc13, nc14, nc15, nc16, nc17, nc18, nc19, nc20, nc21, nc22, nc23, nc35, nc47, nc59, nc60, nc61, nc73, nc74, nc214, nc215, nc1115, nc2230, nc3345, if_true, if_false, Int.reduceToNat]
  · unfold okI at oi
    obtain ⟨v1, v2, v3, v4⟩ := hv
    have : a = 50 ∨ a = 51 := by omega
    rcases this with e | e <;> subst e
    · have : k = 1 ∨ k = 2 := by omega
      rcases this with e | e <;> subst e
      · exact v2.trans rfl
      · exact v3.trans rfl
    · have k12 : k < 12 := by omega
      refine (v4 k k12).trans ?_
      simp (disch := omega) only [plS, if_neg, if_pos]
      simp [IT, k12]
  · unfold okY at oy; omega
  · rw [f.R, cR, (b.2 a (by omega) k).2.2]
    have : a = 50 ∨ a = 51 := by omega
    rcases this with e | e <;> subst e <;> simp [RT] <;> (try (repeat' split)) <;> first | rfl | omega
  · obtain ⟨q1, q2, q3⟩ := f.uc (c := 50) (fun a k z => by omega) a ha k
    rw [q1, q2, q3, cI, cL, cR, if_neg (by omega)]
    exact ⟨rfl, rfl, rfl⟩
theorem i_han58 {L d : Nat} : Ct L (d + 3) m_Hanging_init 58 60 := by
  intro h b
  have l0 := b.l (by omega)
  have b0 := b.up (show 58 ≤ 59 by omega)
  obtain ⟨c1, e1⟩ := b0.nw (kd := 20) (m := 12) (by omega) (by omega) rfl
  have k1 : sK (nwH h 20 12) 58 = 0 := (c1.k 58).trans rfl
  have b1 := c1.pR (a := 58) (k := 0) (v := 59) (by omega)
  have l1 := b1.l (by omega)
  have cI : ∀ a k, hI (pR (nwH h 20 12) 58 0 59) a k = hI h a k := fun a k => by
    simp only [hI_pI, hI_pR, (e1 a k).1]
  have cL : ∀ a k, hL (pR (nwH h 20 12) 58 0 59) a k = hL h a k := fun a k => by
    simp only [hL_pI, hL_pR, (e1 a k).2.1]
  have cR : ∀ a k, hR (pR (nwH h 20 12) 58 0 59) a k = if a = 58 then (if k = 0 then 59 else hR h a k) else hR h a k := fun a k => by
    simp only [hR_pI, hR_pR, (e1 a k).2.2]
    by_cases q : a = 58 <;> simp [q]
  have hg : HangAt (pR (nwH h 20 12) 58 0 59) 58 := ⟨(b1.k 58).trans rfl, by rw [cR]; rfl, (b1.k _).trans rfl, (b1.n _).trans rfl⟩
  obtain ⟨h', ee, hv, f⟩ := c_hanEmpty (d := d) hg
  have kc : sK (pR (nwH h 20 12) 58 0 59) 58 = 0 := hg.1
  refine ⟨h', ?_, (b1.up (by omega)).fr f (fun a k z => by omega), fun a a0 a1 k => ⟨fun oi => ?_, fun oy => ?_, ?_⟩, fun a ha k => ?_⟩
  · show EX (d+2) m_Hanging_init 0 [(0, .inr (.inr (58)))] [] (h) = _
    simp (disch := omega) only [Hanging_init_0, Hanging_init_9, Hanging_init_12, wr_id, ix_id, okx, if_pos, if_neg, Int.toNat_of_nonneg, bak_v, bak_n, wr_b01, wr_bt, b01_or, b01_0, b01_1, lc_lt0, lc_gt0, lc_eq0, wl_wr, wr_wr, wl_id, true_and, and_true, true_or, or_true, not_true_eq_false, not_false_eq_true, nc0, nc1, nc2, nc3, nc4, nc5, nc6, nc7, nc8, nc9, nc10, nc11, nc12, nc13, nc14, nc15, nc16, nc17, nc18, nc19, nc20, nc21, nc22, nc23, nc35, nc47, nc59, nc60, nc61, nc73, nc74, nc214, nc215, nc1115, nc2230, nc3345, if_true, if_false, Int.reduceToNat, l0, l1, k1, sK_pR, sK_pI]
    simp (disch := omega) only [ee, Hanging_init_16, wr_id, ix_id, okx, if_pos, if_neg, Int.toNat_of_nonneg, bak_v, bak_n, wr_b01, wr_bt, b01_or, b01_0, b01_1, lc_lt0, lc_gt0, lc_eq0, wl_wr, wr_wr, wl_id, true_and, and_true, true_or, or_true, not_true_eq_false, not_false_eq_true, nc0, nc1, nc2, nc3, nc4, nc5, nc6, nc7, nc8, nc9, nc10, nc11, nc12, nc13, nc14, nc15, nc16, nc17, nc18, nc19, nc20, nc21, nc22, nc23, nc35, nc47, nc59, nc60, nc61, nc73, nc74, nc214, nc215, nc1115, nc2230, nc3345, if_true, if_false, Int.reduceToNat]
  · unfold okI at oi
    obtain ⟨v1, v2, v3, v4⟩ := hv
    have : a = 58 ∨ a = 59 := by omega
    rcases this with e | e <;> subst e
    · have : k = 1 ∨ k = 2 := by omega
      rcases this with e | e <;> subst e
      · exact v2.trans rfl
      · exact v3.trans rfl
    · have k12 : k < 12 := by omega
      refine (v4 k k12).trans ?_
      simp (disch := omega) only [plS, if_neg, if_pos]
      simp [IT, k12]
  · unfold okY at oy; omega
  · rw [f.R, cR, (b.2 a (by omega) k).2.2]
    have : a = 58 ∨ a = 59 := by omega
    rcases this with e | e <;> subst e <;> simp [RT] <;> (try (repeat' split)) <;> first | rfl | omega
  · obtain ⟨q1, q2, q3⟩ := f.uc (c := 58) (fun a k z => by omega) a ha k
    rw [q1, q2, q3, cI, cL, cR, if_neg (by omega)]
    exact ⟨rfl, rfl, rfl⟩
theorem i_his {L d : Nat} : Ct L (d + 1) m_History_init 30 32 := by
  intro h b
  have l0 := b.l (by omega)
  have b0 := b.up (show 30 ≤ 31 by omega)
  obtain ⟨c1, e1⟩ := b0.nw (kd := 20) (m := 140) (by omega) (by omega) rfl
  have k1 : sK (nwH h 20 140) 30 = 1 := (c1.k 30).trans rfl
  have b1 := c1.pR (a := 30) (k := 0) (v := 31) (by omega)
  have l1 := b1.l (by omega)
  have b2 := b1.pI (a := 30) (k := 1) (v := 0) (by omega)
  have l2 := b2.l (by omega)
  have b3 := b2.pI (a := 30) (k := 2) (v := 0) (by omega)
  have l3 := b3.l (by omega)
  have cI : ∀ a k, hI (pI (pI (pR (nwH h 20 140) 30 0 31) 30 1 (0)) 30 2 (0)) a k = if a = 30 then (if k = 2 then 0 else if k = 1 then 0 else hI h a k) else hI h a k := fun a k => by
    simp only [hI_pI, hI_pR, (e1 a k).1]
    by_cases q : a = 30 <;> simp [q]
  have cL : ∀ a k, hL (pI (pI (pR (nwH h 20 140) 30 0 31) 30 1 (0)) 30 2 (0)) a k = hL h a k := fun a k => by
    simp only [hL_pI, hL_pR, (e1 a k).2.1]
  have cR : ∀ a k, hR (pI (pI (pR (nwH h 20 140) 30 0 31) 30 1 (0)) 30 2 (0)) a k = if a = 30 then (if k = 0 then 31 else hR h a k) else hR h a k := fun a k => by
    simp only [hR_pI, hR_pR, (e1 a k).2.2]
    by_cases q : a = 30 <;> simp [q]
  refine ⟨pI (pI (pR (nwH h 20 140) 30 0 31) 30 1 (0)) 30 2 (0), ?_, b3.up (by omega), fun a a0 a1 k => ?_, fun a ha k => ?_⟩
  · show EX (d+0) m_History_init 0 [(0, .inr (.inr (30)))] [] (h) = _
    simp (disch := omega) only [History_init_0, History_init_10, History_init_13, History_init_18, History_init_23, wr_id, ix_id, okx, if_pos, if_neg, Int.toNat_of_nonneg, bak_v, bak_n, wr_b01, wr_bt, b01_or, b01_0, b01_1, lc_lt0, lc_gt0, lc_eq0, wl_wr, wr_wr, wl_id, true_and, and_true, true_or, or_true, not_true_eq_false, not_false_eq_true, nc0, nc1, nc2, nc3, nc4, nc5, nc6, nc7, nc8, nc9, nc10, nc11, nc12, nc13, nc14, nc15, nc16, nc17, nc18, nc19, nc20, nc21, nc22, nc23, nc35, nc47, nc59, nc60, nc61, nc73, nc74, nc214, nc215, nc1115, nc2230, nc3345, if_true, if_false, Int.reduceToNat, l0, l1, l2, l3, k1, sK_pR, sK_pI]
  · obtain ⟨w1, w2, w3⟩ := b.2 a (by omega) k
    rw [cI, cL, cR, w1, w2, w3]
    refine ⟨fun _ => ?_, fun _ => rfl, ?_⟩
    · have : a = 30 ∨ a = 31 := by omega
      rcases this with e | e <;> subst e <;> simp [IT] <;> (try (repeat' split)) <;> first | rfl | omega
    · have : a = 30 ∨ a = 31 := by omega
      rcases this with e | e <;> subst e <;> simp [RT] <;> (try (repeat' split)) <;> first | rfl | omega
  · rw [cI, cL, cR, if_neg (by omega), if_neg (by omega)]
    exact ⟨rfl, rfl, rfl⟩
theorem i_tray33 {L d : Nat} : Ct L (d + 1) m_Tray_init 33 35 := by
  intro h b
  have l0 := b.l (by omega)
  have b0 := b.up (show 33 ≤ 34 by omega)
  obtain ⟨c1, e1⟩ := b0.nw (kd := 21) (m := 40) (by omega) (by omega) rfl
  have k1 : sK (nwH h 21 40) 33 = 7 := (c1.k 33).trans rfl
  have b1 := c1.pR (a := 33) (k := 0) (v := 34) (by omega)
  have l1 := b1.l (by omega)
  have b2 := b1.pI (a := 33) (k := 1) (v := 0) (by omega)
  have l2 := b2.l (by omega)
  have b3 := b2.pI (a := 33) (k := 2) (v := -1) (by omega)
  have l3 := b3.l (by omega)
  have cI : ∀ a k, hI (pI (pI (pR (nwH h 21 40) 33 0 34) 33 1 (0)) 33 2 (-1)) a k = if a = 33 then (if k = 2 then -1 else if k = 1 then 0 else hI h a k) else hI h a k := fun a k => by
    simp only [hI_pI, hI_pR, (e1 a k).1]
    by_cases q : a = 33 <;> simp [q]
  have cL : ∀ a k, hL (pI (pI (pR (nwH h 21 40) 33 0 34) 33 1 (0)) 33 2 (-1)) a k = hL h a k := fun a k => by
    simp only [hL_pI, hL_pR, (e1 a k).2.1]
  have cR : ∀ a k, hR (pI (pI (pR (nwH h 21 40) 33 0 34) 33 1 (0)) 33 2 (-1)) a k = if a = 33 then (if k = 0 then 34 else hR h a k) else hR h a k := fun a k => by
    simp only [hR_pI, hR_pR, (e1 a k).2.2]
    by_cases q : a = 33 <;> simp [q]
  refine ⟨pI (pI (pR (nwH h 21 40) 33 0 34) 33 1 (0)) 33 2 (-1), ?_, b3.up (by omega), fun a a0 a1 k => ?_, fun a ha k => ?_⟩
  · show EX (d+0) m_Tray_init 0 [(0, .inr (.inr (33)))] [] (h) = _
    simp (disch := omega) only [Tray_init_0, Tray_init_9, Tray_init_12, Tray_init_17, Tray_init_22, wr_id, ix_id, okx, if_pos, if_neg, Int.toNat_of_nonneg, bak_v, bak_n, wr_b01, wr_bt, b01_or, b01_0, b01_1, lc_lt0, lc_gt0, lc_eq0, wl_wr, wr_wr, wl_id, true_and, and_true, true_or, or_true, not_true_eq_false, not_false_eq_true, nc0, nc1, nc2, nc3, nc4, nc5, nc6, nc7, nc8, nc9, nc10, nc11, nc12, nc13, nc14, nc15, nc16, nc17, nc18, nc19, nc20, nc21, nc22, nc23, nc35, nc47, nc59, nc60, nc61, nc73, nc74, nc214, nc215, nc1115, nc2230, nc3345, if_true, if_false, Int.reduceToNat, l0, l1, l2, l3, k1, sK_pR, sK_pI]
  · obtain ⟨w1, w2, w3⟩ := b.2 a (by omega) k
    rw [cI, cL, cR, w1, w2, w3]
    refine ⟨fun _ => ?_, fun _ => rfl, ?_⟩
    · have : a = 33 ∨ a = 34 := by omega
      rcases this with e | e <;> subst e <;> simp [IT] <;> (try (repeat' split)) <;> first | rfl | omega
    · have : a = 33 ∨ a = 34 := by omega
      rcases this with e | e <;> subst e <;> simp [RT] <;> (try (repeat' split)) <;> first | rfl | omega
  · rw [cI, cL, cR, if_neg (by omega), if_neg (by omega)]
    exact ⟨rfl, rfl, rfl⟩
theorem i_tray35 {L d : Nat} : Ct L (d + 1) m_Tray_init 35 37 := by
  intro h b
  have l0 := b.l (by omega)
  have b0 := b.up (show 35 ≤ 36 by omega)
  obtain ⟨c1, e1⟩ := b0.nw (kd := 21) (m := 40) (by omega) (by omega) rfl
  have k1 : sK (nwH h 21 40) 35 = 7 := (c1.k 35).trans rfl
  have b1 := c1.pR (a := 35) (k := 0) (v := 36) (by omega)
  have l1 := b1.l (by omega)
  have b2 := b1.pI (a := 35) (k := 1) (v := 0) (by omega)
  have l2 := b2.l (by omega)
  have b3 := b2.pI (a := 35) (k := 2) (v := -1) (by omega)
  have l3 := b3.l (by omega)
  have cI : ∀ a k, hI (pI (pI (pR (nwH h 21 40) 35 0 36) 35 1 (0)) 35 2 (-1)) a k = if a = 35 then (if k = 2 then -1 else if k = 1 then 0 else hI h a k) else hI h a k := fun a k => by
    simp only [hI_pI, hI_pR, (e1 a k).1]
    by_cases q : a = 35 <;> simp [q]
  have cL : ∀ a k, hL (pI (pI (pR (nwH h 21 40) 35 0 36) 35 1 (0)) 35 2 (-1)) a k = hL h a k := fun a k => by
    simp only [hL_pI, hL_pR, (e1 a k).2.1]
  have cR : ∀ a k, hR (pI (pI (pR (nwH h 21 40) 35 0 36) 35 1 (0)) 35 2 (-1)) a k = if a = 35 then (if k = 0 then 36 else hR h a k) else hR h a k := fun a k => by
    simp only [hR_pI, hR_pR, (e1 a k).2.2]
    by_cases q : a = 35 <;> simp [q]
  refine ⟨pI (pI (pR (nwH h 21 40) 35 0 36) 35 1 (0)) 35 2 (-1), ?_, b3.up (by omega), fun a a0 a1 k => ?_, fun a ha k => ?_⟩
  · show EX (d+0) m_Tray_init 0 [(0, .inr (.inr (35)))] [] (h) = _
    simp (disch := omega) only [Tray_init_0, Tray_init_9, Tray_init_12, Tray_init_17, Tray_init_22, wr_id, ix_id, okx, if_pos, if_neg, Int.toNat_of_nonneg, bak_v, bak_n, wr_b01, wr_bt, b01_or, b01_0, b01_1, lc_lt0, lc_gt0, lc_eq0, wl_wr, wr_wr, wl_id, true_and, and_true, true_or, or_true, not_true_eq_false, not_false_eq_true, nc0, nc1, nc2, nc3, nc4, nc5, nc6, nc7, nc8, nc9, nc10, nc11, nc12, nc13, nc14, nc15, nc16, nc17, nc18, nc19, nc20, nc21, nc22, nc23, nc35, nc47, nc59, nc60, nc61, nc73, nc74, nc214, nc215, nc1115, nc2230, nc3345, if_true, if_false, Int.reduceToNat, l0, l1, l2, l3, k1, sK_pR, sK_pI]
  · obtain ⟨w1, w2, w3⟩ := b.2 a (by omega) k
    rw [cI, cL, cR, w1, w2, w3]
    refine ⟨fun _ => ?_, fun _ => rfl, ?_⟩
    · have : a = 35 ∨ a = 36 := by omega
      rcases this with e | e <;> subst e <;> simp [IT] <;> (try (repeat' split)) <;> first | rfl | omega
    · have : a = 35 ∨ a = 36 := by omega
      rcases this with e | e <;> subst e <;> simp [RT] <;> (try (repeat' split)) <;> first | rfl | omega
  · rw [cI, cL, cR, if_neg (by omega), if_neg (by omega)]
    exact ⟨rfl, rfl, rfl⟩
theorem i_tray37 {L d : Nat} : Ct L (d + 1) m_Tray_init 37 39 := by
  intro h b
  have l0 := b.l (by omega)
  have b0 := b.up (show 37 ≤ 38 by omega)
  obtain ⟨c1, e1⟩ := b0.nw (kd := 21) (m := 40) (by omega) (by omega) rfl
  have k1 : sK (nwH h 21 40) 37 = 7 := (c1.k 37).trans rfl
  have b1 := c1.pR (a := 37) (k := 0) (v := 38) (by omega)
  have l1 := b1.l (by omega)
  have b2 := b1.pI (a := 37) (k := 1) (v := 0) (by omega)
  have l2 := b2.l (by omega)
  have b3 := b2.pI (a := 37) (k := 2) (v := -1) (by omega)
  have l3 := b3.l (by omega)
  have cI : ∀ a k, hI (pI (pI (pR (nwH h 21 40) 37 0 38) 37 1 (0)) 37 2 (-1)) a k = if a = 37 then (if k = 2 then -1 else if k = 1 then 0 else hI h a k) else hI h a k := fun a k => by
    simp only [hI_pI, hI_pR, (e1 a k).1]
    by_cases q : a = 37 <;> simp [q]
  have cL : ∀ a k, hL (pI (pI (pR (nwH h 21 40) 37 0 38) 37 1 (0)) 37 2 (-1)) a k = hL h a k := fun a k => by
    simp only [hL_pI, hL_pR, (e1 a k).2.1]
  have cR : ∀ a k, hR (pI (pI (pR (nwH h 21 40) 37 0 38) 37 1 (0)) 37 2 (-1)) a k = if a = 37 then (if k = 0 then 38 else hR h a k) else hR h a k := fun a k => by
    simp only [hR_pI, hR_pR, (e1 a k).2.2]
    by_cases q : a = 37 <;> simp [q]
  refine ⟨pI (pI (pR (nwH h 21 40) 37 0 38) 37 1 (0)) 37 2 (-1), ?_, b3.up (by omega), fun a a0 a1 k => ?_, fun a ha k => ?_⟩
  · show EX (d+0) m_Tray_init 0 [(0, .inr (.inr (37)))] [] (h) = _
    simp (disch := omega) only [Tray_init_0, Tray_init_9, Tray_init_12, Tray_init_17, Tray_init_22, wr_id, ix_id, okx, if_pos, if_neg, Int.toNat_of_nonneg, bak_v, bak_n, wr_b01, wr_bt, b01_or, b01_0, b01_1, lc_lt0, lc_gt0, lc_eq0, wl_wr, wr_wr, wl_id, true_and, and_true, true_or, or_true, not_true_eq_false, not_false_eq_true, nc0, nc1, nc2, nc3, nc4, nc5, nc6, nc7, nc8, nc9, nc10, nc11, nc12, nc13, nc14, nc15, nc16, nc17, nc18, nc19, nc20, nc21, nc22, nc23, nc35, nc47, nc59, nc60, nc61, nc73, nc74, nc214, nc215, nc1115, nc2230, nc3345, if_true, if_false, Int.reduceToNat, l0, l1, l2, l3, k1, sK_pR, sK_pI]
  · obtain ⟨w1, w2, w3⟩ := b.2 a (by omega) k
    rw [cI, cL, cR, w1, w2, w3]
    refine ⟨fun _ => ?_, fun _ => rfl, ?_⟩
    · have : a = 37 ∨ a = 38 := by omega
      rcases this with e | e <;> subst e <;> simp [IT] <;> (try (repeat' split)) <;> first | rfl | omega
    · have : a = 37 ∨ a = 38 := by omega
      rcases this with e | e <;> subst e <;> simp [RT] <;> (try (repeat' split)) <;> first | rfl | omega
  · rw [cI, cL, cR, if_neg (by omega), if_neg (by omega)]
    exact ⟨rfl, rfl, rfl⟩
theorem i_tray39 {L d : Nat} : Ct L (d + 1) m_Tray_init 39 41 := by
  intro h b
  have l0 := b.l (by omega)
  have b0 := b.up (show 39 ≤ 40 by omega)
  obtain ⟨c1, e1⟩ := b0.nw (kd := 21) (m := 40) (by omega) (by omega) rfl
  have k1 : sK (nwH h 21 40) 39 = 7 := (c1.k 39).trans rfl
  have b1 := c1.pR (a := 39) (k := 0) (v := 40) (by omega)
  have l1 := b1.l (by omega)
  have b2 := b1.pI (a := 39) (k := 1) (v := 0) (by omega)
  have l2 := b2.l (by omega)
  have b3 := b2.pI (a := 39) (k := 2) (v := -1) (by omega)
  have l3 := b3.l (by omega)
  have cI : ∀ a k, hI (pI (pI (pR (nwH h 21 40) 39 0 40) 39 1 (0)) 39 2 (-1)) a k = if a = 39 then (if k = 2 then -1 else if k = 1 then 0 else hI h a k) else hI h a k := fun a k => by
    simp only [hI_pI, hI_pR, (e1 a k).1]
    by_cases q : a = 39 <;> simp [q]
  have cL : ∀ a k, hL (pI (pI (pR (nwH h 21 40) 39 0 40) 39 1 (0)) 39 2 (-1)) a k = hL h a k := fun a k => by
    simp only [hL_pI, hL_pR, (e1 a k).2.1]
  have cR : ∀ a k, hR (pI (pI (pR (nwH h 21 40) 39 0 40) 39 1 (0)) 39 2 (-1)) a k = if a = 39 then (if k = 0 then 40 else hR h a k) else hR h a k := fun a k => by
    simp only [hR_pI, hR_pR, (e1 a k).2.2]
    by_cases q : a = 39 <;> simp [q]
  refine ⟨pI (pI (pR (nwH h 21 40) 39 0 40) 39 1 (0)) 39 2 (-1), ?_, b3.up (by omega), fun a a0 a1 k => ?_, fun a ha k => ?_⟩
  · show EX (d+0) m_Tray_init 0 [(0, .inr (.inr (39)))] [] (h) = _
    simp (disch := omega) only [Tray_init_0, Tray_init_9, Tray_init_12, Tray_init_17, Tray_init_22, wr_id, ix_id, okx, if_pos, if_neg, Int.toNat_of_nonneg, bak_v, bak_n, wr_b01, wr_bt, b01_or, b01_0, b01_1, lc_lt0, lc_gt0, lc_eq0, wl_wr, wr_wr, wl_id, true_and, and_true, true_or, or_true, not_true_eq_false, not_false_eq_true, nc0, nc1, nc2, nc3, nc4, nc5, nc6, nc7, nc8, nc9, nc10, nc11, nc12, nc13, nc14, nc15, nc16, nc17, nc18, nc19, nc20, nc21, nc22, nc23, nc35, nc47, nc59, nc60, nc61, nc73, nc74, nc214, nc215, nc1115, nc2230, nc3345, if_true, if_false, Int.reduceToNat, l0, l1, l2, l3, k1, sK_pR, sK_pI]
  · obtain ⟨w1, w2, w3⟩ := b.2 a (by omega) k
    rw [cI, cL, cR, w1, w2, w3]
    refine ⟨fun _ => ?_, fun _ => rfl, ?_⟩
    · have : a = 39 ∨ a = 40 := by omega
      rcases this with e | e <;> subst e <;> simp [IT] <;> (try (repeat' split)) <;> first | rfl | omega
    · have : a = 39 ∨ a = 40 := by omega
      rcases this with e | e <;> subst e <;> simp [RT] <;> (try (repeat' split)) <;> first | rfl | omega
  · rw [cI, cL, cR, if_neg (by omega), if_neg (by omega)]
    exact ⟨rfl, rfl, rfl⟩
theorem i_joi {L d : Nat} : Ct L (d + 1) m_Joinings_init 60 64 := by
  intro h b
  have l0 := b.l (by omega)
  have b0 := b.up (show 60 ≤ 61 by omega)
  obtain ⟨c1, e1⟩ := b0.nw (kd := 20) (m := 1728) (by omega) (by omega) rfl
  have k1 : sK (nwH h 20 1728) 60 = 2 := (c1.k 60).trans rfl
  have b1 := c1.pR (a := 60) (k := 0) (v := 61) (by omega)
  have l1 := b1.l (by omega)
  obtain ⟨c2, e2⟩ := b1.nw (kd := 20) (m := 13) (by omega) (by omega) rfl
  have k2 : sK (nwH (pR (nwH h 20 1728) 60 0 61) 20 13) 60 = 2 := (c2.k 60).trans rfl
  have b2 := c2.pR (a := 60) (k := 1) (v := 62) (by omega)
  have l2 := b2.l (by omega)
  obtain ⟨c3, e3⟩ := b2.nw (kd := 20) (m := 12) (by omega) (by omega) rfl
  have k3 : sK (nwH (pR (nwH (pR (nwH h 20 1728) 60 0 61) 20 13) 60 1 62) 20 12) 60 = 2 := (c3.k 60).trans rfl
  have b3 := c3.pR (a := 60) (k := 4) (v := 63) (by omega)
  have l3 := b3.l (by omega)
  have b4 := b3.pI (a := 60) (k := 2) (v := 0) (by omega)
  have l4 := b4.l (by omega)
  have b5 := b4.pI (a := 60) (k := 3) (v := 0) (by omega)
  have l5 := b5.l (by omega)
  have b6 := b5.pI (a := 60) (k := 5) (v := 0) (by omega)
  have l6 := b6.l (by omega)
  have b7 := b6.pI (a := 60) (k := 6) (v := 0) (by omega)
  have l7 := b7.l (by omega)
  have b8 := b7.pI (a := 60) (k := 7) (v := 0) (by omega)
  have l8 := b8.l (by omega)
  have cI : ∀ a k, hI (pI (pI (pI (pI (pI (pR (nwH (pR (nwH (pR (nwH h 20 1728) 60 0 61) 20 13) 60 1 62) 20 12) 60 4 63) 60 2 (0)) 60 3 (0)) 60 5 (0)) 60 6 (0)) 60 7 (0)) a k = if a = 60 then (if k = 7 then 0 else if k = 6 then 0 else if k = 5 then 0 else if k = 3 then 0 else if k = 2 then 0 else hI h a k) else hI h a k := fun a k => by
    simp only [hI_pI, hI_pR, (e1 a k).1, (e2 a k).1, (e3 a k).1]
    by_cases q : a = 60 <;> simp [q]
  have cL : ∀ a k, hL (pI (pI (pI (pI (pI (pR (nwH (pR (nwH (pR (nwH h 20 1728) 60 0 61) 20 13) 60 1 62) 20 12) 60 4 63) 60 2 (0)) 60 3 (0)) 60 5 (0)) 60 6 (0)) 60 7 (0)) a k = hL h a k := fun a k => by
    simp only [hL_pI, hL_pR, (e1 a k).2.1, (e2 a k).2.1, (e3 a k).2.1]
  have cR : ∀ a k, hR (pI (pI (pI (pI (pI (pR (nwH (pR (nwH (pR (nwH h 20 1728) 60 0 61) 20 13) 60 1 62) 20 12) 60 4 63) 60 2 (0)) 60 3 (0)) 60 5 (0)) 60 6 (0)) 60 7 (0)) a k = if a = 60 then (if k = 4 then 63 else if k = 1 then 62 else if k = 0 then 61 else hR h a k) else hR h a k := fun a k => by
    simp only [hR_pI, hR_pR, (e1 a k).2.2, (e2 a k).2.2, (e3 a k).2.2]
    by_cases q : a = 60 <;> simp [q]
  refine ⟨pI (pI (pI (pI (pI (pR (nwH (pR (nwH (pR (nwH h 20 1728) 60 0 61) 20 13) 60 1 62) 20 12) 60 4 63) 60 2 (0)) 60 3 (0)) 60 5 (0)) 60 6 (0)) 60 7 (0), ?_, b8.up (by omega), fun a a0 a1 k => ?_, fun a ha k => ?_⟩
  · show EX (d+0) m_Joinings_init 0 [(0, .inr (.inr (60)))] [] (h) = _
    simp (disch := omega) only [Joinings_init_0, Joinings_init_10, Joinings_init_13, Joinings_init_18, Joinings_init_21, Joinings_init_26, Joinings_init_29, Joinings_init_34, Joinings_init_39, Joinings_init_44, Joinings_init_49, Joinings_init_54, wr_id, ix_id, okx, if_pos, if_neg, Int.toNat_of_nonneg, bak_v, bak_n, wr_b01, wr_bt, b01_or, b01_0, b01_1, lc_lt0, lc_gt0, lc_eq0, wl_wr, wr_wr, wl_id, true_and, and_true, true_or, or_true, not_true_eq_false, not_false_eq_true, nc0, nc1, nc2, nc3, nc4, nc5, nc6, nc7, nc8, nc9, nc10, nc11, nc12, nc13, nc14, nc15, nc16, nc17, nc18, nc19, nc20, nc21, nc22, nc23, nc35, nc47, nc59, nc60, nc61, nc73, nc74, nc214, nc215, nc1115, nc2230, nc3345, if_true, if_false, Int.reduceToNat, l0, l1, l2, l3, l4, l5, l6, l7, l8, k1, k2, k3, sK_pR, sK_pI]
  · obtain ⟨w1, w2, w3⟩ := b.2 a (by omega) k
    rw [cI, cL, cR, w1, w2, w3]
    refine ⟨fun _ => ?_, fun _ => rfl, ?_⟩
    · have : a = 60 ∨ a = 61 ∨ a = 62 ∨ a = 63 := by omega
      rcases this with e | e | e | e <;> subst e <;> simp [IT] <;> (try (repeat' split)) <;> first | rfl | omega
    · have : a = 60 ∨ a = 61 ∨ a = 62 ∨ a = 63 := by omega
      rcases this with e | e | e | e <;> subst e <;> simp [RT] <;> (try (repeat' split)) <;> first | rfl | omega
  · rw [cI, cL, cR, if_neg (by omega), if_neg (by omega)]
    exact ⟨rfl, rfl, rfl⟩
theorem i_men {L d : Nat} : Ct L (d + 1) m_Mender_init 64 68 := by
  intro h b
  have l0 := b.l (by omega)
  have b0 := b.up (show 64 ≤ 65 by omega)
  obtain ⟨c1, e1⟩ := b0.nw (kd := 20) (m := 12) (by omega) (by omega) rfl
  have k1 : sK (nwH h 20 12) 64 = 4 := (c1.k 64).trans rfl
  have b1 := c1.pR (a := 64) (k := 0) (v := 65) (by omega)
  have l1 := b1.l (by omega)
  have b2 := b1.pI (a := 64) (k := 1) (v := 0) (by omega)
  have l2 := b2.l (by omega)
  have b3 := b2.pI (a := 64) (k := 2) (v := 0) (by omega)
  have l3 := b3.l (by omega)
  obtain ⟨c4, e4⟩ := b3.nw (kd := 20) (m := 144) (by omega) (by omega) rfl
  have k4 : sK (nwH (pI (pI (pR (nwH h 20 12) 64 0 65) 64 1 (0)) 64 2 (0)) 20 144) 64 = 4 := (c4.k 64).trans rfl
  have b4 := c4.pR (a := 64) (k := 3) (v := 66) (by omega)
  have l4 := b4.l (by omega)
  obtain ⟨c5, e5⟩ := b4.nw (kd := 20) (m := 13) (by omega) (by omega) rfl
  have k5 : sK (nwH (pR (nwH (pI (pI (pR (nwH h 20 12) 64 0 65) 64 1 (0)) 64 2 (0)) 20 144) 64 3 66) 20 13) 64 = 4 := (c5.k 64).trans rfl
  have b5 := c5.pR (a := 64) (k := 4) (v := 67) (by omega)
  have l5 := b5.l (by omega)
  have cI : ∀ a k, hI (pR (nwH (pR (nwH (pI (pI (pR (nwH h 20 12) 64 0 65) 64 1 (0)) 64 2 (0)) 20 144) 64 3 66) 20 13) 64 4 67) a k = if a = 64 then (if k = 2 then 0 else if k = 1 then 0 else hI h a k) else hI h a k := fun a k => by
    simp only [hI_pI, hI_pR, (e1 a k).1, (e4 a k).1, (e5 a k).1]
    by_cases q : a = 64 <;> simp [q]
  have cL : ∀ a k, hL (pR (nwH (pR (nwH (pI (pI (pR (nwH h 20 12) 64 0 65) 64 1 (0)) 64 2 (0)) 20 144) 64 3 66) 20 13) 64 4 67) a k = hL h a k := fun a k => by
    simp only [hL_pI, hL_pR, (e1 a k).2.1, (e4 a k).2.1, (e5 a k).2.1]
  have cR : ∀ a k, hR (pR (nwH (pR (nwH (pI (pI (pR (nwH h 20 12) 64 0 65) 64 1 (0)) 64 2 (0)) 20 144) 64 3 66) 20 13) 64 4 67) a k = if a = 64 then (if k = 4 then 67 else if k = 3 then 66 else if k = 0 then 65 else hR h a k) else hR h a k := fun a k => by
    simp only [hR_pI, hR_pR, (e1 a k).2.2, (e4 a k).2.2, (e5 a k).2.2]
    by_cases q : a = 64 <;> simp [q]
  refine ⟨pR (nwH (pR (nwH (pI (pI (pR (nwH h 20 12) 64 0 65) 64 1 (0)) 64 2 (0)) 20 144) 64 3 66) 20 13) 64 4 67, ?_, b5.up (by omega), fun a a0 a1 k => ?_, fun a ha k => ?_⟩
  · show EX (d+0) m_Mender_init 0 [(0, .inr (.inr (64)))] [] (h) = _
    simp (disch := omega) only [Mender_init_0, Mender_init_9, Mender_init_12, Mender_init_17, Mender_init_22, Mender_init_28, Mender_init_31, Mender_init_36, Mender_init_39, wr_id, ix_id, okx, if_pos, if_neg, Int.toNat_of_nonneg, bak_v, bak_n, wr_b01, wr_bt, b01_or, b01_0, b01_1, lc_lt0, lc_gt0, lc_eq0, wl_wr, wr_wr, wl_id, true_and, and_true, true_or, or_true, not_true_eq_false, not_false_eq_true, nc0, nc1, nc2, nc3, nc4, nc5, nc6, nc7, nc8, nc9, nc10, nc11, nc12, nc13, nc14, nc15, nc16, nc17, nc18, nc19, nc20, nc21, nc22, nc23, nc35, nc47, nc59, nc60, nc61, nc73, nc74, nc214, nc215, nc1115, nc2230, nc3345, if_true, if_false, Int.reduceToNat, l0, l1, l2, l3, l4, l5, k1, k4, k5, sK_pR, sK_pI]
  · obtain ⟨w1, w2, w3⟩ := b.2 a (by omega) k
    rw [cI, cL, cR, w1, w2, w3]
    refine ⟨fun _ => ?_, fun _ => rfl, ?_⟩
    · have : a = 64 ∨ a = 65 ∨ a = 66 ∨ a = 67 := by omega
      rcases this with e | e | e | e <;> subst e <;> simp [IT] <;> (try (repeat' split)) <;> first | rfl | omega
    · have : a = 64 ∨ a = 65 ∨ a = 66 ∨ a = 67 := by omega
      rcases this with e | e | e | e <;> subst e <;> simp [RT] <;> (try (repeat' split)) <;> first | rfl | omega
  · rw [cI, cL, cR, if_neg (by omega), if_neg (by omega)]
    exact ⟨rfl, rfl, rfl⟩
theorem i_wat {L d : Nat} : Ct L (d + 1) m_Watcher_init 68 70 := by
  intro h b
  have l0 := b.l (by omega)
  have b0 := b.up (show 68 ≤ 69 by omega)
  obtain ⟨c1, e1⟩ := b0.nw (kd := 20) (m := 144) (by omega) (by omega) rfl
  have k1 : sK (nwH h 20 144) 68 = 8 := (c1.k 68).trans rfl
  have b1 := c1.pR (a := 68) (k := 0) (v := 69) (by omega)
  have l1 := b1.l (by omega)
  have b2 := b1.pI (a := 68) (k := 1) (v := 0) (by omega)
  have l2 := b2.l (by omega)
  have b3 := b2.pI (a := 68) (k := 2) (v := 0) (by omega)
  have l3 := b3.l (by omega)
  have cI : ∀ a k, hI (pI (pI (pR (nwH h 20 144) 68 0 69) 68 1 (0)) 68 2 (0)) a k = if a = 68 then (if k = 2 then 0 else if k = 1 then 0 else hI h a k) else hI h a k := fun a k => by
    simp only [hI_pI, hI_pR, (e1 a k).1]
    by_cases q : a = 68 <;> simp [q]
  have cL : ∀ a k, hL (pI (pI (pR (nwH h 20 144) 68 0 69) 68 1 (0)) 68 2 (0)) a k = hL h a k := fun a k => by
    simp only [hL_pI, hL_pR, (e1 a k).2.1]
  have cR : ∀ a k, hR (pI (pI (pR (nwH h 20 144) 68 0 69) 68 1 (0)) 68 2 (0)) a k = if a = 68 then (if k = 0 then 69 else hR h a k) else hR h a k := fun a k => by
    simp only [hR_pI, hR_pR, (e1 a k).2.2]
    by_cases q : a = 68 <;> simp [q]
  refine ⟨pI (pI (pR (nwH h 20 144) 68 0 69) 68 1 (0)) 68 2 (0), ?_, b3.up (by omega), fun a a0 a1 k => ?_, fun a ha k => ?_⟩
  · show EX (d+0) m_Watcher_init 0 [(0, .inr (.inr (68)))] [] (h) = _
    simp (disch := omega) only [Watcher_init_0, Watcher_init_10, Watcher_init_13, Watcher_init_18, Watcher_init_23, wr_id, ix_id, okx, if_pos, if_neg, Int.toNat_of_nonneg, bak_v, bak_n, wr_b01, wr_bt, b01_or, b01_0, b01_1, lc_lt0, lc_gt0, lc_eq0, wl_wr, wr_wr, wl_id, true_and, and_true, true_or, or_true, not_true_eq_false, not_false_eq_true, nc0, nc1, nc2, nc3, nc4, nc5, nc6, nc7, nc8, nc9, nc10, nc11, nc12, nc13, nc14, nc15, nc16, nc17, nc18, nc19, nc20, nc21, nc22, nc23, nc35, nc47, nc59, nc60, nc61, nc73, nc74, nc214, nc215, nc1115, nc2230, nc3345, if_true, if_false, Int.reduceToNat, l0, l1, l2, l3, k1, sK_pR, sK_pI]
  · obtain ⟨w1, w2, w3⟩ := b.2 a (by omega) k
    rw [cI, cL, cR, w1, w2, w3]
    refine ⟨fun _ => ?_, fun _ => rfl, ?_⟩
    · have : a = 68 ∨ a = 69 := by omega
      rcases this with e | e <;> subst e <;> simp [IT] <;> (try (repeat' split)) <;> first | rfl | omega
    · have : a = 68 ∨ a = 69 := by omega
      rcases this with e | e <;> subst e <;> simp [RT] <;> (try (repeat' split)) <;> first | rfl | omega
  · rw [cI, cL, cR, if_neg (by omega), if_neg (by omega)]
    exact ⟨rfl, rfl, rfl⟩
