/-! the constructor of HookOver (PRINTED by gen/hookinit.py) -/
def Cl (h : Hp) (X : Nat) (fI : Nat → Int) (fR : Nat → Nat) : Prop := ∀ k, hI h X k = fI k ∧ hL h X k = 0 ∧ hR h X k = fR k
def Sm (h h' : Hp) : Prop := ∀ a k, hI h' a k = hI h a k ∧ hL h' a k = hL h a k ∧ hR h' a k = hR h a k
theorem Cl.sm {h h' : Hp} {X : Nat} {fI : Nat → Int} {fR : Nat → Nat} (c : Cl h X fI fR) (s : Sm h h') : Cl h' X fI fR := fun k => by
  obtain ⟨q1, q2, q3⟩ := s X k
  rw [q1, q2, q3]; exact c k
theorem Cl.uc {h h' : Hp} {X n : Nat} {fI : Nat → Int} {fR : Nat → Nat} (c : Cl h X fI fR) (s : Uc n h h') (hX : X < n) : Cl h' X fI fR := fun k => by
  obtain ⟨q1, q2, q3⟩ := s X hX k
  rw [q1, q2, q3]; exact c k
theorem Cl.r {h : Hp} {X j v : Nat} {fI : Nat → Int} {fR : Nat → Nat} (c : Cl h X fI fR) : Cl (pR h X j v) X fI (fun k => if k = j then v else fR k) := fun k => by
  refine ⟨(c k).1, (c k).2.1, ?_⟩
  show hR (pR h X j v) X k = if k = j then v else fR k
  rw [hR_pR]
  by_cases q : k = j
  · rw [if_pos ⟨rfl, q⟩, if_pos q]
  · rw [if_neg (fun z => q z.2), if_neg q]; exact (c k).2.2
theorem Cl.ro {h : Hp} {X Y j v : Nat} {fI : Nat → Int} {fR : Nat → Nat} (c : Cl h X fI fR) (ne : ¬ X = Y) : Cl (pR h Y j v) X fI fR := fun k => ⟨(c k).1, (c k).2.1, by rw [hR_pR, if_neg (fun z => ne z.1)]; exact (c k).2.2⟩
theorem Cl.i {h : Hp} {X j : Nat} {v : Int} {fI : Nat → Int} {fR : Nat → Nat} (c : Cl h X fI fR) : Cl (pI h X j v) X (fun k => if k = j then v else fI k) fR := fun k => by
  refine ⟨?_, (c k).2.1, (c k).2.2⟩
  show hI (pI h X j v) X k = if k = j then v else fI k
  rw [hI_pI]
  by_cases q : k = j
  · rw [if_pos ⟨rfl, q⟩, if_pos q]
  · rw [if_neg (fun z => q z.2), if_neg q]; exact (c k).1
theorem Cl.io {h : Hp} {X Y j : Nat} {v : Int} {fI : Nat → Int} {fR : Nat → Nat} (c : Cl h X fI fR) (ne : ¬ X = Y) : Cl (pI h Y j v) X fI fR := fun k => ⟨by rw [hI_pI, if_neg (fun z => ne z.1)]; exact (c k).1, (c k).2.1, (c k).2.2⟩
theorem Dn.sm {h h' : Hp} {lo hi : Nat} (d : Dn h lo hi) (s : Sm h h') : Dn h' lo hi := fun a a0 a1 k => by
  obtain ⟨q1, q2, q3⟩ := s a k
  rw [q1, q2, q3]; exact d a a0 a1 k
theorem Dn.r {h : Hp} {lo hi Y j v : Nat} (d : Dn h lo hi) (ne : Y < lo ∨ hi ≤ Y) : Dn (pR h Y j v) lo hi := fun a a0 a1 k => ⟨(d a a0 a1 k).1, (d a a0 a1 k).2.1, by rw [hR_pR, if_neg (by omega)]; exact (d a a0 a1 k).2.2⟩
theorem Dn.i {h : Hp} {lo hi Y j : Nat} {v : Int} (d : Dn h lo hi) (ne : Y < lo ∨ hi ≤ Y) : Dn (pI h Y j v) lo hi := fun a a0 a1 k => ⟨fun z => by rw [hI_pI, if_neg (by omega)]; exact (d a a0 a1 k).1 z, (d a a0 a1 k).2.1, (d a a0 a1 k).2.2⟩
theorem Dn.cl {h : Hp} {X : Nat} {fI : Nat → Int} {fR : Nat → Nat} (c : Cl h X fI fR) (e1 : ∀ k, fI k = IT X k) (e2 : ∀ k, fR k = RT X k) : Dn h X (X + 1) := fun a a0 a1 k => by
  have e : a = X := by omega
  subst e
  obtain ⟨q1, q2, q3⟩ := c k
  exact ⟨fun _ => q1.trans (e1 k), fun _ => q2, q3.trans (e2 k)⟩
theorem Bd.cl {L : Nat} {h : Hp} {n z X : Nat} (b : Bd L h n z) (hX : z ≤ X) : Cl h X (fun _ => 0) (fun _ => 0) := fun k => b.2 X hX k
theorem i_hook {L d : Nat} {h : Hp} (b : Bd L h 7 6) : ∃ h', cal (d + 4) m_Hook_init [.inr (.inr 6)] h = some (.inl 0, h') ∧ Bd L h' 72 72 ∧ Dn h' 6 72 ∧ Uc 6 h h' := by
  have st0 : cal (d + 4) m_Hook_init [.inr (.inr 6)] h = EX (d + 3) m_Hook_init 0 [(0, .inr (.inr 6))] [] h := rfl
  have q6_0 := b.cl (X := 6) (by omega)
  have b0 := b.up (show 6 ≤ 7 by omega)
  have u0 : Uc 6 h h := Uc.rf
  obtain ⟨h1, hh1⟩ : ∃ x, x = nwH h 22 900 := ⟨_, rfl⟩
  have l0 := b0.l (by omega)
  have k0 : sK h 6 = 10 := (b0.k 6).trans rfl
  obtain ⟨b1, s1⟩ := b0.nw (kd := 22) (m := 900) (by omega) (by omega) rfl
  rw [← hh1] at b1 s1
  have st1 : cal (d + 4) m_Hook_init [.inr (.inr 6)] h = EX (d + 3) m_Hook_init 10 [(0, .inr (.inr 6))] [.inr (.inr 7), .inr (.inr 6)] h1 := by
    rw [st0, hh1]
    simp (disch := omega) only [Hook_init_0, wr_id, ix_id, okx, if_pos, if_neg, Int.toNat_of_nonneg, bak_v, bak_n, wr_b01, wr_bt, b01_or, b01_0, b01_1, lc_lt0, lc_gt0, lc_eq0, wl_wr, wr_wr, wl_id, true_and, and_true, true_or, or_true, not_true_eq_false, not_false_eq_true, nc0, nc1, nc2, nc3, nc4, nc5, nc6, nc7, nc8, nc9, nc10, nc11, nc12, nc13, nc14, nc15, nc16, nc17, nc18, nc19, nc20, nc21, nc22, nc23, nc35, nc47, nc59, nc60, nc61, nc73, nc74, nc214, nc215, nc1115, nc2230, nc3345, if_true, if_false, Int.reduceToNat, l0, k0]
  have q6_1 := q6_0.sm s1
  have u1 : Uc 6 h h1 := u0.tr (fun a _ k => s1 a k)
  clear hh1 l0 k0 s1 b0 st0 u0 q6_0 b
  have q7_1 := b1.cl (X := 7) (by omega)
  replace b1 := b1.up (show 7 ≤ 8 by omega)
  obtain ⟨h2, hh2⟩ : ∃ x, x = pR h1 6 0 7 := ⟨_, rfl⟩
  have b2 := b1.pR (a := 6) (k := 0) (v := 7) (by omega)
  rw [← hh2] at b2
  have k1 : sK h1 6 = 10 := (b1.k 6).trans rfl
  have st2 : cal (d + 4) m_Hook_init [.inr (.inr 6)] h = EX (d + 3) m_Hook_init 13 [(0, .inr (.inr 6))] [] h2 := by
    rw [st1, hh2]
    simp (disch := omega) only [Hook_init_10, wr_id, ix_id, okx, if_pos, if_neg, Int.toNat_of_nonneg, bak_v, bak_n, wr_b01, wr_bt, b01_or, b01_0, b01_1, lc_lt0, lc_gt0, lc_eq0, wl_wr, wr_wr, wl_id, true_and, and_true, true_or, or_true, not_true_eq_false, not_false_eq_true, nc0, nc1, nc2, nc3, nc4, nc5, nc6, nc7, nc8, nc9, nc10, nc11, nc12, nc13, nc14, nc15, nc16, nc17, nc18, nc19, nc20, nc21, nc22, nc23, nc35, nc47, nc59, nc60, nc61, nc73, nc74, nc214, nc215, nc1115, nc2230, nc3345, if_true, if_false, Int.reduceToNat, k1]
  have q6_2 := q6_1.r (j := 0) (v := 7)
  rw [← hh2] at q6_2
  have q7_2 := q7_1.ro (Y := 6) (j := 0) (v := 7) (by omega)
  rw [← hh2] at q7_2
  have u2 : Uc 6 h h2 := u1.tr (by rw [hh2]; exact fun a ha k => ⟨rfl, rfl, by rw [hR_pR, if_neg (by omega)]⟩)
  clear hh2 k1 b1 st1 u1 q6_1 q7_1 h1
  obtain ⟨h3, hh3⟩ : ∃ x, x = pI h2 6 1 (0) := ⟨_, rfl⟩
  have b3 := b2.pI (a := 6) (k := 1) (v := 0) (by omega)
  rw [← hh3] at b3
  have k2 : sK h2 6 = 10 := (b2.k 6).trans rfl
  have st3 : cal (d + 4) m_Hook_init [.inr (.inr 6)] h = EX (d + 3) m_Hook_init 18 [(0, .inr (.inr 6))] [] h3 := by
    rw [st2, hh3]
    simp (disch := omega) only [Hook_init_13, wr_id, ix_id, okx, if_pos, if_neg, Int.toNat_of_nonneg, bak_v, bak_n, wr_b01, wr_bt, b01_or, b01_0, b01_1, lc_lt0, lc_gt0, lc_eq0, wl_wr, wr_wr, wl_id, true_and, and_true, true_or, or_true, not_true_eq_false, not_false_eq_true, nc0, nc1, nc2, nc3, nc4, nc5, nc6, nc7, nc8, nc9, nc10, nc11, nc12, nc13, nc14, nc15, nc16, nc17, nc18, nc19, nc20, nc21, nc22, nc23, nc35, nc47, nc59, nc60, nc61, nc73, nc74, nc214, nc215, nc1115, nc2230, nc3345, if_true, if_false, Int.reduceToNat, k2]
  have q6_3 := q6_2.i (j := 1) (v := 0)
  rw [← hh3] at q6_3
  have q7_3 := q7_2.io (Y := 6) (j := 1) (v := 0) (by omega)
  rw [← hh3] at q7_3
  have u3 : Uc 6 h h3 := u2.tr (by rw [hh3]; exact fun a ha k => ⟨by rw [hI_pI, if_neg (by omega)], rfl, rfl⟩)
  clear hh3 k2 b2 st2 u2 q6_2 q7_2 h2
  obtain ⟨h4, hh4⟩ : ∃ x, x = nwH h3 5 2 := ⟨_, rfl⟩
  have l3 := b3.l (by omega)
  have k3 : sK h3 6 = 10 := (b3.k 6).trans rfl
  obtain ⟨b4, s4⟩ := b3.nw (kd := 5) (m := 2) (by omega) (by omega) rfl
  rw [← hh4] at b4 s4
  have st4 : cal (d + 4) m_Hook_init [.inr (.inr 6)] h = EX (d + 3) m_Hook_init 22 [(0, .inr (.inr 6))] [.inr (.inr 8), .inr (.inr 6)] h4 := by
    rw [st3, hh4]
    simp (disch := omega) only [Hook_init_18, wr_id, ix_id, okx, if_pos, if_neg, Int.toNat_of_nonneg, bak_v, bak_n, wr_b01, wr_bt, b01_or, b01_0, b01_1, lc_lt0, lc_gt0, lc_eq0, wl_wr, wr_wr, wl_id, true_and, and_true, true_or, or_true, not_true_eq_false, not_false_eq_true, nc0, nc1, nc2, nc3, nc4, nc5, nc6, nc7, nc8, nc9, nc10, nc11, nc12, nc13, nc14, nc15, nc16, nc17, nc18, nc19, nc20, nc21, nc22, nc23, nc35, nc47, nc59, nc60, nc61, nc73, nc74, nc214, nc215, nc1115, nc2230, nc3345, if_true, if_false, Int.reduceToNat, l3, k3]
  have q6_4 := q6_3.sm s4
  have q7_4 := q7_3.sm s4
  have u4 : Uc 6 h h4 := u3.tr (fun a _ k => s4 a k)
  clear hh4 l3 k3 s4 b3 st3 u3 q6_3 q7_3 h3
  obtain ⟨h5, c5, b5, dn8_5, uc5⟩ := i_read (L := L) (d := d + 1) h4 b4
  have kk4 : sK h4 8 = 5 := (b4.k 8).trans rfl
  have st5 : cal (d + 4) m_Hook_init [.inr (.inr 6)] h = EX (d + 3) m_Hook_init 26 [(0, .inr (.inr 6))] [.inr (.inr 8), .inr (.inr 6)] h5 := by
    rw [st4]
    simp (disch := omega) only [Hook_init_22, wr_id, ix_id, okx, if_pos, if_neg, Int.toNat_of_nonneg, bak_v, bak_n, wr_b01, wr_bt, b01_or, b01_0, b01_1, lc_lt0, lc_gt0, lc_eq0, wl_wr, wr_wr, wl_id, true_and, and_true, true_or, or_true, not_true_eq_false, not_false_eq_true, nc0, nc1, nc2, nc3, nc4, nc5, nc6, nc7, nc8, nc9, nc10, nc11, nc12, nc13, nc14, nc15, nc16, nc17, nc18, nc19, nc20, nc21, nc22, nc23, nc35, nc47, nc59, nc60, nc61, nc73, nc74, nc214, nc215, nc1115, nc2230, nc3345, if_true, if_false, Int.reduceToNat, kk4, c5]
  have q6_5 := q6_4.uc uc5 (by omega)
  have q7_5 := q7_4.uc uc5 (by omega)
  have u5 : Uc 6 h h5 := u4.tr (uc5.mo (by omega))
  clear c5 uc5 kk4 b4 st4 u4 q6_4 q7_4 h4
  obtain ⟨h6, hh6⟩ : ∃ x, x = pR h5 6 2 8 := ⟨_, rfl⟩
  have b6 := b5.pR (a := 6) (k := 2) (v := 8) (by omega)
  rw [← hh6] at b6
  have k5 : sK h5 6 = 10 := (b5.k 6).trans rfl
  have st6 : cal (d + 4) m_Hook_init [.inr (.inr 6)] h = EX (d + 3) m_Hook_init 29 [(0, .inr (.inr 6))] [] h6 := by
    rw [st5, hh6]
    simp (disch := omega) only [Hook_init_26, wr_id, ix_id, okx, if_pos, if_neg, Int.toNat_of_nonneg, bak_v, bak_n, wr_b01, wr_bt, b01_or, b01_0, b01_1, lc_lt0, lc_gt0, lc_eq0, wl_wr, wr_wr, wl_id, true_and, and_true, true_or, or_true, not_true_eq_false, not_false_eq_true, nc0, nc1, nc2, nc3, nc4, nc5, nc6, nc7, nc8, nc9, nc10, nc11, nc12, nc13, nc14, nc15, nc16, nc17, nc18, nc19, nc20, nc21, nc22, nc23, nc35, nc47, nc59, nc60, nc61, nc73, nc74, nc214, nc215, nc1115, nc2230, nc3345, if_true, if_false, Int.reduceToNat, k5]
  have q6_6 := q6_5.r (j := 2) (v := 8)
  rw [← hh6] at q6_6
  have q7_6 := q7_5.ro (Y := 6) (j := 2) (v := 8) (by omega)
  rw [← hh6] at q7_6
  have dn8_6 := dn8_5.r (Y := 6) (j := 2) (v := 8) (by omega)
  rw [← hh6] at dn8_6
  have u6 : Uc 6 h h6 := u5.tr (by rw [hh6]; exact fun a ha k => ⟨rfl, rfl, by rw [hR_pR, if_neg (by omega)]⟩)
  clear hh6 k5 b5 st5 u5 q6_5 q7_5 dn8_5 h5
  obtain ⟨h7, hh7⟩ : ∃ x, x = pI h6 6 3 (0) := ⟨_, rfl⟩
  have b7 := b6.pI (a := 6) (k := 3) (v := 0) (by omega)
  rw [← hh7] at b7
  have k6 : sK h6 6 = 10 := (b6.k 6).trans rfl
  have st7 : cal (d + 4) m_Hook_init [.inr (.inr 6)] h = EX (d + 3) m_Hook_init 34 [(0, .inr (.inr 6))] [] h7 := by
    rw [st6, hh7]
    simp (disch := omega) only [Hook_init_29, wr_id, ix_id, okx, if_pos, if_neg, Int.toNat_of_nonneg, bak_v, bak_n, wr_b01, wr_bt, b01_or, b01_0, b01_1, lc_lt0, lc_gt0, lc_eq0, wl_wr, wr_wr, wl_id, true_and, and_true, true_or, or_true, not_true_eq_false, not_false_eq_true, nc0, nc1, nc2, nc3, nc4, nc5, nc6, nc7, nc8, nc9, nc10, nc11, nc12, nc13, nc14, nc15, nc16, nc17, nc18, nc19, nc20, nc21, nc22, nc23, nc35, nc47, nc59, nc60, nc61, nc73, nc74, nc214, nc215, nc1115, nc2230, nc3345, if_true, if_false, Int.reduceToNat, k6]
  have q6_7 := q6_6.i (j := 3) (v := 0)
  rw [← hh7] at q6_7
  have q7_7 := q7_6.io (Y := 6) (j := 3) (v := 0) (by omega)
  rw [← hh7] at q7_7
  have dn8_7 := dn8_6.i (Y := 6) (j := 3) (v := 0) (by omega)
  rw [← hh7] at dn8_7
  have u7 : Uc 6 h h7 := u6.tr (by rw [hh7]; exact fun a ha k => ⟨by rw [hI_pI, if_neg (by omega)], rfl, rfl⟩)
  clear hh7 k6 b6 st6 u6 q6_6 q7_6 dn8_6 h6
  obtain ⟨h8, hh8⟩ : ∃ x, x = pI h7 6 4 (-1) := ⟨_, rfl⟩
  have b8 := b7.pI (a := 6) (k := 4) (v := -1) (by omega)
  rw [← hh8] at b8
  have k7 : sK h7 6 = 10 := (b7.k 6).trans rfl
  have st8 : cal (d + 4) m_Hook_init [.inr (.inr 6)] h = EX (d + 3) m_Hook_init 39 [(0, .inr (.inr 6))] [] h8 := by
    rw [st7, hh8]
    simp (disch := omega) only [Hook_init_34, wr_id, ix_id, okx, if_pos, if_neg, Int.toNat_of_nonneg, bak_v, bak_n, wr_b01, wr_bt, b01_or, b01_0, b01_1, lc_lt0, lc_gt0, lc_eq0, wl_wr, wr_wr, wl_id, true_and, and_true, true_or, or_true, not_true_eq_false, not_false_eq_true, nc0, nc1, nc2, nc3, nc4, nc5, nc6, nc7, nc8, nc9, nc10, nc11, nc12, nc13, nc14, nc15, nc16, nc17, nc18, nc19, nc20, nc21, nc22, nc23, nc35, nc47, nc59, nc60, nc61, nc73, nc74, nc214, nc215, nc1115, nc2230, nc3345, if_true, if_false, Int.reduceToNat, k7]
  have q6_8 := q6_7.i (j := 4) (v := -1)
  rw [← hh8] at q6_8
  have q7_8 := q7_7.io (Y := 6) (j := 4) (v := -1) (by omega)
  rw [← hh8] at q7_8
  have dn8_8 := dn8_7.i (Y := 6) (j := 4) (v := -1) (by omega)
  rw [← hh8] at dn8_8
  have u8 : Uc 6 h h8 := u7.tr (by rw [hh8]; exact fun a ha k => ⟨by rw [hI_pI, if_neg (by omega)], rfl, rfl⟩)
  clear hh8 k7 b7 st7 u7 q6_7 q7_7 dn8_7 h7
  obtain ⟨h9, hh9⟩ : ∃ x, x = nwH h8 9 15 := ⟨_, rfl⟩
  have l8 := b8.l (by omega)
  have k8 : sK h8 6 = 10 := (b8.k 6).trans rfl
  obtain ⟨b9, s9⟩ := b8.nw (kd := 9) (m := 15) (by omega) (by omega) rfl
  rw [← hh9] at b9 s9
  have st9 : cal (d + 4) m_Hook_init [.inr (.inr 6)] h = EX (d + 3) m_Hook_init 43 [(0, .inr (.inr 6))] [.inr (.inr 14), .inr (.inr 6)] h9 := by
    rw [st8, hh9]
    simp (disch := omega) only [Hook_init_39, wr_id, ix_id, okx, if_pos, if_neg, Int.toNat_of_nonneg, bak_v, bak_n, wr_b01, wr_bt, b01_or, b01_0, b01_1, lc_lt0, lc_gt0, lc_eq0, wl_wr, wr_wr, wl_id, true_and, and_true, true_or, or_true, not_true_eq_false, not_false_eq_true, nc0, nc1, nc2, nc3, nc4, nc5, nc6, nc7, nc8, nc9, nc10, nc11, nc12, nc13, nc14, nc15, nc16, nc17, nc18, nc19, nc20, nc21, nc22, nc23, nc35, nc47, nc59, nc60, nc61, nc73, nc74, nc214, nc215, nc1115, nc2230, nc3345, if_true, if_false, Int.reduceToNat, l8, k8]
  have q6_9 := q6_8.sm s9
  have q7_9 := q7_8.sm s9
  have dn8_9 := dn8_8.sm s9
  have u9 : Uc 6 h h9 := u8.tr (fun a _ k => s9 a k)
  clear hh9 l8 k8 s9 b8 st8 u8 q6_8 q7_8 dn8_8 h8
  obtain ⟨h10, c10, b10, dn14_10, uc10⟩ := i_win14 (L := L) (d := d + 0) h9 b9
  have kk9 : sK h9 14 = 9 := (b9.k 14).trans rfl
  have st10 : cal (d + 4) m_Hook_init [.inr (.inr 6)] h = EX (d + 3) m_Hook_init 47 [(0, .inr (.inr 6))] [.inr (.inr 14), .inr (.inr 6)] h10 := by
    rw [st9]
    simp (disch := omega) only [Hook_init_43, wr_id, ix_id, okx, if_pos, if_neg, Int.toNat_of_nonneg, bak_v, bak_n, wr_b01, wr_bt, b01_or, b01_0, b01_1, lc_lt0, lc_gt0, lc_eq0, wl_wr, wr_wr, wl_id, true_and, and_true, true_or, or_true, not_true_eq_false, not_false_eq_true, nc0, nc1, nc2, nc3, nc4, nc5, nc6, nc7, nc8, nc9, nc10, nc11, nc12, nc13, nc14, nc15, nc16, nc17, nc18, nc19, nc20, nc21, nc22, nc23, nc35, nc47, nc59, nc60, nc61, nc73, nc74, nc214, nc215, nc1115, nc2230, nc3345, if_true, if_false, Int.reduceToNat, kk9, c10]
  have q6_10 := q6_9.uc uc10 (by omega)
  have q7_10 := q7_9.uc uc10 (by omega)
  have dn8_10 := dn8_9.uc uc10 (by omega)
  have u10 : Uc 6 h h10 := u9.tr (uc10.mo (by omega))
  clear c10 uc10 kk9 b9 st9 u9 q6_9 q7_9 dn8_9 h9
  obtain ⟨h11, hh11⟩ : ∃ x, x = pR h10 6 5 14 := ⟨_, rfl⟩
  have b11 := b10.pR (a := 6) (k := 5) (v := 14) (by omega)
  rw [← hh11] at b11
  have k10 : sK h10 6 = 10 := (b10.k 6).trans rfl
  have st11 : cal (d + 4) m_Hook_init [.inr (.inr 6)] h = EX (d + 3) m_Hook_init 50 [(0, .inr (.inr 6))] [] h11 := by
    rw [st10, hh11]
    simp (disch := omega) only [Hook_init_47, wr_id, ix_id, okx, if_pos, if_neg, Int.toNat_of_nonneg, bak_v, bak_n, wr_b01, wr_bt, b01_or, b01_0, b01_1, lc_lt0, lc_gt0, lc_eq0, wl_wr, wr_wr, wl_id, true_and, and_true, true_or, or_true, not_true_eq_false, not_false_eq_true, nc0, nc1, nc2, nc3, nc4, nc5, nc6, nc7, nc8, nc9, nc10, nc11, nc12, nc13, nc14, nc15, nc16, nc17, nc18, nc19, nc20, nc21, nc22, nc23, nc35, nc47, nc59, nc60, nc61, nc73, nc74, nc214, nc215, nc1115, nc2230, nc3345, if_true, if_false, Int.reduceToNat, k10]
  have q6_11 := q6_10.r (j := 5) (v := 14)
  rw [← hh11] at q6_11
  have q7_11 := q7_10.ro (Y := 6) (j := 5) (v := 14) (by omega)
  rw [← hh11] at q7_11
  have dn8_11 := dn8_10.r (Y := 6) (j := 5) (v := 14) (by omega)
  rw [← hh11] at dn8_11
  have dn14_11 := dn14_10.r (Y := 6) (j := 5) (v := 14) (by omega)
  rw [← hh11] at dn14_11
  have u11 : Uc 6 h h11 := u10.tr (by rw [hh11]; exact fun a ha k => ⟨rfl, rfl, by rw [hR_pR, if_neg (by omega)]⟩)
  clear hh11 k10 b10 st10 u10 q6_10 q7_10 dn8_10 dn14_10 h10
  obtain ⟨h12, hh12⟩ : ∃ x, x = nwH h11 9 15 := ⟨_, rfl⟩
  have l11 := b11.l (by omega)
  have k11 : sK h11 6 = 10 := (b11.k 6).trans rfl
  obtain ⟨b12, s12⟩ := b11.nw (kd := 9) (m := 15) (by omega) (by omega) rfl
  rw [← hh12] at b12 s12
  have st12 : cal (d + 4) m_Hook_init [.inr (.inr 6)] h = EX (d + 3) m_Hook_init 54 [(0, .inr (.inr 6))] [.inr (.inr 20), .inr (.inr 6)] h12 := by
    rw [st11, hh12]
    simp (disch := omega) only [Hook_init_50, wr_id, ix_id, okx, if_pos, if_neg, Int.toNat_of_nonneg, bak_v, bak_n, wr_b01, wr_bt, b01_or, b01_0, b01_1, lc_lt0, lc_gt0, lc_eq0, wl_wr, wr_wr, wl_id, true_and, and_true, true_or, or_true, not_true_eq_false, not_false_eq_true, nc0, nc1, nc2, nc3, nc4, nc5, nc6, nc7, nc8, nc9, nc10, nc11, nc12, nc13, nc14, nc15, nc16, nc17, nc18, nc19, nc20, nc21, nc22, nc23, nc35, nc47, nc59, nc60, nc61, nc73, nc74, nc214, nc215, nc1115, nc2230, nc3345, if_true, if_false, Int.reduceToNat, l11, k11]
  have q6_12 := q6_11.sm s12
  have q7_12 := q7_11.sm s12
  have dn8_12 := dn8_11.sm s12
  have dn14_12 := dn14_11.sm s12
  have u12 : Uc 6 h h12 := u11.tr (fun a _ k => s12 a k)
  clear hh12 l11 k11 s12 b11 st11 u11 q6_11 q7_11 dn8_11 dn14_11 h11
  obtain ⟨h13, c13, b13, dn20_13, uc13⟩ := i_win20 (L := L) (d := d + 0) h12 b12
  have kk12 : sK h12 20 = 9 := (b12.k 20).trans rfl
  have st13 : cal (d + 4) m_Hook_init [.inr (.inr 6)] h = EX (d + 3) m_Hook_init 58 [(0, .inr (.inr 6))] [.inr (.inr 20), .inr (.inr 6)] h13 := by
    rw [st12]
    simp (disch := omega) only [Hook_init_54, wr_id, ix_id, okx, if_pos, if_neg, Int.toNat_of_nonneg, bak_v, bak_n, wr_b01, wr_bt, b01_or, b01_0, b01_1, lc_lt0, lc_gt0, lc_eq0, wl_wr, wr_wr, wl_id, true_and, and_true, true_or, or_true, not_true_eq_false, not_false_eq_true, nc0, nc1, nc2, nc3, nc4, nc5, nc6, nc7, nc8, nc9, nc10, nc11, nc12, nc13, nc14, nc15, nc16, nc17, nc18, nc19, nc20, nc21, nc22, nc23, nc35, nc47, nc59, nc60, nc61, nc73, nc74, nc214, nc215, nc1115, nc2230, nc3345, if_true, if_false, Int.reduceToNat, kk12, c13]
  have q6_13 := q6_12.uc uc13 (by omega)
  have q7_13 := q7_12.uc uc13 (by omega)
  have dn8_13 := dn8_12.uc uc13 (by omega)
  have dn14_13 := dn14_12.uc uc13 (by omega)
  have u13 : Uc 6 h h13 := u12.tr (uc13.mo (by omega))
  clear c13 uc13 kk12 b12 st12 u12 q6_12 q7_12 dn8_12 dn14_12 h12
  obtain ⟨h14, hh14⟩ : ∃ x, x = pR h13 6 6 20 := ⟨_, rfl⟩
  have b14 := b13.pR (a := 6) (k := 6) (v := 20) (by omega)
  rw [← hh14] at b14
  have k13 : sK h13 6 = 10 := (b13.k 6).trans rfl
  have st14 : cal (d + 4) m_Hook_init [.inr (.inr 6)] h = EX (d + 3) m_Hook_init 61 [(0, .inr (.inr 6))] [] h14 := by
    rw [st13, hh14]
    simp (disch := omega) only [Hook_init_58, wr_id, ix_id, okx, if_pos, if_neg, Int.toNat_of_nonneg, bak_v, bak_n, wr_b01, wr_bt, b01_or, b01_0, b01_1, lc_lt0, lc_gt0, lc_eq0, wl_wr, wr_wr, wl_id, true_and, and_true, true_or, or_true, not_true_eq_false, not_false_eq_true, nc0, nc1, nc2, nc3, nc4, nc5, nc6, nc7, nc8, nc9, nc10, nc11, nc12, nc13, nc14, nc15, nc16, nc17, nc18, nc19, nc20, nc21, nc22, nc23, nc35, nc47, nc59, nc60, nc61, nc73, nc74, nc214, nc215, nc1115, nc2230, nc3345, if_true, if_false, Int.reduceToNat, k13]
  have q6_14 := q6_13.r (j := 6) (v := 20)
  rw [← hh14] at q6_14
  have q7_14 := q7_13.ro (Y := 6) (j := 6) (v := 20) (by omega)
  rw [← hh14] at q7_14
  have dn8_14 := dn8_13.r (Y := 6) (j := 6) (v := 20) (by omega)
  rw [← hh14] at dn8_14
  have dn14_14 := dn14_13.r (Y := 6) (j := 6) (v := 20) (by omega)
  rw [← hh14] at dn14_14
  have dn20_14 := dn20_13.r (Y := 6) (j := 6) (v := 20) (by omega)
  rw [← hh14] at dn20_14
  have u14 : Uc 6 h h14 := u13.tr (by rw [hh14]; exact fun a ha k => ⟨rfl, rfl, by rw [hR_pR, if_neg (by omega)]⟩)
  clear hh14 k13 b13 st13 u13 q6_13 q7_13 dn8_13 dn14_13 dn20_13 h13
  obtain ⟨h15, hh15⟩ : ∃ x, x = nwH h14 0 3 := ⟨_, rfl⟩
  have l14 := b14.l (by omega)
  have k14 : sK h14 6 = 10 := (b14.k 6).trans rfl
  obtain ⟨b15, s15⟩ := b14.nw (kd := 0) (m := 3) (by omega) (by omega) rfl
  rw [← hh15] at b15 s15
  have st15 : cal (d + 4) m_Hook_init [.inr (.inr 6)] h = EX (d + 3) m_Hook_init 65 [(0, .inr (.inr 6))] [.inr (.inr 26), .inr (.inr 6)] h15 := by
    rw [st14, hh15]
    simp (disch := omega) only [Hook_init_61, wr_id, ix_id, okx, if_pos, if_neg, Int.toNat_of_nonneg, bak_v, bak_n, wr_b01, wr_bt, b01_or, b01_0, b01_1, lc_lt0, lc_gt0, lc_eq0, wl_wr, wr_wr, wl_id, true_and, and_true, true_or, or_true, not_true_eq_false, not_false_eq_true, nc0, nc1, nc2, nc3, nc4, nc5, nc6, nc7, nc8, nc9, nc10, nc11, nc12, nc13, nc14, nc15, nc16, nc17, nc18, nc19, nc20, nc21, nc22, nc23, nc35, nc47, nc59, nc60, nc61, nc73, nc74, nc214, nc215, nc1115, nc2230, nc3345, if_true, if_false, Int.reduceToNat, l14, k14]
  have q6_15 := q6_14.sm s15
  have q7_15 := q7_14.sm s15
  have dn8_15 := dn8_14.sm s15
  have dn14_15 := dn14_14.sm s15
  have dn20_15 := dn20_14.sm s15
  have u15 : Uc 6 h h15 := u14.tr (fun a _ k => s15 a k)
  clear hh15 l14 k14 s15 b14 st14 u14 q6_14 q7_14 dn8_14 dn14_14 dn20_14 h14
  obtain ⟨h16, c16, b16, dn26_16, uc16⟩ := i_han26 (L := L) (d := d + 0) h15 b15
  have kk15 : sK h15 26 = 0 := (b15.k 26).trans rfl
  have st16 : cal (d + 4) m_Hook_init [.inr (.inr 6)] h = EX (d + 3) m_Hook_init 69 [(0, .inr (.inr 6))] [.inr (.inr 26), .inr (.inr 6)] h16 := by
    rw [st15]
    simp (disch := omega) only [Hook_init_65, wr_id, ix_id, okx, if_pos, if_neg, Int.toNat_of_nonneg, bak_v, bak_n, wr_b01, wr_bt, b01_or, b01_0, b01_1, lc_lt0, lc_gt0, lc_eq0, wl_wr, wr_wr, wl_id, true_and, and_true, true_or, or_true, not_true_eq_false, not_false_eq_true, nc0, nc1, nc2, nc3, nc4, nc5, nc6, nc7, nc8, nc9, nc10, nc11, nc12, nc13, nc14, nc15, nc16, nc17, nc18, nc19, nc20, nc21, nc22, nc23, nc35, nc47, nc59, nc60, nc61, nc73, nc74, nc214, nc215, nc1115, nc2230, nc3345, if_true, if_false, Int.reduceToNat, kk15, c16]
  have q6_16 := q6_15.uc uc16 (by omega)
  have q7_16 := q7_15.uc uc16 (by omega)
  have dn8_16 := dn8_15.uc uc16 (by omega)
  have dn14_16 := dn14_15.uc uc16 (by omega)
  have dn20_16 := dn20_15.uc uc16 (by omega)
  have u16 : Uc 6 h h16 := u15.tr (uc16.mo (by omega))
  clear c16 uc16 kk15 b15 st15 u15 q6_15 q7_15 dn8_15 dn14_15 dn20_15 h15
  obtain ⟨h17, hh17⟩ : ∃ x, x = pR h16 6 7 26 := ⟨_, rfl⟩
  have b17 := b16.pR (a := 6) (k := 7) (v := 26) (by omega)
  rw [← hh17] at b17
  have k16 : sK h16 6 = 10 := (b16.k 6).trans rfl
  have st17 : cal (d + 4) m_Hook_init [.inr (.inr 6)] h = EX (d + 3) m_Hook_init 72 [(0, .inr (.inr 6))] [] h17 := by
    rw [st16, hh17]
    simp (disch := omega) only [Hook_init_69, wr_id, ix_id, okx, if_pos, if_neg, Int.toNat_of_nonneg, bak_v, bak_n, wr_b01, wr_bt, b01_or, b01_0, b01_1, lc_lt0, lc_gt0, lc_eq0, wl_wr, wr_wr, wl_id, true_and, and_true, true_or, or_true, not_true_eq_false, not_false_eq_true, nc0, nc1, nc2, nc3, nc4, nc5, nc6, nc7, nc8, nc9, nc10, nc11, nc12, nc13, nc14, nc15, nc16, nc17, nc18, nc19, nc20, nc21, nc22, nc23, nc35, nc47, nc59, nc60, nc61, nc73, nc74, nc214, nc215, nc1115, nc2230, nc3345, if_true, if_false, Int.reduceToNat, k16]
  have q6_17 := q6_16.r (j := 7) (v := 26)
  rw [← hh17] at q6_17
  have q7_17 := q7_16.ro (Y := 6) (j := 7) (v := 26) (by omega)
  rw [← hh17] at q7_17
  have dn8_17 := dn8_16.r (Y := 6) (j := 7) (v := 26) (by omega)
  rw [← hh17] at dn8_17
  have dn14_17 := dn14_16.r (Y := 6) (j := 7) (v := 26) (by omega)
  rw [← hh17] at dn14_17
  have dn20_17 := dn20_16.r (Y := 6) (j := 7) (v := 26) (by omega)
  rw [← hh17] at dn20_17
  have dn26_17 := dn26_16.r (Y := 6) (j := 7) (v := 26) (by omega)
  rw [← hh17] at dn26_17
  have u17 : Uc 6 h h17 := u16.tr (by rw [hh17]; exact fun a ha k => ⟨rfl, rfl, by rw [hR_pR, if_neg (by omega)]⟩)
  clear hh17 k16 b16 st16 u16 q6_16 q7_16 dn8_16 dn14_16 dn20_16 dn26_16 h16
  obtain ⟨h18, hh18⟩ : ∃ x, x = nwH h17 0 3 := ⟨_, rfl⟩
  have l17 := b17.l (by omega)
  have k17 : sK h17 6 = 10 := (b17.k 6).trans rfl
  obtain ⟨b18, s18⟩ := b17.nw (kd := 0) (m := 3) (by omega) (by omega) rfl
  rw [← hh18] at b18 s18
  have st18 : cal (d + 4) m_Hook_init [.inr (.inr 6)] h = EX (d + 3) m_Hook_init 76 [(0, .inr (.inr 6))] [.inr (.inr 28), .inr (.inr 6)] h18 := by
    rw [st17, hh18]
    simp (disch := omega) only [Hook_init_72, wr_id, ix_id, okx, if_pos, if_neg, Int.toNat_of_nonneg, bak_v, bak_n, wr_b01, wr_bt, b01_or, b01_0, b01_1, lc_lt0, lc_gt0, lc_eq0, wl_wr, wr_wr, wl_id, true_and, and_true, true_or, or_true, not_true_eq_false, not_false_eq_true, nc0, nc1, nc2, nc3, nc4, nc5, nc6, nc7, nc8, nc9, nc10, nc11, nc12, nc13, nc14, nc15, nc16, nc17, nc18, nc19, nc20, nc21, nc22, nc23, nc35, nc47, nc59, nc60, nc61, nc73, nc74, nc214, nc215, nc1115, nc2230, nc3345, if_true, if_false, Int.reduceToNat, l17, k17]
  have q6_18 := q6_17.sm s18
  have q7_18 := q7_17.sm s18
  have dn8_18 := dn8_17.sm s18
  have dn14_18 := dn14_17.sm s18
  have dn20_18 := dn20_17.sm s18
  have dn26_18 := dn26_17.sm s18
  have u18 : Uc 6 h h18 := u17.tr (fun a _ k => s18 a k)
  clear hh18 l17 k17 s18 b17 st17 u17 q6_17 q7_17 dn8_17 dn14_17 dn20_17 dn26_17 h17
  obtain ⟨h19, c19, b19, dn28_19, uc19⟩ := i_han28 (L := L) (d := d + 0) h18 b18
  have kk18 : sK h18 28 = 0 := (b18.k 28).trans rfl
  have st19 : cal (d + 4) m_Hook_init [.inr (.inr 6)] h = EX (d + 3) m_Hook_init 80 [(0, .inr (.inr 6))] [.inr (.inr 28), .inr (.inr 6)] h19 := by
    rw [st18]
    simp (disch := omega) only [Hook_init_76, wr_id, ix_id, okx, if_pos, if_neg, Int.toNat_of_nonneg, bak_v, bak_n, wr_b01, wr_bt, b01_or, b01_0, b01_1, lc_lt0, lc_gt0, lc_eq0, wl_wr, wr_wr, wl_id, true_and, and_true, true_or, or_true, not_true_eq_false, not_false_eq_true, nc0, nc1, nc2, nc3, nc4, nc5, nc6, nc7, nc8, nc9, nc10, nc11, nc12, nc13, nc14, nc15, nc16, nc17, nc18, nc19, nc20, nc21, nc22, nc23, nc35, nc47, nc59, nc60, nc61, nc73, nc74, nc214, nc215, nc1115, nc2230, nc3345, if_true, if_false, Int.reduceToNat, kk18, c19]
  have q6_19 := q6_18.uc uc19 (by omega)
  have q7_19 := q7_18.uc uc19 (by omega)
  have dn8_19 := dn8_18.uc uc19 (by omega)
  have dn14_19 := dn14_18.uc uc19 (by omega)
  have dn20_19 := dn20_18.uc uc19 (by omega)
  have dn26_19 := dn26_18.uc uc19 (by omega)
  have u19 : Uc 6 h h19 := u18.tr (uc19.mo (by omega))
  clear c19 uc19 kk18 b18 st18 u18 q6_18 q7_18 dn8_18 dn14_18 dn20_18 dn26_18 h18
  obtain ⟨h20, hh20⟩ : ∃ x, x = pR h19 6 8 28 := ⟨_, rfl⟩
  have b20 := b19.pR (a := 6) (k := 8) (v := 28) (by omega)
  rw [← hh20] at b20
  have k19 : sK h19 6 = 10 := (b19.k 6).trans rfl
  have st20 : cal (d + 4) m_Hook_init [.inr (.inr 6)] h = EX (d + 3) m_Hook_init 83 [(0, .inr (.inr 6))] [] h20 := by
    rw [st19, hh20]
    simp (disch := omega) only [Hook_init_80, wr_id, ix_id, okx, if_pos, if_neg, Int.toNat_of_nonneg, bak_v, bak_n, wr_b01, wr_bt, b01_or, b01_0, b01_1, lc_lt0, lc_gt0, lc_eq0, wl_wr, wr_wr, wl_id, true_and, and_true, true_or, or_true, not_true_eq_false, not_false_eq_true, nc0, nc1, nc2, nc3, nc4, nc5, nc6, nc7, nc8, nc9, nc10, nc11, nc12, nc13, nc14, nc15, nc16, nc17, nc18, nc19, nc20, nc21, nc22, nc23, nc35, nc47, nc59, nc60, nc61, nc73, nc74, nc214, nc215, nc1115, nc2230, nc3345, if_true, if_false, Int.reduceToNat, k19]
  have q6_20 := q6_19.r (j := 8) (v := 28)
  rw [← hh20] at q6_20
  have q7_20 := q7_19.ro (Y := 6) (j := 8) (v := 28) (by omega)
  rw [← hh20] at q7_20
  have dn8_20 := dn8_19.r (Y := 6) (j := 8) (v := 28) (by omega)
  rw [← hh20] at dn8_20
  have dn14_20 := dn14_19.r (Y := 6) (j := 8) (v := 28) (by omega)
  rw [← hh20] at dn14_20
  have dn20_20 := dn20_19.r (Y := 6) (j := 8) (v := 28) (by omega)
  rw [← hh20] at dn20_20
  have dn26_20 := dn26_19.r (Y := 6) (j := 8) (v := 28) (by omega)
  rw [← hh20] at dn26_20
  have dn28_20 := dn28_19.r (Y := 6) (j := 8) (v := 28) (by omega)
  rw [← hh20] at dn28_20
  have u20 : Uc 6 h h20 := u19.tr (by rw [hh20]; exact fun a ha k => ⟨rfl, rfl, by rw [hR_pR, if_neg (by omega)]⟩)
  clear hh20 k19 b19 st19 u19 q6_19 q7_19 dn8_19 dn14_19 dn20_19 dn26_19 dn28_19 h19
  obtain ⟨h21, hh21⟩ : ∃ x, x = nwH h20 1 3 := ⟨_, rfl⟩
  have l20 := b20.l (by omega)
  have k20 : sK h20 6 = 10 := (b20.k 6).trans rfl
  obtain ⟨b21, s21⟩ := b20.nw (kd := 1) (m := 3) (by omega) (by omega) rfl
  rw [← hh21] at b21 s21
  have st21 : cal (d + 4) m_Hook_init [.inr (.inr 6)] h = EX (d + 3) m_Hook_init 87 [(0, .inr (.inr 6))] [.inr (.inr 30), .inr (.inr 6)] h21 := by
    rw [st20, hh21]
    simp (disch := omega) only [Hook_init_83, wr_id, ix_id, okx, if_pos, if_neg, Int.toNat_of_nonneg, bak_v, bak_n, wr_b01, wr_bt, b01_or, b01_0, b01_1, lc_lt0, lc_gt0, lc_eq0, wl_wr, wr_wr, wl_id, true_and, and_true, true_or, or_true, not_true_eq_false, not_false_eq_true, nc0, nc1, nc2, nc3, nc4, nc5, nc6, nc7, nc8, nc9, nc10, nc11, nc12, nc13, nc14, nc15, nc16, nc17, nc18, nc19, nc20, nc21, nc22, nc23, nc35, nc47, nc59, nc60, nc61, nc73, nc74, nc214, nc215, nc1115, nc2230, nc3345, if_true, if_false, Int.reduceToNat, l20, k20]
  have q6_21 := q6_20.sm s21
  have q7_21 := q7_20.sm s21
  have dn8_21 := dn8_20.sm s21
  have dn14_21 := dn14_20.sm s21
  have dn20_21 := dn20_20.sm s21
  have dn26_21 := dn26_20.sm s21
  have dn28_21 := dn28_20.sm s21
  have u21 : Uc 6 h h21 := u20.tr (fun a _ k => s21 a k)
  clear hh21 l20 k20 s21 b20 st20 u20 q6_20 q7_20 dn8_20 dn14_20 dn20_20 dn26_20 dn28_20 h20
  obtain ⟨h22, c22, b22, dn30_22, uc22⟩ := i_his (L := L) (d := d + 2) h21 b21
  have kk21 : sK h21 30 = 1 := (b21.k 30).trans rfl
  have st22 : cal (d + 4) m_Hook_init [.inr (.inr 6)] h = EX (d + 3) m_Hook_init 91 [(0, .inr (.inr 6))] [.inr (.inr 30), .inr (.inr 6)] h22 := by
    rw [st21]
    simp (disch := omega) only [Hook_init_87, wr_id, ix_id, okx, if_pos, if_neg, Int.toNat_of_nonneg, bak_v, bak_n, wr_b01, wr_bt, b01_or, b01_0, b01_1, lc_lt0, lc_gt0, lc_eq0, wl_wr, wr_wr, wl_id, true_and, and_true, true_or, or_true, not_true_eq_false, not_false_eq_true, nc0, nc1, nc2, nc3, nc4, nc5, nc6, nc7, nc8, nc9, nc10, nc11, nc12, nc13, nc14, nc15, nc16, nc17, nc18, nc19, nc20, nc21, nc22, nc23, nc35, nc47, nc59, nc60, nc61, nc73, nc74, nc214, nc215, nc1115, nc2230, nc3345, if_true, if_false, Int.reduceToNat, kk21, c22]
  have q6_22 := q6_21.uc uc22 (by omega)
  have q7_22 := q7_21.uc uc22 (by omega)
  have dn8_22 := dn8_21.uc uc22 (by omega)
  have dn14_22 := dn14_21.uc uc22 (by omega)
  have dn20_22 := dn20_21.uc uc22 (by omega)
  have dn26_22 := dn26_21.uc uc22 (by omega)
  have dn28_22 := dn28_21.uc uc22 (by omega)
  have u22 : Uc 6 h h22 := u21.tr (uc22.mo (by omega))
  clear c22 uc22 kk21 b21 st21 u21 q6_21 q7_21 dn8_21 dn14_21 dn20_21 dn26_21 dn28_21 h21
  obtain ⟨h23, hh23⟩ : ∃ x, x = pR h22 6 9 30 := ⟨_, rfl⟩
  have b23 := b22.pR (a := 6) (k := 9) (v := 30) (by omega)
  rw [← hh23] at b23
  have k22 : sK h22 6 = 10 := (b22.k 6).trans rfl
  have st23 : cal (d + 4) m_Hook_init [.inr (.inr 6)] h = EX (d + 3) m_Hook_init 94 [(0, .inr (.inr 6))] [] h23 := by
    rw [st22, hh23]
    simp (disch := omega) only [Hook_init_91, wr_id, ix_id, okx, if_pos, if_neg, Int.toNat_of_nonneg, bak_v, bak_n, wr_b01, wr_bt, b01_or, b01_0, b01_1, lc_lt0, lc_gt0, lc_eq0, wl_wr, wr_wr, wl_id, true_and, and_true, true_or, or_true, not_true_eq_false, not_false_eq_true, nc0, nc1, nc2, nc3, nc4, nc5, nc6, nc7, nc8, nc9, nc10, nc11, nc12, nc13, nc14, nc15, nc16, nc17, nc18, nc19, nc20, nc21, nc22, nc23, nc35, nc47, nc59, nc60, nc61, nc73, nc74, nc214, nc215, nc1115, nc2230, nc3345, if_true, if_false, Int.reduceToNat, k22]
  have q6_23 := q6_22.r (j := 9) (v := 30)
  rw [← hh23] at q6_23
  have q7_23 := q7_22.ro (Y := 6) (j := 9) (v := 30) (by omega)
  rw [← hh23] at q7_23
  have dn8_23 := dn8_22.r (Y := 6) (j := 9) (v := 30) (by omega)
  rw [← hh23] at dn8_23
  have dn14_23 := dn14_22.r (Y := 6) (j := 9) (v := 30) (by omega)
  rw [← hh23] at dn14_23
  have dn20_23 := dn20_22.r (Y := 6) (j := 9) (v := 30) (by omega)
  rw [← hh23] at dn20_23
  have dn26_23 := dn26_22.r (Y := 6) (j := 9) (v := 30) (by omega)
  rw [← hh23] at dn26_23
  have dn28_23 := dn28_22.r (Y := 6) (j := 9) (v := 30) (by omega)
  rw [← hh23] at dn28_23
  have dn30_23 := dn30_22.r (Y := 6) (j := 9) (v := 30) (by omega)
  rw [← hh23] at dn30_23
  have u23 : Uc 6 h h23 := u22.tr (by rw [hh23]; exact fun a ha k => ⟨rfl, rfl, by rw [hR_pR, if_neg (by omega)]⟩)
  clear hh23 k22 b22 st22 u22 q6_22 q7_22 dn8_22 dn14_22 dn20_22 dn26_22 dn28_22 dn30_22 h22
  obtain ⟨h24, hh24⟩ : ∃ x, x = nwH h23 24 4 := ⟨_, rfl⟩
  have l23 := b23.l (by omega)
  have k23 : sK h23 6 = 10 := (b23.k 6).trans rfl
  obtain ⟨b24, s24⟩ := b23.nw (kd := 24) (m := 4) (by omega) (by omega) rfl
  rw [← hh24] at b24 s24
  have st24 : cal (d + 4) m_Hook_init [.inr (.inr 6)] h = EX (d + 3) m_Hook_init 99 [(0, .inr (.inr 6))] [.inr (.inr 32), .inr (.inr 6)] h24 := by
    rw [st23, hh24]
    simp (disch := omega) only [Hook_init_94, wr_id, ix_id, okx, if_pos, if_neg, Int.toNat_of_nonneg, bak_v, bak_n, wr_b01, wr_bt, b01_or, b01_0, b01_1, lc_lt0, lc_gt0, lc_eq0, wl_wr, wr_wr, wl_id, true_and, and_true, true_or, or_true, not_true_eq_false, not_false_eq_true, nc0, nc1, nc2, nc3, nc4, nc5, nc6, nc7, nc8, nc9, nc10, nc11, nc12, nc13, nc14, nc15, nc16, nc17, nc18, nc19, nc20, nc21, nc22, nc23, nc35, nc47, nc59, nc60, nc61, nc73, nc74, nc214, nc215, nc1115, nc2230, nc3345, if_true, if_false, Int.reduceToNat, l23, k23]
  have q6_24 := q6_23.sm s24
  have q7_24 := q7_23.sm s24
  have dn8_24 := dn8_23.sm s24
  have dn14_24 := dn14_23.sm s24
  have dn20_24 := dn20_23.sm s24
  have dn26_24 := dn26_23.sm s24
  have dn28_24 := dn28_23.sm s24
  have dn30_24 := dn30_23.sm s24
  have u24 : Uc 6 h h24 := u23.tr (fun a _ k => s24 a k)
  clear hh24 l23 k23 s24 b23 st23 u23 q6_23 q7_23 dn8_23 dn14_23 dn20_23 dn26_23 dn28_23 dn30_23 h23
  have q32_24 := b24.cl (X := 32) (by omega)
  replace b24 := b24.up (show 32 ≤ 33 by omega)
  obtain ⟨h25, hh25⟩ : ∃ x, x = pR h24 6 10 32 := ⟨_, rfl⟩
  have b25 := b24.pR (a := 6) (k := 10) (v := 32) (by omega)
  rw [← hh25] at b25
  have k24 : sK h24 6 = 10 := (b24.k 6).trans rfl
  have st25 : cal (d + 4) m_Hook_init [.inr (.inr 6)] h = EX (d + 3) m_Hook_init 104 [(0, .inr (.inr 6)), (1, .inl 0)] [] h25 := by
    rw [st24, hh25]
    simp (disch := omega) only [Hook_init_99, Hook_init_102, wr_id, ix_id, okx, if_pos, if_neg, Int.toNat_of_nonneg, bak_v, bak_n, wr_b01, wr_bt, b01_or, b01_0, b01_1, lc_lt0, lc_gt0, lc_eq0, wl_wr, wr_wr, wl_id, true_and, and_true, true_or, or_true, not_true_eq_false, not_false_eq_true, nc0, nc1, nc2, nc3, nc4, nc5, nc6, nc7, nc8, nc9, nc10, nc11, nc12, nc13, nc14, nc15, nc16, nc17, nc18, nc19, nc20, nc21, nc22, nc23, nc35, nc47, nc59, nc60, nc61, nc73, nc74, nc214, nc215, nc1115, nc2230, nc3345, if_true, if_false, Int.reduceToNat, k24]
  have q6_25 := q6_24.r (j := 10) (v := 32)
  rw [← hh25] at q6_25
  have q7_25 := q7_24.ro (Y := 6) (j := 10) (v := 32) (by omega)
  rw [← hh25] at q7_25
  have q32_25 := q32_24.ro (Y := 6) (j := 10) (v := 32) (by omega)
  rw [← hh25] at q32_25
  have dn8_25 := dn8_24.r (Y := 6) (j := 10) (v := 32) (by omega)
  rw [← hh25] at dn8_25
  have dn14_25 := dn14_24.r (Y := 6) (j := 10) (v := 32) (by omega)
  rw [← hh25] at dn14_25
  have dn20_25 := dn20_24.r (Y := 6) (j := 10) (v := 32) (by omega)
  rw [← hh25] at dn20_25
  have dn26_25 := dn26_24.r (Y := 6) (j := 10) (v := 32) (by omega)
  rw [← hh25] at dn26_25
  have dn28_25 := dn28_24.r (Y := 6) (j := 10) (v := 32) (by omega)
  rw [← hh25] at dn28_25
  have dn30_25 := dn30_24.r (Y := 6) (j := 10) (v := 32) (by omega)
  rw [← hh25] at dn30_25
  have u25 : Uc 6 h h25 := u24.tr (by rw [hh25]; exact fun a ha k => ⟨rfl, rfl, by rw [hR_pR, if_neg (by omega)]⟩)
  clear hh25 k24 b24 st24 u24 q6_24 q7_24 q32_24 dn8_24 dn14_24 dn20_24 dn26_24 dn28_24 dn30_24 h24
  have r25 : hR h25 6 10 = 32 := (q6_25 10).2.2.trans rfl
  obtain ⟨h26, hh26⟩ : ∃ x, x = nwH h25 7 3 := ⟨_, rfl⟩
  have l25 := b25.l (by omega)
  have k25 : sK h25 6 = 10 := (b25.k 6).trans rfl
  obtain ⟨b26, s26⟩ := b25.nw (kd := 7) (m := 3) (by omega) (by omega) rfl
  rw [← hh26] at b26 s26
  have st26 : cal (d + 4) m_Hook_init [.inr (.inr 6)] h = EX (d + 3) m_Hook_init 117 [(0, .inr (.inr 6)), (1, .inl 0)] [.inr (.inr 33), .inl 0, .inr (.inr 32)] h26 := by
    rw [st25, hh26]
    simp (disch := omega) only [Hook_init_104, Hook_init_109, wr_id, ix_id, okx, if_pos, if_neg, Int.toNat_of_nonneg, bak_v, bak_n, wr_b01, wr_bt, b01_or, b01_0, b01_1, lc_lt0, lc_gt0, lc_eq0, wl_wr, wr_wr, wl_id, true_and, and_true, true_or, or_true, not_true_eq_false, not_false_eq_true, nc0, nc1, nc2, nc3, nc4, nc5, nc6, nc7, nc8, nc9, nc10, nc11, nc12, nc13, nc14, nc15, nc16, nc17, nc18, nc19, nc20, nc21, nc22, nc23, nc35, nc47, nc59, nc60, nc61, nc73, nc74, nc214, nc215, nc1115, nc2230, nc3345, if_true, if_false, Int.reduceToNat, l25, k25, r25]
  have q6_26 := q6_25.sm s26
  have q7_26 := q7_25.sm s26
  have q32_26 := q32_25.sm s26
  have dn8_26 := dn8_25.sm s26
  have dn14_26 := dn14_25.sm s26
  have dn20_26 := dn20_25.sm s26
  have dn26_26 := dn26_25.sm s26
  have dn28_26 := dn28_25.sm s26
  have dn30_26 := dn30_25.sm s26
  have u26 : Uc 6 h h26 := u25.tr (fun a _ k => s26 a k)
  clear hh26 l25 k25 s26 b25 st25 u25 q6_25 q7_25 q32_25 dn8_25 dn14_25 dn20_25 dn26_25 dn28_25 dn30_25 r25 h25
  obtain ⟨h27, c27, b27, dn33_27, uc27⟩ := i_tray33 (L := L) (d := d + 2) h26 b26
  have kk26 : sK h26 33 = 7 := (b26.k 33).trans rfl
  have st27 : cal (d + 4) m_Hook_init [.inr (.inr 6)] h = EX (d + 3) m_Hook_init 121 [(0, .inr (.inr 6)), (1, .inl 0)] [.inr (.inr 33), .inl 0, .inr (.inr 32)] h27 := by
    rw [st26]
    simp (disch := omega) only [Hook_init_117, wr_id, ix_id, okx, if_pos, if_neg, Int.toNat_of_nonneg, bak_v, bak_n, wr_b01, wr_bt, b01_or, b01_0, b01_1, lc_lt0, lc_gt0, lc_eq0, wl_wr, wr_wr, wl_id, true_and, and_true, true_or, or_true, not_true_eq_false, not_false_eq_true, nc0, nc1, nc2, nc3, nc4, nc5, nc6, nc7, nc8, nc9, nc10, nc11, nc12, nc13, nc14, nc15, nc16, nc17, nc18, nc19, nc20, nc21, nc22, nc23, nc35, nc47, nc59, nc60, nc61, nc73, nc74, nc214, nc215, nc1115, nc2230, nc3345, if_true, if_false, Int.reduceToNat, kk26, c27]
  have q6_27 := q6_26.uc uc27 (by omega)
  have q7_27 := q7_26.uc uc27 (by omega)
  have q32_27 := q32_26.uc uc27 (by omega)
  have dn8_27 := dn8_26.uc uc27 (by omega)
  have dn14_27 := dn14_26.uc uc27 (by omega)
  have dn20_27 := dn20_26.uc uc27 (by omega)
  have dn26_27 := dn26_26.uc uc27 (by omega)
  have dn28_27 := dn28_26.uc uc27 (by omega)
  have dn30_27 := dn30_26.uc uc27 (by omega)
  have u27 : Uc 6 h h27 := u26.tr (uc27.mo (by omega))
  clear c27 uc27 kk26 b26 st26 u26 q6_26 q7_26 q32_26 dn8_26 dn14_26 dn20_26 dn26_26 dn28_26 dn30_26 h26
  have x27 : sK h27 33 = 7 := (b27.k 33).trans rfl
  have y27 : sK h27 32 = 24 := (b27.k 32).trans rfl
  have z27 : sN h27 32 = 4 := (b27.n 32).trans rfl
  obtain ⟨h28, hh28⟩ : ∃ x, x = pR h27 32 0 33 := ⟨_, rfl⟩
  have b28 := b27.pR (a := 32) (k := 0) (v := 33) (by omega)
  rw [← hh28] at b28
  have k27 : sK h27 6 = 10 := (b27.k 6).trans rfl
  have st28 : cal (d + 4) m_Hook_init [.inr (.inr 6)] h = EX (d + 3) m_Hook_init 104 [(0, .inr (.inr 6)), (1, .inl 1)] [] h28 := by
    rw [st27, hh28]
    simp (disch := omega) only [Hook_init_121, Hook_init_122, wr_id, ix_id, okx, if_pos, if_neg, Int.toNat_of_nonneg, bak_v, bak_n, wr_b01, wr_bt, b01_or, b01_0, b01_1, lc_lt0, lc_gt0, lc_eq0, wl_wr, wr_wr, wl_id, true_and, and_true, true_or, or_true, not_true_eq_false, not_false_eq_true, nc0, nc1, nc2, nc3, nc4, nc5, nc6, nc7, nc8, nc9, nc10, nc11, nc12, nc13, nc14, nc15, nc16, nc17, nc18, nc19, nc20, nc21, nc22, nc23, nc35, nc47, nc59, nc60, nc61, nc73, nc74, nc214, nc215, nc1115, nc2230, nc3345, if_true, if_false, Int.reduceToNat, k27, x27, y27, z27, Int.reduceToNat, Int.reduceAdd, and_true]
  have q6_28 := q6_27.ro (Y := 32) (j := 0) (v := 33) (by omega)
  rw [← hh28] at q6_28
  have q7_28 := q7_27.ro (Y := 32) (j := 0) (v := 33) (by omega)
  rw [← hh28] at q7_28
  have q32_28 := q32_27.r (j := 0) (v := 33)
  rw [← hh28] at q32_28
  have dn8_28 := dn8_27.r (Y := 32) (j := 0) (v := 33) (by omega)
  rw [← hh28] at dn8_28
  have dn14_28 := dn14_27.r (Y := 32) (j := 0) (v := 33) (by omega)
  rw [← hh28] at dn14_28
  have dn20_28 := dn20_27.r (Y := 32) (j := 0) (v := 33) (by omega)
  rw [← hh28] at dn20_28
  have dn26_28 := dn26_27.r (Y := 32) (j := 0) (v := 33) (by omega)
  rw [← hh28] at dn26_28
  have dn28_28 := dn28_27.r (Y := 32) (j := 0) (v := 33) (by omega)
  rw [← hh28] at dn28_28
  have dn30_28 := dn30_27.r (Y := 32) (j := 0) (v := 33) (by omega)
  rw [← hh28] at dn30_28
  have dn33_28 := dn33_27.r (Y := 32) (j := 0) (v := 33) (by omega)
  rw [← hh28] at dn33_28
  have u28 : Uc 6 h h28 := u27.tr (by rw [hh28]; exact fun a ha k => ⟨rfl, rfl, by rw [hR_pR, if_neg (by omega)]⟩)
  clear hh28 k27 b27 st27 u27 q6_27 q7_27 q32_27 dn8_27 dn14_27 dn20_27 dn26_27 dn28_27 dn30_27 dn33_27 x27 y27 z27 h27
  have r28 : hR h28 6 10 = 32 := (q6_28 10).2.2.trans rfl
  obtain ⟨h29, hh29⟩ : ∃ x, x = nwH h28 7 3 := ⟨_, rfl⟩
  have l28 := b28.l (by omega)
  have k28 : sK h28 6 = 10 := (b28.k 6).trans rfl
  obtain ⟨b29, s29⟩ := b28.nw (kd := 7) (m := 3) (by omega) (by omega) rfl
  rw [← hh29] at b29 s29
  have st29 : cal (d + 4) m_Hook_init [.inr (.inr 6)] h = EX (d + 3) m_Hook_init 117 [(0, .inr (.inr 6)), (1, .inl 1)] [.inr (.inr 35), .inl 1, .inr (.inr 32)] h29 := by
    rw [st28, hh29]
    simp (disch := omega) only [Hook_init_104, Hook_init_109, wr_id, ix_id, okx, if_pos, if_neg, Int.toNat_of_nonneg, bak_v, bak_n, wr_b01, wr_bt, b01_or, b01_0, b01_1, lc_lt0, lc_gt0, lc_eq0, wl_wr, wr_wr, wl_id, true_and, and_true, true_or, or_true, not_true_eq_false, not_false_eq_true, nc0, nc1, nc2, nc3, nc4, nc5, nc6, nc7, nc8, nc9, nc10, nc11, nc12, nc13, nc14, nc15, nc16, nc17, nc18, nc19, nc20, nc21, nc22, nc23, nc35, nc47, nc59, nc60, nc61, nc73, nc74, nc214, nc215, nc1115, nc2230, nc3345, if_true, if_false, Int.reduceToNat, l28, k28, r28]
  have q6_29 := q6_28.sm s29
  have q7_29 := q7_28.sm s29
  have q32_29 := q32_28.sm s29
  have dn8_29 := dn8_28.sm s29
  have dn14_29 := dn14_28.sm s29
  have dn20_29 := dn20_28.sm s29
  have dn26_29 := dn26_28.sm s29
  have dn28_29 := dn28_28.sm s29
  have dn30_29 := dn30_28.sm s29
  have dn33_29 := dn33_28.sm s29
  have u29 : Uc 6 h h29 := u28.tr (fun a _ k => s29 a k)
  clear hh29 l28 k28 s29 b28 st28 u28 q6_28 q7_28 q32_28 dn8_28 dn14_28 dn20_28 dn26_28 dn28_28 dn30_28 dn33_28 r28 h28
  obtain ⟨h30, c30, b30, dn35_30, uc30⟩ := i_tray35 (L := L) (d := d + 2) h29 b29
  have kk29 : sK h29 35 = 7 := (b29.k 35).trans rfl
  have st30 : cal (d + 4) m_Hook_init [.inr (.inr 6)] h = EX (d + 3) m_Hook_init 121 [(0, .inr (.inr 6)), (1, .inl 1)] [.inr (.inr 35), .inl 1, .inr (.inr 32)] h30 := by
    rw [st29]
    simp (disch := omega) only [Hook_init_117, wr_id, ix_id, okx, if_pos, if_neg, Int.toNat_of_nonneg, bak_v, bak_n, wr_b01, wr_bt, b01_or, b01_0, b01_1, lc_lt0, lc_gt0, lc_eq0, wl_wr, wr_wr, wl_id, true_and, and_true, true_or, or_true, not_true_eq_false, not_false_eq_true, nc0, nc1, nc2, nc3, nc4, nc5, nc6, nc7, nc8, nc9, nc10, nc11, nc12, nc13, nc14, nc15, nc16, nc17, nc18, nc19, nc20, nc21, nc22, nc23, nc35, nc47, nc59, nc60, nc61, nc73, nc74, nc214, nc215, nc1115, nc2230, nc3345, if_true, if_false, Int.reduceToNat, kk29, c30]
  have q6_30 := q6_29.uc uc30 (by omega)
  have q7_30 := q7_29.uc uc30 (by omega)
  have q32_30 := q32_29.uc uc30 (by omega)
  have dn8_30 := dn8_29.uc uc30 (by omega)
  have dn14_30 := dn14_29.uc uc30 (by omega)
  have dn20_30 := dn20_29.uc uc30 (by omega)
  have dn26_30 := dn26_29.uc uc30 (by omega)
  have dn28_30 := dn28_29.uc uc30 (by omega)
  have dn30_30 := dn30_29.uc uc30 (by omega)
  have dn33_30 := dn33_29.uc uc30 (by omega)
  have u30 : Uc 6 h h30 := u29.tr (uc30.mo (by omega))
  clear c30 uc30 kk29 b29 st29 u29 q6_29 q7_29 q32_29 dn8_29 dn14_29 dn20_29 dn26_29 dn28_29 dn30_29 dn33_29 h29
  have x30 : sK h30 35 = 7 := (b30.k 35).trans rfl
  have y30 : sK h30 32 = 24 := (b30.k 32).trans rfl
  have z30 : sN h30 32 = 4 := (b30.n 32).trans rfl
  obtain ⟨h31, hh31⟩ : ∃ x, x = pR h30 32 1 35 := ⟨_, rfl⟩
  have b31 := b30.pR (a := 32) (k := 1) (v := 35) (by omega)
  rw [← hh31] at b31
  have k30 : sK h30 6 = 10 := (b30.k 6).trans rfl
  have st31 : cal (d + 4) m_Hook_init [.inr (.inr 6)] h = EX (d + 3) m_Hook_init 104 [(0, .inr (.inr 6)), (1, .inl 2)] [] h31 := by
    rw [st30, hh31]
    simp (disch := omega) only [Hook_init_121, Hook_init_122, wr_id, ix_id, okx, if_pos, if_neg, Int.toNat_of_nonneg, bak_v, bak_n, wr_b01, wr_bt, b01_or, b01_0, b01_1, lc_lt0, lc_gt0, lc_eq0, wl_wr, wr_wr, wl_id, true_and, and_true, true_or, or_true, not_true_eq_false, not_false_eq_true, nc0, nc1, nc2, nc3, nc4, nc5, nc6, nc7, nc8, nc9, nc10, nc11, nc12, nc13, nc14, nc15, nc16, nc17, nc18, nc19, nc20, nc21, nc22, nc23, nc35, nc47, nc59, nc60, nc61, nc73, nc74, nc214, nc215, nc1115, nc2230, nc3345, if_true, if_false, Int.reduceToNat, k30, x30, y30, z30, Int.reduceToNat, Int.reduceAdd, and_true]
  have q6_31 := q6_30.ro (Y := 32) (j := 1) (v := 35) (by omega)
  rw [← hh31] at q6_31
  have q7_31 := q7_30.ro (Y := 32) (j := 1) (v := 35) (by omega)
  rw [← hh31] at q7_31
  have q32_31 := q32_30.r (j := 1) (v := 35)
  rw [← hh31] at q32_31
  have dn8_31 := dn8_30.r (Y := 32) (j := 1) (v := 35) (by omega)
  rw [← hh31] at dn8_31
  have dn14_31 := dn14_30.r (Y := 32) (j := 1) (v := 35) (by omega)
  rw [← hh31] at dn14_31
  have dn20_31 := dn20_30.r (Y := 32) (j := 1) (v := 35) (by omega)
  rw [← hh31] at dn20_31
  have dn26_31 := dn26_30.r (Y := 32) (j := 1) (v := 35) (by omega)
  rw [← hh31] at dn26_31
  have dn28_31 := dn28_30.r (Y := 32) (j := 1) (v := 35) (by omega)
  rw [← hh31] at dn28_31
  have dn30_31 := dn30_30.r (Y := 32) (j := 1) (v := 35) (by omega)
  rw [← hh31] at dn30_31
  have dn33_31 := dn33_30.r (Y := 32) (j := 1) (v := 35) (by omega)
  rw [← hh31] at dn33_31
  have dn35_31 := dn35_30.r (Y := 32) (j := 1) (v := 35) (by omega)
  rw [← hh31] at dn35_31
  have u31 : Uc 6 h h31 := u30.tr (by rw [hh31]; exact fun a ha k => ⟨rfl, rfl, by rw [hR_pR, if_neg (by omega)]⟩)
  clear hh31 k30 b30 st30 u30 q6_30 q7_30 q32_30 dn8_30 dn14_30 dn20_30 dn26_30 dn28_30 dn30_30 dn33_30 dn35_30 x30 y30 z30 h30
  have r31 : hR h31 6 10 = 32 := (q6_31 10).2.2.trans rfl
  obtain ⟨h32, hh32⟩ : ∃ x, x = nwH h31 7 3 := ⟨_, rfl⟩
  have l31 := b31.l (by omega)
  have k31 : sK h31 6 = 10 := (b31.k 6).trans rfl
  obtain ⟨b32, s32⟩ := b31.nw (kd := 7) (m := 3) (by omega) (by omega) rfl
  rw [← hh32] at b32 s32
  have st32 : cal (d + 4) m_Hook_init [.inr (.inr 6)] h = EX (d + 3) m_Hook_init 117 [(0, .inr (.inr 6)), (1, .inl 2)] [.inr (.inr 37), .inl 2, .inr (.inr 32)] h32 := by
    rw [st31, hh32]
    simp (disch := omega) only [Hook_init_104, Hook_init_109, wr_id, ix_id, okx, if_pos, if_neg, Int.toNat_of_nonneg, bak_v, bak_n, wr_b01, wr_bt, b01_or, b01_0, b01_1, lc_lt0, lc_gt0, lc_eq0, wl_wr, wr_wr, wl_id, true_and, and_true, true_or, or_true, not_true_eq_false, not_false_eq_true, nc0, nc1, nc2, nc3, nc4, nc5, nc6, nc7, nc8, nc9, nc10, nc11, nc12, nc13, nc14, nc15, nc16, nc17, nc18, nc19, nc20, nc21, nc22, nc23, nc35, nc47, nc59, nc60, nc61, nc73, nc74, nc214, nc215, nc1115, nc2230, nc3345, if_true, if_false, Int.reduceToNat, l31, k31, r31]
  have q6_32 := q6_31.sm s32
  have q7_32 := q7_31.sm s32
  have q32_32 := q32_31.sm s32
  have dn8_32 := dn8_31.sm s32
  have dn14_32 := dn14_31.sm s32
  have dn20_32 := dn20_31.sm s32
  have dn26_32 := dn26_31.sm s32
  have dn28_32 := dn28_31.sm s32
  have dn30_32 := dn30_31.sm s32
  have dn33_32 := dn33_31.sm s32
  have dn35_32 := dn35_31.sm s32
  have u32 : Uc 6 h h32 := u31.tr (fun a _ k => s32 a k)
  clear hh32 l31 k31 s32 b31 st31 u31 q6_31 q7_31 q32_31 dn8_31 dn14_31 dn20_31 dn26_31 dn28_31 dn30_31 dn33_31 dn35_31 r31 h31
  obtain ⟨h33, c33, b33, dn37_33, uc33⟩ := i_tray37 (L := L) (d := d + 2) h32 b32
  have kk32 : sK h32 37 = 7 := (b32.k 37).trans rfl
  have st33 : cal (d + 4) m_Hook_init [.inr (.inr 6)] h = EX (d + 3) m_Hook_init 121 [(0, .inr (.inr 6)), (1, .inl 2)] [.inr (.inr 37), .inl 2, .inr (.inr 32)] h33 := by
    rw [st32]
    simp (disch := omega) only [Hook_init_117, wr_id, ix_id, okx, if_pos, if_neg, Int.toNat_of_nonneg, bak_v, bak_n, wr_b01, wr_bt, b01_or, b01_0, b01_1, lc_lt0, lc_gt0, lc_eq0, wl_wr, wr_wr, wl_id, true_and, and_true, true_or, or_true, not_true_eq_false, not_false_eq_true, nc0, nc1, nc2, nc3, nc4, nc5, nc6, nc7, nc8, nc9, nc10, nc11, nc12, nc13, nc14, nc15, nc16, nc17, nc18, nc19, nc20, nc21, nc22, nc23, nc35, nc47, nc59, nc60, nc61, nc73, nc74, nc214, nc215, nc1115, nc2230, nc3345, if_true, if_false, Int.reduceToNat, kk32, c33]
  have q6_33 := q6_32.uc uc33 (by omega)
  have q7_33 := q7_32.uc uc33 (by omega)
  have q32_33 := q32_32.uc uc33 (by omega)
  have dn8_33 := dn8_32.uc uc33 (by omega)
  have dn14_33 := dn14_32.uc uc33 (by omega)
  have dn20_33 := dn20_32.uc uc33 (by omega)
  have dn26_33 := dn26_32.uc uc33 (by omega)
  have dn28_33 := dn28_32.uc uc33 (by omega)
  have dn30_33 := dn30_32.uc uc33 (by omega)
  have dn33_33 := dn33_32.uc uc33 (by omega)
  have dn35_33 := dn35_32.uc uc33 (by omega)
  have u33 : Uc 6 h h33 := u32.tr (uc33.mo (by omega))
  clear c33 uc33 kk32 b32 st32 u32 q6_32 q7_32 q32_32 dn8_32 dn14_32 dn20_32 dn26_32 dn28_32 dn30_32 dn33_32 dn35_32 h32
  have x33 : sK h33 37 = 7 := (b33.k 37).trans rfl
  have y33 : sK h33 32 = 24 := (b33.k 32).trans rfl
  have z33 : sN h33 32 = 4 := (b33.n 32).trans rfl
  obtain ⟨h34, hh34⟩ : ∃ x, x = pR h33 32 2 37 := ⟨_, rfl⟩
  have b34 := b33.pR (a := 32) (k := 2) (v := 37) (by omega)
  rw [← hh34] at b34
  have k33 : sK h33 6 = 10 := (b33.k 6).trans rfl
  have st34 : cal (d + 4) m_Hook_init [.inr (.inr 6)] h = EX (d + 3) m_Hook_init 104 [(0, .inr (.inr 6)), (1, .inl 3)] [] h34 := by
    rw [st33, hh34]
    simp (disch := omega) only [Hook_init_121, Hook_init_122, wr_id, ix_id, okx, if_pos, if_neg, Int.toNat_of_nonneg, bak_v, bak_n, wr_b01, wr_bt, b01_or, b01_0, b01_1, lc_lt0, lc_gt0, lc_eq0, wl_wr, wr_wr, wl_id, true_and, and_true, true_or, or_true, not_true_eq_false, not_false_eq_true, nc0, nc1, nc2, nc3, nc4, nc5, nc6, nc7, nc8, nc9, nc10, nc11, nc12, nc13, nc14, nc15, nc16, nc17, nc18, nc19, nc20, nc21, nc22, nc23, nc35, nc47, nc59, nc60, nc61, nc73, nc74, nc214, nc215, nc1115, nc2230, nc3345, if_true, if_false, Int.reduceToNat, k33, x33, y33, z33, Int.reduceToNat, Int.reduceAdd, and_true]
  have q6_34 := q6_33.ro (Y := 32) (j := 2) (v := 37) (by omega)
  rw [← hh34] at q6_34
  have q7_34 := q7_33.ro (Y := 32) (j := 2) (v := 37) (by omega)
  rw [← hh34] at q7_34
  have q32_34 := q32_33.r (j := 2) (v := 37)
  rw [← hh34] at q32_34
  have dn8_34 := dn8_33.r (Y := 32) (j := 2) (v := 37) (by omega)
  rw [← hh34] at dn8_34
  have dn14_34 := dn14_33.r (Y := 32) (j := 2) (v := 37) (by omega)
  rw [← hh34] at dn14_34
  have dn20_34 := dn20_33.r (Y := 32) (j := 2) (v := 37) (by omega)
  rw [← hh34] at dn20_34
  have dn26_34 := dn26_33.r (Y := 32) (j := 2) (v := 37) (by omega)
  rw [← hh34] at dn26_34
  have dn28_34 := dn28_33.r (Y := 32) (j := 2) (v := 37) (by omega)
  rw [← hh34] at dn28_34
  have dn30_34 := dn30_33.r (Y := 32) (j := 2) (v := 37) (by omega)
  rw [← hh34] at dn30_34
  have dn33_34 := dn33_33.r (Y := 32) (j := 2) (v := 37) (by omega)
  rw [← hh34] at dn33_34
  have dn35_34 := dn35_33.r (Y := 32) (j := 2) (v := 37) (by omega)
  rw [← hh34] at dn35_34
  have dn37_34 := dn37_33.r (Y := 32) (j := 2) (v := 37) (by omega)
  rw [← hh34] at dn37_34
  have u34 : Uc 6 h h34 := u33.tr (by rw [hh34]; exact fun a ha k => ⟨rfl, rfl, by rw [hR_pR, if_neg (by omega)]⟩)
  clear hh34 k33 b33 st33 u33 q6_33 q7_33 q32_33 dn8_33 dn14_33 dn20_33 dn26_33 dn28_33 dn30_33 dn33_33 dn35_33 dn37_33 x33 y33 z33 h33
  have r34 : hR h34 6 10 = 32 := (q6_34 10).2.2.trans rfl
  obtain ⟨h35, hh35⟩ : ∃ x, x = nwH h34 7 3 := ⟨_, rfl⟩
  have l34 := b34.l (by omega)
  have k34 : sK h34 6 = 10 := (b34.k 6).trans rfl
  obtain ⟨b35, s35⟩ := b34.nw (kd := 7) (m := 3) (by omega) (by omega) rfl
  rw [← hh35] at b35 s35
  have st35 : cal (d + 4) m_Hook_init [.inr (.inr 6)] h = EX (d + 3) m_Hook_init 117 [(0, .inr (.inr 6)), (1, .inl 3)] [.inr (.inr 39), .inl 3, .inr (.inr 32)] h35 := by
    rw [st34, hh35]
    simp (disch := omega) only [Hook_init_104, Hook_init_109, wr_id, ix_id, okx, if_pos, if_neg, Int.toNat_of_nonneg, bak_v, bak_n, wr_b01, wr_bt, b01_or, b01_0, b01_1, lc_lt0, lc_gt0, lc_eq0, wl_wr, wr_wr, wl_id, true_and, and_true, true_or, or_true, not_true_eq_false, not_false_eq_true, nc0, nc1, nc2, nc3, nc4, nc5, nc6, nc7, nc8, nc9, nc10, nc11, nc12, nc13, nc14, nc15, nc16, nc17, nc18, nc19, nc20, nc21, nc22, nc23, nc35, nc47, nc59, nc60, nc61, nc73, nc74, nc214, nc215, nc1115, nc2230, nc3345, if_true, if_false, Int.reduceToNat, l34, k34, r34]
  have q6_35 := q6_34.sm s35
  have q7_35 := q7_34.sm s35
  have q32_35 := q32_34.sm s35
  have dn8_35 := dn8_34.sm s35
  have dn14_35 := dn14_34.sm s35
  have dn20_35 := dn20_34.sm s35
  have dn26_35 := dn26_34.sm s35
  have dn28_35 := dn28_34.sm s35
  have dn30_35 := dn30_34.sm s35
  have dn33_35 := dn33_34.sm s35
  have dn35_35 := dn35_34.sm s35
  have dn37_35 := dn37_34.sm s35
  have u35 : Uc 6 h h35 := u34.tr (fun a _ k => s35 a k)
  clear hh35 l34 k34 s35 b34 st34 u34 q6_34 q7_34 q32_34 dn8_34 dn14_34 dn20_34 dn26_34 dn28_34 dn30_34 dn33_34 dn35_34 dn37_34 r34 h34
  obtain ⟨h36, c36, b36, dn39_36, uc36⟩ := i_tray39 (L := L) (d := d + 2) h35 b35
  have kk35 : sK h35 39 = 7 := (b35.k 39).trans rfl
  have st36 : cal (d + 4) m_Hook_init [.inr (.inr 6)] h = EX (d + 3) m_Hook_init 121 [(0, .inr (.inr 6)), (1, .inl 3)] [.inr (.inr 39), .inl 3, .inr (.inr 32)] h36 := by
    rw [st35]
    simp (disch := omega) only [Hook_init_117, wr_id, ix_id, okx, if_pos, if_neg, Int.toNat_of_nonneg, bak_v, bak_n, wr_b01, wr_bt, b01_or, b01_0, b01_1, lc_lt0, lc_gt0, lc_eq0, wl_wr, wr_wr, wl_id, true_and, and_true, true_or, or_true, not_true_eq_false, not_false_eq_true, nc0, nc1, nc2, nc3, nc4, nc5, nc6, nc7, nc8, nc9, nc10, nc11, nc12, nc13, nc14, nc15, nc16, nc17, nc18, nc19, nc20, nc21, nc22, nc23, nc35, nc47, nc59, nc60, nc61, nc73, nc74, nc214, nc215, nc1115, nc2230, nc3345, if_true, if_false, Int.reduceToNat, kk35, c36]
  have q6_36 := q6_35.uc uc36 (by omega)
  have q7_36 := q7_35.uc uc36 (by omega)
  have q32_36 := q32_35.uc uc36 (by omega)
  have dn8_36 := dn8_35.uc uc36 (by omega)
  have dn14_36 := dn14_35.uc uc36 (by omega)
  have dn20_36 := dn20_35.uc uc36 (by omega)
  have dn26_36 := dn26_35.uc uc36 (by omega)
  have dn28_36 := dn28_35.uc uc36 (by omega)
  have dn30_36 := dn30_35.uc uc36 (by omega)
  have dn33_36 := dn33_35.uc uc36 (by omega)
  have dn35_36 := dn35_35.uc uc36 (by omega)
  have dn37_36 := dn37_35.uc uc36 (by omega)
  have u36 : Uc 6 h h36 := u35.tr (uc36.mo (by omega))
  clear c36 uc36 kk35 b35 st35 u35 q6_35 q7_35 q32_35 dn8_35 dn14_35 dn20_35 dn26_35 dn28_35 dn30_35 dn33_35 dn35_35 dn37_35 h35
  have x36 : sK h36 39 = 7 := (b36.k 39).trans rfl
  have y36 : sK h36 32 = 24 := (b36.k 32).trans rfl
  have z36 : sN h36 32 = 4 := (b36.n 32).trans rfl
  obtain ⟨h37, hh37⟩ : ∃ x, x = pR h36 32 3 39 := ⟨_, rfl⟩
  have b37 := b36.pR (a := 32) (k := 3) (v := 39) (by omega)
  rw [← hh37] at b37
  have k36 : sK h36 6 = 10 := (b36.k 6).trans rfl
  have st37 : cal (d + 4) m_Hook_init [.inr (.inr 6)] h = EX (d + 3) m_Hook_init 104 [(0, .inr (.inr 6)), (1, .inl 4)] [] h37 := by
    rw [st36, hh37]
    simp (disch := omega) only [Hook_init_121, Hook_init_122, wr_id, ix_id, okx, if_pos, if_neg, Int.toNat_of_nonneg, bak_v, bak_n, wr_b01, wr_bt, b01_or, b01_0, b01_1, lc_lt0, lc_gt0, lc_eq0, wl_wr, wr_wr, wl_id, true_and, and_true, true_or, or_true, not_true_eq_false, not_false_eq_true, nc0, nc1, nc2, nc3, nc4, nc5, nc6, nc7, nc8, nc9, nc10, nc11, nc12, nc13, nc14, nc15, nc16, nc17, nc18, nc19, nc20, nc21, nc22, nc23, nc35, nc47, nc59, nc60, nc61, nc73, nc74, nc214, nc215, nc1115, nc2230, nc3345, if_true, if_false, Int.reduceToNat, k36, x36, y36, z36, Int.reduceToNat, Int.reduceAdd, and_true]
  have q6_37 := q6_36.ro (Y := 32) (j := 3) (v := 39) (by omega)
  rw [← hh37] at q6_37
  have q7_37 := q7_36.ro (Y := 32) (j := 3) (v := 39) (by omega)
  rw [← hh37] at q7_37
  have q32_37 := q32_36.r (j := 3) (v := 39)
  rw [← hh37] at q32_37
  have dn8_37 := dn8_36.r (Y := 32) (j := 3) (v := 39) (by omega)
  rw [← hh37] at dn8_37
  have dn14_37 := dn14_36.r (Y := 32) (j := 3) (v := 39) (by omega)
  rw [← hh37] at dn14_37
  have dn20_37 := dn20_36.r (Y := 32) (j := 3) (v := 39) (by omega)
  rw [← hh37] at dn20_37
  have dn26_37 := dn26_36.r (Y := 32) (j := 3) (v := 39) (by omega)
  rw [← hh37] at dn26_37
  have dn28_37 := dn28_36.r (Y := 32) (j := 3) (v := 39) (by omega)
  rw [← hh37] at dn28_37
  have dn30_37 := dn30_36.r (Y := 32) (j := 3) (v := 39) (by omega)
  rw [← hh37] at dn30_37
  have dn33_37 := dn33_36.r (Y := 32) (j := 3) (v := 39) (by omega)
  rw [← hh37] at dn33_37
  have dn35_37 := dn35_36.r (Y := 32) (j := 3) (v := 39) (by omega)
  rw [← hh37] at dn35_37
  have dn37_37 := dn37_36.r (Y := 32) (j := 3) (v := 39) (by omega)
  rw [← hh37] at dn37_37
  have dn39_37 := dn39_36.r (Y := 32) (j := 3) (v := 39) (by omega)
  rw [← hh37] at dn39_37
  have u37 : Uc 6 h h37 := u36.tr (by rw [hh37]; exact fun a ha k => ⟨rfl, rfl, by rw [hR_pR, if_neg (by omega)]⟩)
  clear hh37 k36 b36 st36 u36 q6_36 q7_36 q32_36 dn8_36 dn14_36 dn20_36 dn26_36 dn28_36 dn30_36 dn33_36 dn35_36 dn37_36 dn39_36 x36 y36 z36 h36
  obtain ⟨h38, hh38⟩ : ∃ x, x = nwH h37 25 2 := ⟨_, rfl⟩
  have l37 := b37.l (by omega)
  have k37 : sK h37 6 = 10 := (b37.k 6).trans rfl
  obtain ⟨b38, s38⟩ := b37.nw (kd := 25) (m := 2) (by omega) (by omega) rfl
  rw [← hh38] at b38 s38
  have st38 : cal (d + 4) m_Hook_init [.inr (.inr 6)] h = EX (d + 3) m_Hook_init 133 [(0, .inr (.inr 6))] [.inr (.inr 41), .inr (.inr 6)] h38 := by
    rw [st37, hh38]
    simp (disch := omega) only [Hook_init_104, Hook_init_128, wr_id, ix_id, okx, if_pos, if_neg, Int.toNat_of_nonneg, bak_v, bak_n, wr_b01, wr_bt, b01_or, b01_0, b01_1, lc_lt0, lc_gt0, lc_eq0, wl_wr, wr_wr, wl_id, true_and, and_true, true_or, or_true, not_true_eq_false, not_false_eq_true, nc0, nc1, nc2, nc3, nc4, nc5, nc6, nc7, nc8, nc9, nc10, nc11, nc12, nc13, nc14, nc15, nc16, nc17, nc18, nc19, nc20, nc21, nc22, nc23, nc35, nc47, nc59, nc60, nc61, nc73, nc74, nc214, nc215, nc1115, nc2230, nc3345, if_true, if_false, Int.reduceToNat, l37, k37]
  have q6_38 := q6_37.sm s38
  have q7_38 := q7_37.sm s38
  have q32_38 := q32_37.sm s38
  have dn8_38 := dn8_37.sm s38
  have dn14_38 := dn14_37.sm s38
  have dn20_38 := dn20_37.sm s38
  have dn26_38 := dn26_37.sm s38
  have dn28_38 := dn28_37.sm s38
  have dn30_38 := dn30_37.sm s38
  have dn33_38 := dn33_37.sm s38
  have dn35_38 := dn35_37.sm s38
  have dn37_38 := dn37_37.sm s38
  have dn39_38 := dn39_37.sm s38
  have u38 : Uc 6 h h38 := u37.tr (fun a _ k => s38 a k)
  clear hh38 l37 k37 s38 b37 st37 u37 q6_37 q7_37 q32_37 dn8_37 dn14_37 dn20_37 dn26_37 dn28_37 dn30_37 dn33_37 dn35_37 dn37_37 dn39_37 h37
  have q41_38 := b38.cl (X := 41) (by omega)
  replace b38 := b38.up (show 41 ≤ 42 by omega)
  obtain ⟨h39, hh39⟩ : ∃ x, x = pR h38 6 11 41 := ⟨_, rfl⟩
  have b39 := b38.pR (a := 6) (k := 11) (v := 41) (by omega)
  rw [← hh39] at b39
  have k38 : sK h38 6 = 10 := (b38.k 6).trans rfl
  have st39 : cal (d + 4) m_Hook_init [.inr (.inr 6)] h = EX (d + 3) m_Hook_init 136 [(0, .inr (.inr 6))] [] h39 := by
    rw [st38, hh39]
    simp (disch := omega) only [Hook_init_133, wr_id, ix_id, okx, if_pos, if_neg, Int.toNat_of_nonneg, bak_v, bak_n, wr_b01, wr_bt, b01_or, b01_0, b01_1, lc_lt0, lc_gt0, lc_eq0, wl_wr, wr_wr, wl_id, true_and, and_true, true_or, or_true, not_true_eq_false, not_false_eq_true, nc0, nc1, nc2, nc3, nc4, nc5, nc6, nc7, nc8, nc9, nc10, nc11, nc12, nc13, nc14, nc15, nc16, nc17, nc18, nc19, nc20, nc21, nc22, nc23, nc35, nc47, nc59, nc60, nc61, nc73, nc74, nc214, nc215, nc1115, nc2230, nc3345, if_true, if_false, Int.reduceToNat, k38]
  have q6_39 := q6_38.r (j := 11) (v := 41)
  rw [← hh39] at q6_39
  have q7_39 := q7_38.ro (Y := 6) (j := 11) (v := 41) (by omega)
  rw [← hh39] at q7_39
  have q32_39 := q32_38.ro (Y := 6) (j := 11) (v := 41) (by omega)
  rw [← hh39] at q32_39
  have q41_39 := q41_38.ro (Y := 6) (j := 11) (v := 41) (by omega)
  rw [← hh39] at q41_39
  have dn8_39 := dn8_38.r (Y := 6) (j := 11) (v := 41) (by omega)
  rw [← hh39] at dn8_39
  have dn14_39 := dn14_38.r (Y := 6) (j := 11) (v := 41) (by omega)
  rw [← hh39] at dn14_39
  have dn20_39 := dn20_38.r (Y := 6) (j := 11) (v := 41) (by omega)
  rw [← hh39] at dn20_39
  have dn26_39 := dn26_38.r (Y := 6) (j := 11) (v := 41) (by omega)
  rw [← hh39] at dn26_39
  have dn28_39 := dn28_38.r (Y := 6) (j := 11) (v := 41) (by omega)
  rw [← hh39] at dn28_39
  have dn30_39 := dn30_38.r (Y := 6) (j := 11) (v := 41) (by omega)
  rw [← hh39] at dn30_39
  have dn33_39 := dn33_38.r (Y := 6) (j := 11) (v := 41) (by omega)
  rw [← hh39] at dn33_39
  have dn35_39 := dn35_38.r (Y := 6) (j := 11) (v := 41) (by omega)
  rw [← hh39] at dn35_39
  have dn37_39 := dn37_38.r (Y := 6) (j := 11) (v := 41) (by omega)
  rw [← hh39] at dn37_39
  have dn39_39 := dn39_38.r (Y := 6) (j := 11) (v := 41) (by omega)
  rw [← hh39] at dn39_39
  have u39 : Uc 6 h h39 := u38.tr (by rw [hh39]; exact fun a ha k => ⟨rfl, rfl, by rw [hR_pR, if_neg (by omega)]⟩)
  clear hh39 k38 b38 st38 u38 q6_38 q7_38 q32_38 q41_38 dn8_38 dn14_38 dn20_38 dn26_38 dn28_38 dn30_38 dn33_38 dn35_38 dn37_38 dn39_38 h38
  obtain ⟨h40, hh40⟩ : ∃ x, x = nwH h39 26 2 := ⟨_, rfl⟩
  have l39 := b39.l (by omega)
  have k39 : sK h39 6 = 10 := (b39.k 6).trans rfl
  obtain ⟨b40, s40⟩ := b39.nw (kd := 26) (m := 2) (by omega) (by omega) rfl
  rw [← hh40] at b40 s40
  have st40 : cal (d + 4) m_Hook_init [.inr (.inr 6)] h = EX (d + 3) m_Hook_init 141 [(0, .inr (.inr 6))] [.inr (.inr 42), .inr (.inr 6)] h40 := by
    rw [st39, hh40]
    simp (disch := omega) only [Hook_init_136, wr_id, ix_id, okx, if_pos, if_neg, Int.toNat_of_nonneg, bak_v, bak_n, wr_b01, wr_bt, b01_or, b01_0, b01_1, lc_lt0, lc_gt0, lc_eq0, wl_wr, wr_wr, wl_id, true_and, and_true, true_or, or_true, not_true_eq_false, not_false_eq_true, nc0, nc1, nc2, nc3, nc4, nc5, nc6, nc7, nc8, nc9, nc10, nc11, nc12, nc13, nc14, nc15, nc16, nc17, nc18, nc19, nc20, nc21, nc22, nc23, nc35, nc47, nc59, nc60, nc61, nc73, nc74, nc214, nc215, nc1115, nc2230, nc3345, if_true, if_false, Int.reduceToNat, l39, k39]
  have q6_40 := q6_39.sm s40
  have q7_40 := q7_39.sm s40
  have q32_40 := q32_39.sm s40
  have q41_40 := q41_39.sm s40
  have dn8_40 := dn8_39.sm s40
  have dn14_40 := dn14_39.sm s40
  have dn20_40 := dn20_39.sm s40
  have dn26_40 := dn26_39.sm s40
  have dn28_40 := dn28_39.sm s40
  have dn30_40 := dn30_39.sm s40
  have dn33_40 := dn33_39.sm s40
  have dn35_40 := dn35_39.sm s40
  have dn37_40 := dn37_39.sm s40
  have dn39_40 := dn39_39.sm s40
  have u40 : Uc 6 h h40 := u39.tr (fun a _ k => s40 a k)
  clear hh40 l39 k39 s40 b39 st39 u39 q6_39 q7_39 q32_39 q41_39 dn8_39 dn14_39 dn20_39 dn26_39 dn28_39 dn30_39 dn33_39 dn35_39 dn37_39 dn39_39 h39
  have q42_40 := b40.cl (X := 42) (by omega)
  replace b40 := b40.up (show 42 ≤ 43 by omega)
  obtain ⟨h41, hh41⟩ : ∃ x, x = pR h40 6 12 42 := ⟨_, rfl⟩
  have b41 := b40.pR (a := 6) (k := 12) (v := 42) (by omega)
  rw [← hh41] at b41
  have k40 : sK h40 6 = 10 := (b40.k 6).trans rfl
  have st41 : cal (d + 4) m_Hook_init [.inr (.inr 6)] h = EX (d + 3) m_Hook_init 144 [(0, .inr (.inr 6))] [] h41 := by
    rw [st40, hh41]
    simp (disch := omega) only [Hook_init_141, wr_id, ix_id, okx, if_pos, if_neg, Int.toNat_of_nonneg, bak_v, bak_n, wr_b01, wr_bt, b01_or, b01_0, b01_1, lc_lt0, lc_gt0, lc_eq0, wl_wr, wr_wr, wl_id, true_and, and_true, true_or, or_true, not_true_eq_false, not_false_eq_true, nc0, nc1, nc2, nc3, nc4, nc5, nc6, nc7, nc8, nc9, nc10, nc11, nc12, nc13, nc14, nc15, nc16, nc17, nc18, nc19, nc20, nc21, nc22, nc23, nc35, nc47, nc59, nc60, nc61, nc73, nc74, nc214, nc215, nc1115, nc2230, nc3345, if_true, if_false, Int.reduceToNat, k40]
  have q6_41 := q6_40.r (j := 12) (v := 42)
  rw [← hh41] at q6_41
  have q7_41 := q7_40.ro (Y := 6) (j := 12) (v := 42) (by omega)
  rw [← hh41] at q7_41
  have q32_41 := q32_40.ro (Y := 6) (j := 12) (v := 42) (by omega)
  rw [← hh41] at q32_41
  have q41_41 := q41_40.ro (Y := 6) (j := 12) (v := 42) (by omega)
  rw [← hh41] at q41_41
  have q42_41 := q42_40.ro (Y := 6) (j := 12) (v := 42) (by omega)
  rw [← hh41] at q42_41
  have dn8_41 := dn8_40.r (Y := 6) (j := 12) (v := 42) (by omega)
  rw [← hh41] at dn8_41
  have dn14_41 := dn14_40.r (Y := 6) (j := 12) (v := 42) (by omega)
  rw [← hh41] at dn14_41
  have dn20_41 := dn20_40.r (Y := 6) (j := 12) (v := 42) (by omega)
  rw [← hh41] at dn20_41
  have dn26_41 := dn26_40.r (Y := 6) (j := 12) (v := 42) (by omega)
  rw [← hh41] at dn26_41
  have dn28_41 := dn28_40.r (Y := 6) (j := 12) (v := 42) (by omega)
  rw [← hh41] at dn28_41
  have dn30_41 := dn30_40.r (Y := 6) (j := 12) (v := 42) (by omega)
  rw [← hh41] at dn30_41
  have dn33_41 := dn33_40.r (Y := 6) (j := 12) (v := 42) (by omega)
  rw [← hh41] at dn33_41
  have dn35_41 := dn35_40.r (Y := 6) (j := 12) (v := 42) (by omega)
  rw [← hh41] at dn35_41
  have dn37_41 := dn37_40.r (Y := 6) (j := 12) (v := 42) (by omega)
  rw [← hh41] at dn37_41
  have dn39_41 := dn39_40.r (Y := 6) (j := 12) (v := 42) (by omega)
  rw [← hh41] at dn39_41
  have u41 : Uc 6 h h41 := u40.tr (by rw [hh41]; exact fun a ha k => ⟨rfl, rfl, by rw [hR_pR, if_neg (by omega)]⟩)
  clear hh41 k40 b40 st40 u40 q6_40 q7_40 q32_40 q41_40 q42_40 dn8_40 dn14_40 dn20_40 dn26_40 dn28_40 dn30_40 dn33_40 dn35_40 dn37_40 dn39_40 h40
  obtain ⟨h42, hh42⟩ : ∃ x, x = nwH h41 23 2 := ⟨_, rfl⟩
  have l41 := b41.l (by omega)
  have k41 : sK h41 6 = 10 := (b41.k 6).trans rfl
  obtain ⟨b42, s42⟩ := b41.nw (kd := 23) (m := 2) (by omega) (by omega) rfl
  rw [← hh42] at b42 s42
  have st42 : cal (d + 4) m_Hook_init [.inr (.inr 6)] h = EX (d + 3) m_Hook_init 148 [(0, .inr (.inr 6))] [.inr (.inr 43), .inr (.inr 6)] h42 := by
    rw [st41, hh42]
    simp (disch := omega) only [Hook_init_144, wr_id, ix_id, okx, if_pos, if_neg, Int.toNat_of_nonneg, bak_v, bak_n, wr_b01, wr_bt, b01_or, b01_0, b01_1, lc_lt0, lc_gt0, lc_eq0, wl_wr, wr_wr, wl_id, true_and, and_true, true_or, or_true, not_true_eq_false, not_false_eq_true, nc0, nc1, nc2, nc3, nc4, nc5, nc6, nc7, nc8, nc9, nc10, nc11, nc12, nc13, nc14, nc15, nc16, nc17, nc18, nc19, nc20, nc21, nc22, nc23, nc35, nc47, nc59, nc60, nc61, nc73, nc74, nc214, nc215, nc1115, nc2230, nc3345, if_true, if_false, Int.reduceToNat, l41, k41]
  have q6_42 := q6_41.sm s42
  have q7_42 := q7_41.sm s42
  have q32_42 := q32_41.sm s42
  have q41_42 := q41_41.sm s42
  have q42_42 := q42_41.sm s42
  have dn8_42 := dn8_41.sm s42
  have dn14_42 := dn14_41.sm s42
  have dn20_42 := dn20_41.sm s42
  have dn26_42 := dn26_41.sm s42
  have dn28_42 := dn28_41.sm s42
  have dn30_42 := dn30_41.sm s42
  have dn33_42 := dn33_41.sm s42
  have dn35_42 := dn35_41.sm s42
  have dn37_42 := dn37_41.sm s42
  have dn39_42 := dn39_41.sm s42
  have u42 : Uc 6 h h42 := u41.tr (fun a _ k => s42 a k)
  clear hh42 l41 k41 s42 b41 st41 u41 q6_41 q7_41 q32_41 q41_41 q42_41 dn8_41 dn14_41 dn20_41 dn26_41 dn28_41 dn30_41 dn33_41 dn35_41 dn37_41 dn39_41 h41
  have q43_42 := b42.cl (X := 43) (by omega)
  replace b42 := b42.up (show 43 ≤ 44 by omega)
  obtain ⟨h43, hh43⟩ : ∃ x, x = pR h42 6 13 43 := ⟨_, rfl⟩
  have b43 := b42.pR (a := 6) (k := 13) (v := 43) (by omega)
  rw [← hh43] at b43
  have k42 : sK h42 6 = 10 := (b42.k 6).trans rfl
  have st43 : cal (d + 4) m_Hook_init [.inr (.inr 6)] h = EX (d + 3) m_Hook_init 153 [(0, .inr (.inr 6)), (1, .inl 0)] [] h43 := by
    rw [st42, hh43]
    simp (disch := omega) only [Hook_init_148, Hook_init_151, wr_id, ix_id, okx, if_pos, if_neg, Int.toNat_of_nonneg, bak_v, bak_n, wr_b01, wr_bt, b01_or, b01_0, b01_1, lc_lt0, lc_gt0, lc_eq0, wl_wr, wr_wr, wl_id, true_and, and_true, true_or, or_true, not_true_eq_false, not_false_eq_true, nc0, nc1, nc2, nc3, nc4, nc5, nc6, nc7, nc8, nc9, nc10, nc11, nc12, nc13, nc14, nc15, nc16, nc17, nc18, nc19, nc20, nc21, nc22, nc23, nc35, nc47, nc59, nc60, nc61, nc73, nc74, nc214, nc215, nc1115, nc2230, nc3345, if_true, if_false, Int.reduceToNat, k42]
  have q6_43 := q6_42.r (j := 13) (v := 43)
  rw [← hh43] at q6_43
  have q7_43 := q7_42.ro (Y := 6) (j := 13) (v := 43) (by omega)
  rw [← hh43] at q7_43
  have q32_43 := q32_42.ro (Y := 6) (j := 13) (v := 43) (by omega)
  rw [← hh43] at q32_43
  have q41_43 := q41_42.ro (Y := 6) (j := 13) (v := 43) (by omega)
  rw [← hh43] at q41_43
  have q42_43 := q42_42.ro (Y := 6) (j := 13) (v := 43) (by omega)
  rw [← hh43] at q42_43
  have q43_43 := q43_42.ro (Y := 6) (j := 13) (v := 43) (by omega)
  rw [← hh43] at q43_43
  have dn8_43 := dn8_42.r (Y := 6) (j := 13) (v := 43) (by omega)
  rw [← hh43] at dn8_43
  have dn14_43 := dn14_42.r (Y := 6) (j := 13) (v := 43) (by omega)
  rw [← hh43] at dn14_43
  have dn20_43 := dn20_42.r (Y := 6) (j := 13) (v := 43) (by omega)
  rw [← hh43] at dn20_43
  have dn26_43 := dn26_42.r (Y := 6) (j := 13) (v := 43) (by omega)
  rw [← hh43] at dn26_43
  have dn28_43 := dn28_42.r (Y := 6) (j := 13) (v := 43) (by omega)
  rw [← hh43] at dn28_43
  have dn30_43 := dn30_42.r (Y := 6) (j := 13) (v := 43) (by omega)
  rw [← hh43] at dn30_43
  have dn33_43 := dn33_42.r (Y := 6) (j := 13) (v := 43) (by omega)
  rw [← hh43] at dn33_43
  have dn35_43 := dn35_42.r (Y := 6) (j := 13) (v := 43) (by omega)
  rw [← hh43] at dn35_43
  have dn37_43 := dn37_42.r (Y := 6) (j := 13) (v := 43) (by omega)
  rw [← hh43] at dn37_43
  have dn39_43 := dn39_42.r (Y := 6) (j := 13) (v := 43) (by omega)
  rw [← hh43] at dn39_43
  have u43 : Uc 6 h h43 := u42.tr (by rw [hh43]; exact fun a ha k => ⟨rfl, rfl, by rw [hR_pR, if_neg (by omega)]⟩)
  clear hh43 k42 b42 st42 u42 q6_42 q7_42 q32_42 q41_42 q42_42 q43_42 dn8_42 dn14_42 dn20_42 dn26_42 dn28_42 dn30_42 dn33_42 dn35_42 dn37_42 dn39_42 h42
  have r43 : hR h43 6 11 = 41 := (q6_43 11).2.2.trans rfl
  obtain ⟨h44, hh44⟩ : ∃ x, x = nwH h43 9 15 := ⟨_, rfl⟩
  have l43 := b43.l (by omega)
  have k43 : sK h43 6 = 10 := (b43.k 6).trans rfl
  obtain ⟨b44, s44⟩ := b43.nw (kd := 9) (m := 15) (by omega) (by omega) rfl
  rw [← hh44] at b44 s44
  have st44 : cal (d + 4) m_Hook_init [.inr (.inr 6)] h = EX (d + 3) m_Hook_init 166 [(0, .inr (.inr 6)), (1, .inl 0)] [.inr (.inr 44), .inl 0, .inr (.inr 41)] h44 := by
    rw [st43, hh44]
    simp (disch := omega) only [Hook_init_153, Hook_init_158, wr_id, ix_id, okx, if_pos, if_neg, Int.toNat_of_nonneg, bak_v, bak_n, wr_b01, wr_bt, b01_or, b01_0, b01_1, lc_lt0, lc_gt0, lc_eq0, wl_wr, wr_wr, wl_id, true_and, and_true, true_or, or_true, not_true_eq_false, not_false_eq_true, nc0, nc1, nc2, nc3, nc4, nc5, nc6, nc7, nc8, nc9, nc10, nc11, nc12, nc13, nc14, nc15, nc16, nc17, nc18, nc19, nc20, nc21, nc22, nc23, nc35, nc47, nc59, nc60, nc61, nc73, nc74, nc214, nc215, nc1115, nc2230, nc3345, if_true, if_false, Int.reduceToNat, l43, k43, r43]
  have q6_44 := q6_43.sm s44
  have q7_44 := q7_43.sm s44
  have q32_44 := q32_43.sm s44
  have q41_44 := q41_43.sm s44
  have q42_44 := q42_43.sm s44
  have q43_44 := q43_43.sm s44
  have dn8_44 := dn8_43.sm s44
  have dn14_44 := dn14_43.sm s44
  have dn20_44 := dn20_43.sm s44
  have dn26_44 := dn26_43.sm s44
  have dn28_44 := dn28_43.sm s44
  have dn30_44 := dn30_43.sm s44
  have dn33_44 := dn33_43.sm s44
  have dn35_44 := dn35_43.sm s44
  have dn37_44 := dn37_43.sm s44
  have dn39_44 := dn39_43.sm s44
  have u44 : Uc 6 h h44 := u43.tr (fun a _ k => s44 a k)
  clear hh44 l43 k43 s44 b43 st43 u43 q6_43 q7_43 q32_43 q41_43 q42_43 q43_43 dn8_43 dn14_43 dn20_43 dn26_43 dn28_43 dn30_43 dn33_43 dn35_43 dn37_43 dn39_43 r43 h43
  obtain ⟨h45, c45, b45, dn44_45, uc45⟩ := i_win44 (L := L) (d := d + 0) h44 b44
  have kk44 : sK h44 44 = 9 := (b44.k 44).trans rfl
  have st45 : cal (d + 4) m_Hook_init [.inr (.inr 6)] h = EX (d + 3) m_Hook_init 170 [(0, .inr (.inr 6)), (1, .inl 0)] [.inr (.inr 44), .inl 0, .inr (.inr 41)] h45 := by
    rw [st44]
    simp (disch := omega) only [Hook_init_166, wr_id, ix_id, okx, if_pos, if_neg, Int.toNat_of_nonneg, bak_v, bak_n, wr_b01, wr_bt, b01_or, b01_0, b01_1, lc_lt0, lc_gt0, lc_eq0, wl_wr, wr_wr, wl_id, true_and, and_true, true_or, or_true, not_true_eq_false, not_false_eq_true, nc0, nc1, nc2, nc3, nc4, nc5, nc6, nc7, nc8, nc9, nc10, nc11, nc12, nc13, nc14, nc15, nc16, nc17, nc18, nc19, nc20, nc21, nc22, nc23, nc35, nc47, nc59, nc60, nc61, nc73, nc74, nc214, nc215, nc1115, nc2230, nc3345, if_true, if_false, Int.reduceToNat, kk44, c45]
  have q6_45 := q6_44.uc uc45 (by omega)
  have q7_45 := q7_44.uc uc45 (by omega)
  have q32_45 := q32_44.uc uc45 (by omega)
  have q41_45 := q41_44.uc uc45 (by omega)
  have q42_45 := q42_44.uc uc45 (by omega)
  have q43_45 := q43_44.uc uc45 (by omega)
  have dn8_45 := dn8_44.uc uc45 (by omega)
  have dn14_45 := dn14_44.uc uc45 (by omega)
  have dn20_45 := dn20_44.uc uc45 (by omega)
  have dn26_45 := dn26_44.uc uc45 (by omega)
  have dn28_45 := dn28_44.uc uc45 (by omega)
  have dn30_45 := dn30_44.uc uc45 (by omega)
  have dn33_45 := dn33_44.uc uc45 (by omega)
  have dn35_45 := dn35_44.uc uc45 (by omega)
  have dn37_45 := dn37_44.uc uc45 (by omega)
  have dn39_45 := dn39_44.uc uc45 (by omega)
  have u45 : Uc 6 h h45 := u44.tr (uc45.mo (by omega))
  clear c45 uc45 kk44 b44 st44 u44 q6_44 q7_44 q32_44 q41_44 q42_44 q43_44 dn8_44 dn14_44 dn20_44 dn26_44 dn28_44 dn30_44 dn33_44 dn35_44 dn37_44 dn39_44 h44
  have x45 : sK h45 44 = 9 := (b45.k 44).trans rfl
  have y45 : sK h45 41 = 25 := (b45.k 41).trans rfl
  have z45 : sN h45 41 = 2 := (b45.n 41).trans rfl
  obtain ⟨h46, hh46⟩ : ∃ x, x = pR h45 41 0 44 := ⟨_, rfl⟩
  have b46 := b45.pR (a := 41) (k := 0) (v := 44) (by omega)
  rw [← hh46] at b46
  have k45 : sK h45 6 = 10 := (b45.k 6).trans rfl
  have st46 : cal (d + 4) m_Hook_init [.inr (.inr 6)] h = EX (d + 3) m_Hook_init 171 [(0, .inr (.inr 6)), (1, .inl 0)] [] h46 := by
    rw [st45, hh46]
    simp (disch := omega) only [Hook_init_170, wr_id, ix_id, okx, if_pos, if_neg, Int.toNat_of_nonneg, bak_v, bak_n, wr_b01, wr_bt, b01_or, b01_0, b01_1, lc_lt0, lc_gt0, lc_eq0, wl_wr, wr_wr, wl_id, true_and, and_true, true_or, or_true, not_true_eq_false, not_false_eq_true, nc0, nc1, nc2, nc3, nc4, nc5, nc6, nc7, nc8, nc9, nc10, nc11, nc12, nc13, nc14, nc15, nc16, nc17, nc18, nc19, nc20, nc21, nc22, nc23, nc35, nc47, nc59, nc60, nc61, nc73, nc74, nc214, nc215, nc1115, nc2230, nc3345, if_true, if_false, Int.reduceToNat, k45, x45, y45, z45, Int.reduceToNat, Int.reduceAdd, and_true]
  have q6_46 := q6_45.ro (Y := 41) (j := 0) (v := 44) (by omega)
  rw [← hh46] at q6_46
  have q7_46 := q7_45.ro (Y := 41) (j := 0) (v := 44) (by omega)
  rw [← hh46] at q7_46
  have q32_46 := q32_45.ro (Y := 41) (j := 0) (v := 44) (by omega)
  rw [← hh46] at q32_46
  have q41_46 := q41_45.r (j := 0) (v := 44)
  rw [← hh46] at q41_46
  have q42_46 := q42_45.ro (Y := 41) (j := 0) (v := 44) (by omega)
  rw [← hh46] at q42_46
  have q43_46 := q43_45.ro (Y := 41) (j := 0) (v := 44) (by omega)
  rw [← hh46] at q43_46
  have dn8_46 := dn8_45.r (Y := 41) (j := 0) (v := 44) (by omega)
  rw [← hh46] at dn8_46
  have dn14_46 := dn14_45.r (Y := 41) (j := 0) (v := 44) (by omega)
  rw [← hh46] at dn14_46
  have dn20_46 := dn20_45.r (Y := 41) (j := 0) (v := 44) (by omega)
  rw [← hh46] at dn20_46
  have dn26_46 := dn26_45.r (Y := 41) (j := 0) (v := 44) (by omega)
  rw [← hh46] at dn26_46
  have dn28_46 := dn28_45.r (Y := 41) (j := 0) (v := 44) (by omega)
  rw [← hh46] at dn28_46
  have dn30_46 := dn30_45.r (Y := 41) (j := 0) (v := 44) (by omega)
  rw [← hh46] at dn30_46
  have dn33_46 := dn33_45.r (Y := 41) (j := 0) (v := 44) (by omega)
  rw [← hh46] at dn33_46
  have dn35_46 := dn35_45.r (Y := 41) (j := 0) (v := 44) (by omega)
  rw [← hh46] at dn35_46
  have dn37_46 := dn37_45.r (Y := 41) (j := 0) (v := 44) (by omega)
  rw [← hh46] at dn37_46
  have dn39_46 := dn39_45.r (Y := 41) (j := 0) (v := 44) (by omega)
  rw [← hh46] at dn39_46
  have dn44_46 := dn44_45.r (Y := 41) (j := 0) (v := 44) (by omega)
  rw [← hh46] at dn44_46
  have u46 : Uc 6 h h46 := u45.tr (by rw [hh46]; exact fun a ha k => ⟨rfl, rfl, by rw [hR_pR, if_neg (by omega)]⟩)
  clear hh46 k45 b45 st45 u45 q6_45 q7_45 q32_45 q41_45 q42_45 q43_45 dn8_45 dn14_45 dn20_45 dn26_45 dn28_45 dn30_45 dn33_45 dn35_45 dn37_45 dn39_45 dn44_45 x45 y45 z45 h45
  have r46 : hR h46 6 12 = 42 := (q6_46 12).2.2.trans rfl
  obtain ⟨h47, hh47⟩ : ∃ x, x = nwH h46 0 3 := ⟨_, rfl⟩
  have l46 := b46.l (by omega)
  have k46 : sK h46 6 = 10 := (b46.k 6).trans rfl
  obtain ⟨b47, s47⟩ := b46.nw (kd := 0) (m := 3) (by omega) (by omega) rfl
  rw [← hh47] at b47 s47
  have st47 : cal (d + 4) m_Hook_init [.inr (.inr 6)] h = EX (d + 3) m_Hook_init 179 [(0, .inr (.inr 6)), (1, .inl 0)] [.inr (.inr 50), .inl 0, .inr (.inr 42)] h47 := by
    rw [st46, hh47]
    simp (disch := omega) only [Hook_init_171, wr_id, ix_id, okx, if_pos, if_neg, Int.toNat_of_nonneg, bak_v, bak_n, wr_b01, wr_bt, b01_or, b01_0, b01_1, lc_lt0, lc_gt0, lc_eq0, wl_wr, wr_wr, wl_id, true_and, and_true, true_or, or_true, not_true_eq_false, not_false_eq_true, nc0, nc1, nc2, nc3, nc4, nc5, nc6, nc7, nc8, nc9, nc10, nc11, nc12, nc13, nc14, nc15, nc16, nc17, nc18, nc19, nc20, nc21, nc22, nc23, nc35, nc47, nc59, nc60, nc61, nc73, nc74, nc214, nc215, nc1115, nc2230, nc3345, if_true, if_false, Int.reduceToNat, l46, k46, r46]
  have q6_47 := q6_46.sm s47
  have q7_47 := q7_46.sm s47
  have q32_47 := q32_46.sm s47
  have q41_47 := q41_46.sm s47
  have q42_47 := q42_46.sm s47
  have q43_47 := q43_46.sm s47
  have dn8_47 := dn8_46.sm s47
  have dn14_47 := dn14_46.sm s47
  have dn20_47 := dn20_46.sm s47
  have dn26_47 := dn26_46.sm s47
  have dn28_47 := dn28_46.sm s47
  have dn30_47 := dn30_46.sm s47
  have dn33_47 := dn33_46.sm s47
  have dn35_47 := dn35_46.sm s47
  have dn37_47 := dn37_46.sm s47
  have dn39_47 := dn39_46.sm s47
  have dn44_47 := dn44_46.sm s47
  have u47 : Uc 6 h h47 := u46.tr (fun a _ k => s47 a k)
  clear hh47 l46 k46 s47 b46 st46 u46 q6_46 q7_46 q32_46 q41_46 q42_46 q43_46 dn8_46 dn14_46 dn20_46 dn26_46 dn28_46 dn30_46 dn33_46 dn35_46 dn37_46 dn39_46 dn44_46 r46 h46
  obtain ⟨h48, c48, b48, dn50_48, uc48⟩ := i_han50 (L := L) (d := d + 0) h47 b47
  have kk47 : sK h47 50 = 0 := (b47.k 50).trans rfl
  have st48 : cal (d + 4) m_Hook_init [.inr (.inr 6)] h = EX (d + 3) m_Hook_init 183 [(0, .inr (.inr 6)), (1, .inl 0)] [.inr (.inr 50), .inl 0, .inr (.inr 42)] h48 := by
    rw [st47]
    simp (disch := omega) only [Hook_init_179, wr_id, ix_id, okx, if_pos, if_neg, Int.toNat_of_nonneg, bak_v, bak_n, wr_b01, wr_bt, b01_or, b01_0, b01_1, lc_lt0, lc_gt0, lc_eq0, wl_wr, wr_wr, wl_id, true_and, and_true, true_or, or_true, not_true_eq_false, not_false_eq_true, nc0, nc1, nc2, nc3, nc4, nc5, nc6, nc7, nc8, nc9, nc10, nc11, nc12, nc13, nc14, nc15, nc16, nc17, nc18, nc19, nc20, nc21, nc22, nc23, nc35, nc47, nc59, nc60, nc61, nc73, nc74, nc214, nc215, nc1115, nc2230, nc3345, if_true, if_false, Int.reduceToNat, kk47, c48]
  have q6_48 := q6_47.uc uc48 (by omega)
  have q7_48 := q7_47.uc uc48 (by omega)
  have q32_48 := q32_47.uc uc48 (by omega)
  have q41_48 := q41_47.uc uc48 (by omega)
  have q42_48 := q42_47.uc uc48 (by omega)
  have q43_48 := q43_47.uc uc48 (by omega)
  have dn8_48 := dn8_47.uc uc48 (by omega)
  have dn14_48 := dn14_47.uc uc48 (by omega)
  have dn20_48 := dn20_47.uc uc48 (by omega)
  have dn26_48 := dn26_47.uc uc48 (by omega)
  have dn28_48 := dn28_47.uc uc48 (by omega)
  have dn30_48 := dn30_47.uc uc48 (by omega)
  have dn33_48 := dn33_47.uc uc48 (by omega)
  have dn35_48 := dn35_47.uc uc48 (by omega)
  have dn37_48 := dn37_47.uc uc48 (by omega)
  have dn39_48 := dn39_47.uc uc48 (by omega)
  have dn44_48 := dn44_47.uc uc48 (by omega)
  have u48 : Uc 6 h h48 := u47.tr (uc48.mo (by omega))
  clear c48 uc48 kk47 b47 st47 u47 q6_47 q7_47 q32_47 q41_47 q42_47 q43_47 dn8_47 dn14_47 dn20_47 dn26_47 dn28_47 dn30_47 dn33_47 dn35_47 dn37_47 dn39_47 dn44_47 h47
  have x48 : sK h48 50 = 0 := (b48.k 50).trans rfl
  have y48 : sK h48 42 = 26 := (b48.k 42).trans rfl
  have z48 : sN h48 42 = 2 := (b48.n 42).trans rfl
  obtain ⟨h49, hh49⟩ : ∃ x, x = pR h48 42 0 50 := ⟨_, rfl⟩
  have b49 := b48.pR (a := 42) (k := 0) (v := 50) (by omega)
  rw [← hh49] at b49
  have k48 : sK h48 6 = 10 := (b48.k 6).trans rfl
  have st49 : cal (d + 4) m_Hook_init [.inr (.inr 6)] h = EX (d + 3) m_Hook_init 153 [(0, .inr (.inr 6)), (1, .inl 1)] [] h49 := by
    rw [st48, hh49]
    simp (disch := omega) only [Hook_init_183, Hook_init_184, wr_id, ix_id, okx, if_pos, if_neg, Int.toNat_of_nonneg, bak_v, bak_n, wr_b01, wr_bt, b01_or, b01_0, b01_1, lc_lt0, lc_gt0, lc_eq0, wl_wr, wr_wr, wl_id, true_and, and_true, true_or, or_true, not_true_eq_false, not_false_eq_true, nc0, nc1, nc2, nc3, nc4, nc5, nc6, nc7, nc8, nc9, nc10, nc11, nc12, nc13, nc14, nc15, nc16, nc17, nc18, nc19, nc20, nc21, nc22, nc23, nc35, nc47, nc59, nc60, nc61, nc73, nc74, nc214, nc215, nc1115, nc2230, nc3345, if_true, if_false, Int.reduceToNat, k48, x48, y48, z48, Int.reduceToNat, Int.reduceAdd, and_true]
  have q6_49 := q6_48.ro (Y := 42) (j := 0) (v := 50) (by omega)
  rw [← hh49] at q6_49
  have q7_49 := q7_48.ro (Y := 42) (j := 0) (v := 50) (by omega)
  rw [← hh49] at q7_49
  have q32_49 := q32_48.ro (Y := 42) (j := 0) (v := 50) (by omega)
  rw [← hh49] at q32_49
  have q41_49 := q41_48.ro (Y := 42) (j := 0) (v := 50) (by omega)
  rw [← hh49] at q41_49
  have q42_49 := q42_48.r (j := 0) (v := 50)
  rw [← hh49] at q42_49
  have q43_49 := q43_48.ro (Y := 42) (j := 0) (v := 50) (by omega)
  rw [← hh49] at q43_49
  have dn8_49 := dn8_48.r (Y := 42) (j := 0) (v := 50) (by omega)
  rw [← hh49] at dn8_49
  have dn14_49 := dn14_48.r (Y := 42) (j := 0) (v := 50) (by omega)
  rw [← hh49] at dn14_49
  have dn20_49 := dn20_48.r (Y := 42) (j := 0) (v := 50) (by omega)
  rw [← hh49] at dn20_49
  have dn26_49 := dn26_48.r (Y := 42) (j := 0) (v := 50) (by omega)
  rw [← hh49] at dn26_49
  have dn28_49 := dn28_48.r (Y := 42) (j := 0) (v := 50) (by omega)
  rw [← hh49] at dn28_49
  have dn30_49 := dn30_48.r (Y := 42) (j := 0) (v := 50) (by omega)
  rw [← hh49] at dn30_49
  have dn33_49 := dn33_48.r (Y := 42) (j := 0) (v := 50) (by omega)
  rw [← hh49] at dn33_49
  have dn35_49 := dn35_48.r (Y := 42) (j := 0) (v := 50) (by omega)
  rw [← hh49] at dn35_49
  have dn37_49 := dn37_48.r (Y := 42) (j := 0) (v := 50) (by omega)
  rw [← hh49] at dn37_49
  have dn39_49 := dn39_48.r (Y := 42) (j := 0) (v := 50) (by omega)
  rw [← hh49] at dn39_49
  have dn44_49 := dn44_48.r (Y := 42) (j := 0) (v := 50) (by omega)
  rw [← hh49] at dn44_49
  have dn50_49 := dn50_48.r (Y := 42) (j := 0) (v := 50) (by omega)
  rw [← hh49] at dn50_49
  have u49 : Uc 6 h h49 := u48.tr (by rw [hh49]; exact fun a ha k => ⟨rfl, rfl, by rw [hR_pR, if_neg (by omega)]⟩)
  clear hh49 k48 b48 st48 u48 q6_48 q7_48 q32_48 q41_48 q42_48 q43_48 dn8_48 dn14_48 dn20_48 dn26_48 dn28_48 dn30_48 dn33_48 dn35_48 dn37_48 dn39_48 dn44_48 dn50_48 x48 y48 z48 h48
  have r49 : hR h49 6 11 = 41 := (q6_49 11).2.2.trans rfl
  obtain ⟨h50, hh50⟩ : ∃ x, x = nwH h49 9 15 := ⟨_, rfl⟩
  have l49 := b49.l (by omega)
  have k49 : sK h49 6 = 10 := (b49.k 6).trans rfl
  obtain ⟨b50, s50⟩ := b49.nw (kd := 9) (m := 15) (by omega) (by omega) rfl
  rw [← hh50] at b50 s50
  have st50 : cal (d + 4) m_Hook_init [.inr (.inr 6)] h = EX (d + 3) m_Hook_init 166 [(0, .inr (.inr 6)), (1, .inl 1)] [.inr (.inr 52), .inl 1, .inr (.inr 41)] h50 := by
    rw [st49, hh50]
    simp (disch := omega) only [Hook_init_153, Hook_init_158, wr_id, ix_id, okx, if_pos, if_neg, Int.toNat_of_nonneg, bak_v, bak_n, wr_b01, wr_bt, b01_or, b01_0, b01_1, lc_lt0, lc_gt0, lc_eq0, wl_wr, wr_wr, wl_id, true_and, and_true, true_or, or_true, not_true_eq_false, not_false_eq_true, nc0, nc1, nc2, nc3, nc4, nc5, nc6, nc7, nc8, nc9, nc10, nc11, nc12, nc13, nc14, nc15, nc16, nc17, nc18, nc19, nc20, nc21, nc22, nc23, nc35, nc47, nc59, nc60, nc61, nc73, nc74, nc214, nc215, nc1115, nc2230, nc3345, if_true, if_false, Int.reduceToNat, l49, k49, r49]
  have q6_50 := q6_49.sm s50
  have q7_50 := q7_49.sm s50
  have q32_50 := q32_49.sm s50
  have q41_50 := q41_49.sm s50
  have q42_50 := q42_49.sm s50
  have q43_50 := q43_49.sm s50
  have dn8_50 := dn8_49.sm s50
  have dn14_50 := dn14_49.sm s50
  have dn20_50 := dn20_49.sm s50
  have dn26_50 := dn26_49.sm s50
  have dn28_50 := dn28_49.sm s50
  have dn30_50 := dn30_49.sm s50
  have dn33_50 := dn33_49.sm s50
  have dn35_50 := dn35_49.sm s50
  have dn37_50 := dn37_49.sm s50
  have dn39_50 := dn39_49.sm s50
  have dn44_50 := dn44_49.sm s50
  have dn50_50 := dn50_49.sm s50
  have u50 : Uc 6 h h50 := u49.tr (fun a _ k => s50 a k)
  clear hh50 l49 k49 s50 b49 st49 u49 q6_49 q7_49 q32_49 q41_49 q42_49 q43_49 dn8_49 dn14_49 dn20_49 dn26_49 dn28_49 dn30_49 dn33_49 dn35_49 dn37_49 dn39_49 dn44_49 dn50_49 r49 h49
  obtain ⟨h51, c51, b51, dn52_51, uc51⟩ := i_win52 (L := L) (d := d + 0) h50 b50
  have kk50 : sK h50 52 = 9 := (b50.k 52).trans rfl
  have st51 : cal (d + 4) m_Hook_init [.inr (.inr 6)] h = EX (d + 3) m_Hook_init 170 [(0, .inr (.inr 6)), (1, .inl 1)] [.inr (.inr 52), .inl 1, .inr (.inr 41)] h51 := by
    rw [st50]
    simp (disch := omega) only [Hook_init_166, wr_id, ix_id, okx, if_pos, if_neg, Int.toNat_of_nonneg, bak_v, bak_n, wr_b01, wr_bt, b01_or, b01_0, b01_1, lc_lt0, lc_gt0, lc_eq0, wl_wr, wr_wr, wl_id, true_and, and_true, true_or, or_true, not_true_eq_false, not_false_eq_true, nc0, nc1, nc2, nc3, nc4, nc5, nc6, nc7, nc8, nc9, nc10, nc11, nc12, nc13, nc14, nc15, nc16, nc17, nc18, nc19, nc20, nc21, nc22, nc23, nc35, nc47, nc59, nc60, nc61, nc73, nc74, nc214, nc215, nc1115, nc2230, nc3345, if_true, if_false, Int.reduceToNat, kk50, c51]
  have q6_51 := q6_50.uc uc51 (by omega)
  have q7_51 := q7_50.uc uc51 (by omega)
  have q32_51 := q32_50.uc uc51 (by omega)
  have q41_51 := q41_50.uc uc51 (by omega)
  have q42_51 := q42_50.uc uc51 (by omega)
  have q43_51 := q43_50.uc uc51 (by omega)
  have dn8_51 := dn8_50.uc uc51 (by omega)
  have dn14_51 := dn14_50.uc uc51 (by omega)
  have dn20_51 := dn20_50.uc uc51 (by omega)
  have dn26_51 := dn26_50.uc uc51 (by omega)
  have dn28_51 := dn28_50.uc uc51 (by omega)
  have dn30_51 := dn30_50.uc uc51 (by omega)
  have dn33_51 := dn33_50.uc uc51 (by omega)
  have dn35_51 := dn35_50.uc uc51 (by omega)
  have dn37_51 := dn37_50.uc uc51 (by omega)
  have dn39_51 := dn39_50.uc uc51 (by omega)
  have dn44_51 := dn44_50.uc uc51 (by omega)
  have dn50_51 := dn50_50.uc uc51 (by omega)
  have u51 : Uc 6 h h51 := u50.tr (uc51.mo (by omega))
  clear c51 uc51 kk50 b50 st50 u50 q6_50 q7_50 q32_50 q41_50 q42_50 q43_50 dn8_50 dn14_50 dn20_50 dn26_50 dn28_50 dn30_50 dn33_50 dn35_50 dn37_50 dn39_50 dn44_50 dn50_50 h50
  have x51 : sK h51 52 = 9 := (b51.k 52).trans rfl
  have y51 : sK h51 41 = 25 := (b51.k 41).trans rfl
  have z51 : sN h51 41 = 2 := (b51.n 41).trans rfl
  obtain ⟨h52, hh52⟩ : ∃ x, x = pR h51 41 1 52 := ⟨_, rfl⟩
  have b52 := b51.pR (a := 41) (k := 1) (v := 52) (by omega)
  rw [← hh52] at b52
  have k51 : sK h51 6 = 10 := (b51.k 6).trans rfl
  have st52 : cal (d + 4) m_Hook_init [.inr (.inr 6)] h = EX (d + 3) m_Hook_init 171 [(0, .inr (.inr 6)), (1, .inl 1)] [] h52 := by
    rw [st51, hh52]
    simp (disch := omega) only [Hook_init_170, wr_id, ix_id, okx, if_pos, if_neg, Int.toNat_of_nonneg, bak_v, bak_n, wr_b01, wr_bt, b01_or, b01_0, b01_1, lc_lt0, lc_gt0, lc_eq0, wl_wr, wr_wr, wl_id, true_and, and_true, true_or, or_true, not_true_eq_false, not_false_eq_true, nc0, nc1, nc2, nc3, nc4, nc5, nc6, nc7, nc8, nc9, nc10, nc11, nc12, nc13, nc14, nc15, nc16, nc17, nc18, nc19, nc20, nc21, nc22, nc23, nc35, nc47, nc59, nc60, nc61, nc73, nc74, nc214, nc215, nc1115, nc2230, nc3345, if_true, if_false, Int.reduceToNat, k51, x51, y51, z51, Int.reduceToNat, Int.reduceAdd, and_true]
  have q6_52 := q6_51.ro (Y := 41) (j := 1) (v := 52) (by omega)
  rw [← hh52] at q6_52
  have q7_52 := q7_51.ro (Y := 41) (j := 1) (v := 52) (by omega)
  rw [← hh52] at q7_52
  have q32_52 := q32_51.ro (Y := 41) (j := 1) (v := 52) (by omega)
  rw [← hh52] at q32_52
  have q41_52 := q41_51.r (j := 1) (v := 52)
  rw [← hh52] at q41_52
  have q42_52 := q42_51.ro (Y := 41) (j := 1) (v := 52) (by omega)
  rw [← hh52] at q42_52
  have q43_52 := q43_51.ro (Y := 41) (j := 1) (v := 52) (by omega)
  rw [← hh52] at q43_52
  have dn8_52 := dn8_51.r (Y := 41) (j := 1) (v := 52) (by omega)
  rw [← hh52] at dn8_52
  have dn14_52 := dn14_51.r (Y := 41) (j := 1) (v := 52) (by omega)
  rw [← hh52] at dn14_52
  have dn20_52 := dn20_51.r (Y := 41) (j := 1) (v := 52) (by omega)
  rw [← hh52] at dn20_52
  have dn26_52 := dn26_51.r (Y := 41) (j := 1) (v := 52) (by omega)
  rw [← hh52] at dn26_52
  have dn28_52 := dn28_51.r (Y := 41) (j := 1) (v := 52) (by omega)
  rw [← hh52] at dn28_52
  have dn30_52 := dn30_51.r (Y := 41) (j := 1) (v := 52) (by omega)
  rw [← hh52] at dn30_52
  have dn33_52 := dn33_51.r (Y := 41) (j := 1) (v := 52) (by omega)
  rw [← hh52] at dn33_52
  have dn35_52 := dn35_51.r (Y := 41) (j := 1) (v := 52) (by omega)
  rw [← hh52] at dn35_52
  have dn37_52 := dn37_51.r (Y := 41) (j := 1) (v := 52) (by omega)
  rw [← hh52] at dn37_52
  have dn39_52 := dn39_51.r (Y := 41) (j := 1) (v := 52) (by omega)
  rw [← hh52] at dn39_52
  have dn44_52 := dn44_51.r (Y := 41) (j := 1) (v := 52) (by omega)
  rw [← hh52] at dn44_52
  have dn50_52 := dn50_51.r (Y := 41) (j := 1) (v := 52) (by omega)
  rw [← hh52] at dn50_52
  have dn52_52 := dn52_51.r (Y := 41) (j := 1) (v := 52) (by omega)
  rw [← hh52] at dn52_52
  have u52 : Uc 6 h h52 := u51.tr (by rw [hh52]; exact fun a ha k => ⟨rfl, rfl, by rw [hR_pR, if_neg (by omega)]⟩)
  clear hh52 k51 b51 st51 u51 q6_51 q7_51 q32_51 q41_51 q42_51 q43_51 dn8_51 dn14_51 dn20_51 dn26_51 dn28_51 dn30_51 dn33_51 dn35_51 dn37_51 dn39_51 dn44_51 dn50_51 dn52_51 x51 y51 z51 h51
  have r52 : hR h52 6 12 = 42 := (q6_52 12).2.2.trans rfl
  obtain ⟨h53, hh53⟩ : ∃ x, x = nwH h52 0 3 := ⟨_, rfl⟩
  have l52 := b52.l (by omega)
  have k52 : sK h52 6 = 10 := (b52.k 6).trans rfl
  obtain ⟨b53, s53⟩ := b52.nw (kd := 0) (m := 3) (by omega) (by omega) rfl
  rw [← hh53] at b53 s53
  have st53 : cal (d + 4) m_Hook_init [.inr (.inr 6)] h = EX (d + 3) m_Hook_init 179 [(0, .inr (.inr 6)), (1, .inl 1)] [.inr (.inr 58), .inl 1, .inr (.inr 42)] h53 := by
    rw [st52, hh53]
    simp (disch := omega) only [Hook_init_171, wr_id, ix_id, okx, if_pos, if_neg, Int.toNat_of_nonneg, bak_v, bak_n, wr_b01, wr_bt, b01_or, b01_0, b01_1, lc_lt0, lc_gt0, lc_eq0, wl_wr, wr_wr, wl_id, true_and, and_true, true_or, or_true, not_true_eq_false, not_false_eq_true, nc0, nc1, nc2, nc3, nc4, nc5, nc6, nc7, nc8, nc9, nc10, nc11, nc12, nc13, nc14, nc15, nc16, nc17, nc18, nc19, nc20, nc21, nc22, nc23, nc35, nc47, nc59, nc60, nc61, nc73, nc74, nc214, nc215, nc1115, nc2230, nc3345, if_true, if_false, Int.reduceToNat, l52, k52, r52]
  have q6_53 := q6_52.sm s53
  have q7_53 := q7_52.sm s53
  have q32_53 := q32_52.sm s53
  have q41_53 := q41_52.sm s53
  have q42_53 := q42_52.sm s53
  have q43_53 := q43_52.sm s53
  have dn8_53 := dn8_52.sm s53
  have dn14_53 := dn14_52.sm s53
  have dn20_53 := dn20_52.sm s53
  have dn26_53 := dn26_52.sm s53
  have dn28_53 := dn28_52.sm s53
  have dn30_53 := dn30_52.sm s53
  have dn33_53 := dn33_52.sm s53
  have dn35_53 := dn35_52.sm s53
  have dn37_53 := dn37_52.sm s53
  have dn39_53 := dn39_52.sm s53
  have dn44_53 := dn44_52.sm s53
  have dn50_53 := dn50_52.sm s53
  have dn52_53 := dn52_52.sm s53
  have u53 : Uc 6 h h53 := u52.tr (fun a _ k => s53 a k)
  clear hh53 l52 k52 s53 b52 st52 u52 q6_52 q7_52 q32_52 q41_52 q42_52 q43_52 dn8_52 dn14_52 dn20_52 dn26_52 dn28_52 dn30_52 dn33_52 dn35_52 dn37_52 dn39_52 dn44_52 dn50_52 dn52_52 r52 h52
  obtain ⟨h54, c54, b54, dn58_54, uc54⟩ := i_han58 (L := L) (d := d + 0) h53 b53
  have kk53 : sK h53 58 = 0 := (b53.k 58).trans rfl
  have st54 : cal (d + 4) m_Hook_init [.inr (.inr 6)] h = EX (d + 3) m_Hook_init 183 [(0, .inr (.inr 6)), (1, .inl 1)] [.inr (.inr 58), .inl 1, .inr (.inr 42)] h54 := by
    rw [st53]
    simp (disch := omega) only [Hook_init_179, wr_id, ix_id, okx, if_pos, if_neg, Int.toNat_of_nonneg, bak_v, bak_n, wr_b01, wr_bt, b01_or, b01_0, b01_1, lc_lt0, lc_gt0, lc_eq0, wl_wr, wr_wr, wl_id, true_and, and_true, true_or, or_true, not_true_eq_false, not_false_eq_true, nc0, nc1, nc2, nc3, nc4, nc5, nc6, nc7, nc8, nc9, nc10, nc11, nc12, nc13, nc14, nc15, nc16, nc17, nc18, nc19, nc20, nc21, nc22, nc23, nc35, nc47, nc59, nc60, nc61, nc73, nc74, nc214, nc215, nc1115, nc2230, nc3345, if_true, if_false, Int.reduceToNat, kk53, c54]
  have q6_54 := q6_53.uc uc54 (by omega)
  have q7_54 := q7_53.uc uc54 (by omega)
  have q32_54 := q32_53.uc uc54 (by omega)
  have q41_54 := q41_53.uc uc54 (by omega)
  have q42_54 := q42_53.uc uc54 (by omega)
  have q43_54 := q43_53.uc uc54 (by omega)
  have dn8_54 := dn8_53.uc uc54 (by omega)
  have dn14_54 := dn14_53.uc uc54 (by omega)
  have dn20_54 := dn20_53.uc uc54 (by omega)
  have dn26_54 := dn26_53.uc uc54 (by omega)
  have dn28_54 := dn28_53.uc uc54 (by omega)
  have dn30_54 := dn30_53.uc uc54 (by omega)
  have dn33_54 := dn33_53.uc uc54 (by omega)
  have dn35_54 := dn35_53.uc uc54 (by omega)
  have dn37_54 := dn37_53.uc uc54 (by omega)
  have dn39_54 := dn39_53.uc uc54 (by omega)
  have dn44_54 := dn44_53.uc uc54 (by omega)
  have dn50_54 := dn50_53.uc uc54 (by omega)
  have dn52_54 := dn52_53.uc uc54 (by omega)
  have u54 : Uc 6 h h54 := u53.tr (uc54.mo (by omega))
  clear c54 uc54 kk53 b53 st53 u53 q6_53 q7_53 q32_53 q41_53 q42_53 q43_53 dn8_53 dn14_53 dn20_53 dn26_53 dn28_53 dn30_53 dn33_53 dn35_53 dn37_53 dn39_53 dn44_53 dn50_53 dn52_53 h53
  have x54 : sK h54 58 = 0 := (b54.k 58).trans rfl
  have y54 : sK h54 42 = 26 := (b54.k 42).trans rfl
  have z54 : sN h54 42 = 2 := (b54.n 42).trans rfl
  obtain ⟨h55, hh55⟩ : ∃ x, x = pR h54 42 1 58 := ⟨_, rfl⟩
  have b55 := b54.pR (a := 42) (k := 1) (v := 58) (by omega)
  rw [← hh55] at b55
  have k54 : sK h54 6 = 10 := (b54.k 6).trans rfl
  have st55 : cal (d + 4) m_Hook_init [.inr (.inr 6)] h = EX (d + 3) m_Hook_init 153 [(0, .inr (.inr 6)), (1, .inl 2)] [] h55 := by
    rw [st54, hh55]
    simp (disch := omega) only [Hook_init_183, Hook_init_184, wr_id, ix_id, okx, if_pos, if_neg, Int.toNat_of_nonneg, bak_v, bak_n, wr_b01, wr_bt, b01_or, b01_0, b01_1, lc_lt0, lc_gt0, lc_eq0, wl_wr, wr_wr, wl_id, true_and, and_true, true_or, or_true, not_true_eq_false, not_false_eq_true, nc0, nc1, nc2, nc3, nc4, nc5, nc6, nc7, nc8, nc9, nc10, nc11, nc12, nc13, nc14, nc15, nc16, nc17, nc18, nc19, nc20, nc21, nc22, nc23, nc35, nc47, nc59, nc60, nc61, nc73, nc74, nc214, nc215, nc1115, nc2230, nc3345, if_true, if_false, Int.reduceToNat, k54, x54, y54, z54, Int.reduceToNat, Int.reduceAdd, and_true]
  have q6_55 := q6_54.ro (Y := 42) (j := 1) (v := 58) (by omega)
  rw [← hh55] at q6_55
  have q7_55 := q7_54.ro (Y := 42) (j := 1) (v := 58) (by omega)
  rw [← hh55] at q7_55
  have q32_55 := q32_54.ro (Y := 42) (j := 1) (v := 58) (by omega)
  rw [← hh55] at q32_55
  have q41_55 := q41_54.ro (Y := 42) (j := 1) (v := 58) (by omega)
  rw [← hh55] at q41_55
  have q42_55 := q42_54.r (j := 1) (v := 58)
  rw [← hh55] at q42_55
  have q43_55 := q43_54.ro (Y := 42) (j := 1) (v := 58) (by omega)
  rw [← hh55] at q43_55
  have dn8_55 := dn8_54.r (Y := 42) (j := 1) (v := 58) (by omega)
  rw [← hh55] at dn8_55
  have dn14_55 := dn14_54.r (Y := 42) (j := 1) (v := 58) (by omega)
  rw [← hh55] at dn14_55
  have dn20_55 := dn20_54.r (Y := 42) (j := 1) (v := 58) (by omega)
  rw [← hh55] at dn20_55
  have dn26_55 := dn26_54.r (Y := 42) (j := 1) (v := 58) (by omega)
  rw [← hh55] at dn26_55
  have dn28_55 := dn28_54.r (Y := 42) (j := 1) (v := 58) (by omega)
  rw [← hh55] at dn28_55
  have dn30_55 := dn30_54.r (Y := 42) (j := 1) (v := 58) (by omega)
  rw [← hh55] at dn30_55
  have dn33_55 := dn33_54.r (Y := 42) (j := 1) (v := 58) (by omega)
  rw [← hh55] at dn33_55
  have dn35_55 := dn35_54.r (Y := 42) (j := 1) (v := 58) (by omega)
  rw [← hh55] at dn35_55
  have dn37_55 := dn37_54.r (Y := 42) (j := 1) (v := 58) (by omega)
  rw [← hh55] at dn37_55
  have dn39_55 := dn39_54.r (Y := 42) (j := 1) (v := 58) (by omega)
  rw [← hh55] at dn39_55
  have dn44_55 := dn44_54.r (Y := 42) (j := 1) (v := 58) (by omega)
  rw [← hh55] at dn44_55
  have dn50_55 := dn50_54.r (Y := 42) (j := 1) (v := 58) (by omega)
  rw [← hh55] at dn50_55
  have dn52_55 := dn52_54.r (Y := 42) (j := 1) (v := 58) (by omega)
  rw [← hh55] at dn52_55
  have dn58_55 := dn58_54.r (Y := 42) (j := 1) (v := 58) (by omega)
  rw [← hh55] at dn58_55
  have u55 : Uc 6 h h55 := u54.tr (by rw [hh55]; exact fun a ha k => ⟨rfl, rfl, by rw [hR_pR, if_neg (by omega)]⟩)
  clear hh55 k54 b54 st54 u54 q6_54 q7_54 q32_54 q41_54 q42_54 q43_54 dn8_54 dn14_54 dn20_54 dn26_54 dn28_54 dn30_54 dn33_54 dn35_54 dn37_54 dn39_54 dn44_54 dn50_54 dn52_54 dn58_54 x54 y54 z54 h54
  obtain ⟨h56, hh56⟩ : ∃ x, x = nwH h55 2 8 := ⟨_, rfl⟩
  have l55 := b55.l (by omega)
  have k55 : sK h55 6 = 10 := (b55.k 6).trans rfl
  obtain ⟨b56, s56⟩ := b55.nw (kd := 2) (m := 8) (by omega) (by omega) rfl
  rw [← hh56] at b56 s56
  have st56 : cal (d + 4) m_Hook_init [.inr (.inr 6)] h = EX (d + 3) m_Hook_init 194 [(0, .inr (.inr 6))] [.inr (.inr 60), .inr (.inr 6)] h56 := by
    rw [st55, hh56]
    simp (disch := omega) only [Hook_init_153, Hook_init_190, wr_id, ix_id, okx, if_pos, if_neg, Int.toNat_of_nonneg, bak_v, bak_n, wr_b01, wr_bt, b01_or, b01_0, b01_1, lc_lt0, lc_gt0, lc_eq0, wl_wr, wr_wr, wl_id, true_and, and_true, true_or, or_true, not_true_eq_false, not_false_eq_true, nc0, nc1, nc2, nc3, nc4, nc5, nc6, nc7, nc8, nc9, nc10, nc11, nc12, nc13, nc14, nc15, nc16, nc17, nc18, nc19, nc20, nc21, nc22, nc23, nc35, nc47, nc59, nc60, nc61, nc73, nc74, nc214, nc215, nc1115, nc2230, nc3345, if_true, if_false, Int.reduceToNat, l55, k55]
  have q6_56 := q6_55.sm s56
  have q7_56 := q7_55.sm s56
  have q32_56 := q32_55.sm s56
  have q41_56 := q41_55.sm s56
  have q42_56 := q42_55.sm s56
  have q43_56 := q43_55.sm s56
  have dn8_56 := dn8_55.sm s56
  have dn14_56 := dn14_55.sm s56
  have dn20_56 := dn20_55.sm s56
  have dn26_56 := dn26_55.sm s56
  have dn28_56 := dn28_55.sm s56
  have dn30_56 := dn30_55.sm s56
  have dn33_56 := dn33_55.sm s56
  have dn35_56 := dn35_55.sm s56
  have dn37_56 := dn37_55.sm s56
  have dn39_56 := dn39_55.sm s56
  have dn44_56 := dn44_55.sm s56
  have dn50_56 := dn50_55.sm s56
  have dn52_56 := dn52_55.sm s56
  have dn58_56 := dn58_55.sm s56
  have u56 : Uc 6 h h56 := u55.tr (fun a _ k => s56 a k)
  clear hh56 l55 k55 s56 b55 st55 u55 q6_55 q7_55 q32_55 q41_55 q42_55 q43_55 dn8_55 dn14_55 dn20_55 dn26_55 dn28_55 dn30_55 dn33_55 dn35_55 dn37_55 dn39_55 dn44_55 dn50_55 dn52_55 dn58_55 h55
  obtain ⟨h57, c57, b57, dn60_57, uc57⟩ := i_joi (L := L) (d := d + 2) h56 b56
  have kk56 : sK h56 60 = 2 := (b56.k 60).trans rfl
  have st57 : cal (d + 4) m_Hook_init [.inr (.inr 6)] h = EX (d + 3) m_Hook_init 198 [(0, .inr (.inr 6))] [.inr (.inr 60), .inr (.inr 6)] h57 := by
    rw [st56]
    simp (disch := omega) only [Hook_init_194, wr_id, ix_id, okx, if_pos, if_neg, Int.toNat_of_nonneg, bak_v, bak_n, wr_b01, wr_bt, b01_or, b01_0, b01_1, lc_lt0, lc_gt0, lc_eq0, wl_wr, wr_wr, wl_id, true_and, and_true, true_or, or_true, not_true_eq_false, not_false_eq_true, nc0, nc1, nc2, nc3, nc4, nc5, nc6, nc7, nc8, nc9, nc10, nc11, nc12, nc13, nc14, nc15, nc16, nc17, nc18, nc19, nc20, nc21, nc22, nc23, nc35, nc47, nc59, nc60, nc61, nc73, nc74, nc214, nc215, nc1115, nc2230, nc3345, if_true, if_false, Int.reduceToNat, kk56, c57]
  have q6_57 := q6_56.uc uc57 (by omega)
  have q7_57 := q7_56.uc uc57 (by omega)
  have q32_57 := q32_56.uc uc57 (by omega)
  have q41_57 := q41_56.uc uc57 (by omega)
  have q42_57 := q42_56.uc uc57 (by omega)
  have q43_57 := q43_56.uc uc57 (by omega)
  have dn8_57 := dn8_56.uc uc57 (by omega)
  have dn14_57 := dn14_56.uc uc57 (by omega)
  have dn20_57 := dn20_56.uc uc57 (by omega)
  have dn26_57 := dn26_56.uc uc57 (by omega)
  have dn28_57 := dn28_56.uc uc57 (by omega)
  have dn30_57 := dn30_56.uc uc57 (by omega)
  have dn33_57 := dn33_56.uc uc57 (by omega)
  have dn35_57 := dn35_56.uc uc57 (by omega)
  have dn37_57 := dn37_56.uc uc57 (by omega)
  have dn39_57 := dn39_56.uc uc57 (by omega)
  have dn44_57 := dn44_56.uc uc57 (by omega)
  have dn50_57 := dn50_56.uc uc57 (by omega)
  have dn52_57 := dn52_56.uc uc57 (by omega)
  have dn58_57 := dn58_56.uc uc57 (by omega)
  have u57 : Uc 6 h h57 := u56.tr (uc57.mo (by omega))
  clear c57 uc57 kk56 b56 st56 u56 q6_56 q7_56 q32_56 q41_56 q42_56 q43_56 dn8_56 dn14_56 dn20_56 dn26_56 dn28_56 dn30_56 dn33_56 dn35_56 dn37_56 dn39_56 dn44_56 dn50_56 dn52_56 dn58_56 h56
  obtain ⟨h58, hh58⟩ : ∃ x, x = pR h57 6 14 60 := ⟨_, rfl⟩
  have b58 := b57.pR (a := 6) (k := 14) (v := 60) (by omega)
  rw [← hh58] at b58
  have k57 : sK h57 6 = 10 := (b57.k 6).trans rfl
  have st58 : cal (d + 4) m_Hook_init [.inr (.inr 6)] h = EX (d + 3) m_Hook_init 201 [(0, .inr (.inr 6))] [] h58 := by
    rw [st57, hh58]
    simp (disch := omega) only [Hook_init_198, wr_id, ix_id, okx, if_pos, if_neg, Int.toNat_of_nonneg, bak_v, bak_n, wr_b01, wr_bt, b01_or, b01_0, b01_1, lc_lt0, lc_gt0, lc_eq0, wl_wr, wr_wr, wl_id, true_and, and_true, true_or, or_true, not_true_eq_false, not_false_eq_true, nc0, nc1, nc2, nc3, nc4, nc5, nc6, nc7, nc8, nc9, nc10, nc11, nc12, nc13, nc14, nc15, nc16, nc17, nc18, nc19, nc20, nc21, nc22, nc23, nc35, nc47, nc59, nc60, nc61, nc73, nc74, nc214, nc215, nc1115, nc2230, nc3345, if_true, if_false, Int.reduceToNat, k57]
  have q6_58 := q6_57.r (j := 14) (v := 60)
  rw [← hh58] at q6_58
  have q7_58 := q7_57.ro (Y := 6) (j := 14) (v := 60) (by omega)
  rw [← hh58] at q7_58
  have q32_58 := q32_57.ro (Y := 6) (j := 14) (v := 60) (by omega)
  rw [← hh58] at q32_58
  have q41_58 := q41_57.ro (Y := 6) (j := 14) (v := 60) (by omega)
  rw [← hh58] at q41_58
  have q42_58 := q42_57.ro (Y := 6) (j := 14) (v := 60) (by omega)
  rw [← hh58] at q42_58
  have q43_58 := q43_57.ro (Y := 6) (j := 14) (v := 60) (by omega)
  rw [← hh58] at q43_58
  have dn8_58 := dn8_57.r (Y := 6) (j := 14) (v := 60) (by omega)
  rw [← hh58] at dn8_58
  have dn14_58 := dn14_57.r (Y := 6) (j := 14) (v := 60) (by omega)
  rw [← hh58] at dn14_58
  have dn20_58 := dn20_57.r (Y := 6) (j := 14) (v := 60) (by omega)
  rw [← hh58] at dn20_58
  have dn26_58 := dn26_57.r (Y := 6) (j := 14) (v := 60) (by omega)
  rw [← hh58] at dn26_58
  have dn28_58 := dn28_57.r (Y := 6) (j := 14) (v := 60) (by omega)
  rw [← hh58] at dn28_58
  have dn30_58 := dn30_57.r (Y := 6) (j := 14) (v := 60) (by omega)
  rw [← hh58] at dn30_58
  have dn33_58 := dn33_57.r (Y := 6) (j := 14) (v := 60) (by omega)
  rw [← hh58] at dn33_58
  have dn35_58 := dn35_57.r (Y := 6) (j := 14) (v := 60) (by omega)
  rw [← hh58] at dn35_58
  have dn37_58 := dn37_57.r (Y := 6) (j := 14) (v := 60) (by omega)
  rw [← hh58] at dn37_58
  have dn39_58 := dn39_57.r (Y := 6) (j := 14) (v := 60) (by omega)
  rw [← hh58] at dn39_58
  have dn44_58 := dn44_57.r (Y := 6) (j := 14) (v := 60) (by omega)
  rw [← hh58] at dn44_58
  have dn50_58 := dn50_57.r (Y := 6) (j := 14) (v := 60) (by omega)
  rw [← hh58] at dn50_58
  have dn52_58 := dn52_57.r (Y := 6) (j := 14) (v := 60) (by omega)
  rw [← hh58] at dn52_58
  have dn58_58 := dn58_57.r (Y := 6) (j := 14) (v := 60) (by omega)
  rw [← hh58] at dn58_58
  have dn60_58 := dn60_57.r (Y := 6) (j := 14) (v := 60) (by omega)
  rw [← hh58] at dn60_58
  have u58 : Uc 6 h h58 := u57.tr (by rw [hh58]; exact fun a ha k => ⟨rfl, rfl, by rw [hR_pR, if_neg (by omega)]⟩)
  clear hh58 k57 b57 st57 u57 q6_57 q7_57 q32_57 q41_57 q42_57 q43_57 dn8_57 dn14_57 dn20_57 dn26_57 dn28_57 dn30_57 dn33_57 dn35_57 dn37_57 dn39_57 dn44_57 dn50_57 dn52_57 dn58_57 dn60_57 h57
  obtain ⟨h59, hh59⟩ : ∃ x, x = nwH h58 4 5 := ⟨_, rfl⟩
  have l58 := b58.l (by omega)
  have k58 : sK h58 6 = 10 := (b58.k 6).trans rfl
  obtain ⟨b59, s59⟩ := b58.nw (kd := 4) (m := 5) (by omega) (by omega) rfl
  rw [← hh59] at b59 s59
  have st59 : cal (d + 4) m_Hook_init [.inr (.inr 6)] h = EX (d + 3) m_Hook_init 205 [(0, .inr (.inr 6))] [.inr (.inr 64), .inr (.inr 6)] h59 := by
    rw [st58, hh59]
    simp (disch := omega) only [Hook_init_201, wr_id, ix_id, okx, if_pos, if_neg, Int.toNat_of_nonneg, bak_v, bak_n, wr_b01, wr_bt, b01_or, b01_0, b01_1, lc_lt0, lc_gt0, lc_eq0, wl_wr, wr_wr, wl_id, true_and, and_true, true_or, or_true, not_true_eq_false, not_false_eq_true, nc0, nc1, nc2, nc3, nc4, nc5, nc6, nc7, nc8, nc9, nc10, nc11, nc12, nc13, nc14, nc15, nc16, nc17, nc18, nc19, nc20, nc21, nc22, nc23, nc35, nc47, nc59, nc60, nc61, nc73, nc74, nc214, nc215, nc1115, nc2230, nc3345, if_true, if_false, Int.reduceToNat, l58, k58]
  have q6_59 := q6_58.sm s59
  have q7_59 := q7_58.sm s59
  have q32_59 := q32_58.sm s59
  have q41_59 := q41_58.sm s59
  have q42_59 := q42_58.sm s59
  have q43_59 := q43_58.sm s59
  have dn8_59 := dn8_58.sm s59
  have dn14_59 := dn14_58.sm s59
  have dn20_59 := dn20_58.sm s59
  have dn26_59 := dn26_58.sm s59
  have dn28_59 := dn28_58.sm s59
  have dn30_59 := dn30_58.sm s59
  have dn33_59 := dn33_58.sm s59
  have dn35_59 := dn35_58.sm s59
  have dn37_59 := dn37_58.sm s59
  have dn39_59 := dn39_58.sm s59
  have dn44_59 := dn44_58.sm s59
  have dn50_59 := dn50_58.sm s59
  have dn52_59 := dn52_58.sm s59
  have dn58_59 := dn58_58.sm s59
  have dn60_59 := dn60_58.sm s59
  have u59 : Uc 6 h h59 := u58.tr (fun a _ k => s59 a k)
  clear hh59 l58 k58 s59 b58 st58 u58 q6_58 q7_58 q32_58 q41_58 q42_58 q43_58 dn8_58 dn14_58 dn20_58 dn26_58 dn28_58 dn30_58 dn33_58 dn35_58 dn37_58 dn39_58 dn44_58 dn50_58 dn52_58 dn58_58 dn60_58 h58
  obtain ⟨h60, c60, b60, dn64_60, uc60⟩ := i_men (L := L) (d := d + 2) h59 b59
  have kk59 : sK h59 64 = 4 := (b59.k 64).trans rfl
  have st60 : cal (d + 4) m_Hook_init [.inr (.inr 6)] h = EX (d + 3) m_Hook_init 209 [(0, .inr (.inr 6))] [.inr (.inr 64), .inr (.inr 6)] h60 := by
    rw [st59]
    simp (disch := omega) only [Hook_init_205, wr_id, ix_id, okx, if_pos, if_neg, Int.toNat_of_nonneg, bak_v, bak_n, wr_b01, wr_bt, b01_or, b01_0, b01_1, lc_lt0, lc_gt0, lc_eq0, wl_wr, wr_wr, wl_id, true_and, and_true, true_or, or_true, not_true_eq_false, not_false_eq_true, nc0, nc1, nc2, nc3, nc4, nc5, nc6, nc7, nc8, nc9, nc10, nc11, nc12, nc13, nc14, nc15, nc16, nc17, nc18, nc19, nc20, nc21, nc22, nc23, nc35, nc47, nc59, nc60, nc61, nc73, nc74, nc214, nc215, nc1115, nc2230, nc3345, if_true, if_false, Int.reduceToNat, kk59, c60]
  have q6_60 := q6_59.uc uc60 (by omega)
  have q7_60 := q7_59.uc uc60 (by omega)
  have q32_60 := q32_59.uc uc60 (by omega)
  have q41_60 := q41_59.uc uc60 (by omega)
  have q42_60 := q42_59.uc uc60 (by omega)
  have q43_60 := q43_59.uc uc60 (by omega)
  have dn8_60 := dn8_59.uc uc60 (by omega)
  have dn14_60 := dn14_59.uc uc60 (by omega)
  have dn20_60 := dn20_59.uc uc60 (by omega)
  have dn26_60 := dn26_59.uc uc60 (by omega)
  have dn28_60 := dn28_59.uc uc60 (by omega)
  have dn30_60 := dn30_59.uc uc60 (by omega)
  have dn33_60 := dn33_59.uc uc60 (by omega)
  have dn35_60 := dn35_59.uc uc60 (by omega)
  have dn37_60 := dn37_59.uc uc60 (by omega)
  have dn39_60 := dn39_59.uc uc60 (by omega)
  have dn44_60 := dn44_59.uc uc60 (by omega)
  have dn50_60 := dn50_59.uc uc60 (by omega)
  have dn52_60 := dn52_59.uc uc60 (by omega)
  have dn58_60 := dn58_59.uc uc60 (by omega)
  have dn60_60 := dn60_59.uc uc60 (by omega)
  have u60 : Uc 6 h h60 := u59.tr (uc60.mo (by omega))
  clear c60 uc60 kk59 b59 st59 u59 q6_59 q7_59 q32_59 q41_59 q42_59 q43_59 dn8_59 dn14_59 dn20_59 dn26_59 dn28_59 dn30_59 dn33_59 dn35_59 dn37_59 dn39_59 dn44_59 dn50_59 dn52_59 dn58_59 dn60_59 h59
  obtain ⟨h61, hh61⟩ : ∃ x, x = pR h60 6 15 64 := ⟨_, rfl⟩
  have b61 := b60.pR (a := 6) (k := 15) (v := 64) (by omega)
  rw [← hh61] at b61
  have k60 : sK h60 6 = 10 := (b60.k 6).trans rfl
  have st61 : cal (d + 4) m_Hook_init [.inr (.inr 6)] h = EX (d + 3) m_Hook_init 212 [(0, .inr (.inr 6))] [] h61 := by
    rw [st60, hh61]
    simp (disch := omega) only [Hook_init_209, wr_id, ix_id, okx, if_pos, if_neg, Int.toNat_of_nonneg, bak_v, bak_n, wr_b01, wr_bt, b01_or, b01_0, b01_1, lc_lt0, lc_gt0, lc_eq0, wl_wr, wr_wr, wl_id, true_and, and_true, true_or, or_true, not_true_eq_false, not_false_eq_true, nc0, nc1, nc2, nc3, nc4, nc5, nc6, nc7, nc8, nc9, nc10, nc11, nc12, nc13, nc14, nc15, nc16, nc17, nc18, nc19, nc20, nc21, nc22, nc23, nc35, nc47, nc59, nc60, nc61, nc73, nc74, nc214, nc215, nc1115, nc2230, nc3345, if_true, if_false, Int.reduceToNat, k60]
  have q6_61 := q6_60.r (j := 15) (v := 64)
  rw [← hh61] at q6_61
  have q7_61 := q7_60.ro (Y := 6) (j := 15) (v := 64) (by omega)
  rw [← hh61] at q7_61
  have q32_61 := q32_60.ro (Y := 6) (j := 15) (v := 64) (by omega)
  rw [← hh61] at q32_61
  have q41_61 := q41_60.ro (Y := 6) (j := 15) (v := 64) (by omega)
  rw [← hh61] at q41_61
  have q42_61 := q42_60.ro (Y := 6) (j := 15) (v := 64) (by omega)
  rw [← hh61] at q42_61
  have q43_61 := q43_60.ro (Y := 6) (j := 15) (v := 64) (by omega)
  rw [← hh61] at q43_61
  have dn8_61 := dn8_60.r (Y := 6) (j := 15) (v := 64) (by omega)
  rw [← hh61] at dn8_61
  have dn14_61 := dn14_60.r (Y := 6) (j := 15) (v := 64) (by omega)
  rw [← hh61] at dn14_61
  have dn20_61 := dn20_60.r (Y := 6) (j := 15) (v := 64) (by omega)
  rw [← hh61] at dn20_61
  have dn26_61 := dn26_60.r (Y := 6) (j := 15) (v := 64) (by omega)
  rw [← hh61] at dn26_61
  have dn28_61 := dn28_60.r (Y := 6) (j := 15) (v := 64) (by omega)
  rw [← hh61] at dn28_61
  have dn30_61 := dn30_60.r (Y := 6) (j := 15) (v := 64) (by omega)
  rw [← hh61] at dn30_61
  have dn33_61 := dn33_60.r (Y := 6) (j := 15) (v := 64) (by omega)
  rw [← hh61] at dn33_61
  have dn35_61 := dn35_60.r (Y := 6) (j := 15) (v := 64) (by omega)
  rw [← hh61] at dn35_61
  have dn37_61 := dn37_60.r (Y := 6) (j := 15) (v := 64) (by omega)
  rw [← hh61] at dn37_61
  have dn39_61 := dn39_60.r (Y := 6) (j := 15) (v := 64) (by omega)
  rw [← hh61] at dn39_61
  have dn44_61 := dn44_60.r (Y := 6) (j := 15) (v := 64) (by omega)
  rw [← hh61] at dn44_61
  have dn50_61 := dn50_60.r (Y := 6) (j := 15) (v := 64) (by omega)
  rw [← hh61] at dn50_61
  have dn52_61 := dn52_60.r (Y := 6) (j := 15) (v := 64) (by omega)
  rw [← hh61] at dn52_61
  have dn58_61 := dn58_60.r (Y := 6) (j := 15) (v := 64) (by omega)
  rw [← hh61] at dn58_61
  have dn60_61 := dn60_60.r (Y := 6) (j := 15) (v := 64) (by omega)
  rw [← hh61] at dn60_61
  have dn64_61 := dn64_60.r (Y := 6) (j := 15) (v := 64) (by omega)
  rw [← hh61] at dn64_61
  have u61 : Uc 6 h h61 := u60.tr (by rw [hh61]; exact fun a ha k => ⟨rfl, rfl, by rw [hR_pR, if_neg (by omega)]⟩)
  clear hh61 k60 b60 st60 u60 q6_60 q7_60 q32_60 q41_60 q42_60 q43_60 dn8_60 dn14_60 dn20_60 dn26_60 dn28_60 dn30_60 dn33_60 dn35_60 dn37_60 dn39_60 dn44_60 dn50_60 dn52_60 dn58_60 dn60_60 dn64_60 h60
  obtain ⟨h62, hh62⟩ : ∃ x, x = nwH h61 8 3 := ⟨_, rfl⟩
  have l61 := b61.l (by omega)
  have k61 : sK h61 6 = 10 := (b61.k 6).trans rfl
  obtain ⟨b62, s62⟩ := b61.nw (kd := 8) (m := 3) (by omega) (by omega) rfl
  rw [← hh62] at b62 s62
  have st62 : cal (d + 4) m_Hook_init [.inr (.inr 6)] h = EX (d + 3) m_Hook_init 216 [(0, .inr (.inr 6))] [.inr (.inr 68), .inr (.inr 6)] h62 := by
    rw [st61, hh62]
    simp (disch := omega) only [Hook_init_212, wr_id, ix_id, okx, if_pos, if_neg, Int.toNat_of_nonneg, bak_v, bak_n, wr_b01, wr_bt, b01_or, b01_0, b01_1, lc_lt0, lc_gt0, lc_eq0, wl_wr, wr_wr, wl_id, true_and, and_true, true_or, or_true, not_true_eq_false, not_false_eq_true, nc0, nc1, nc2, nc3, nc4, nc5, nc6, nc7, nc8, nc9, nc10, nc11, nc12, nc13, nc14, nc15, nc16, nc17, nc18, nc19, nc20, nc21, nc22, nc23, nc35, nc47, nc59, nc60, nc61, nc73, nc74, nc214, nc215, nc1115, nc2230, nc3345, if_true, if_false, Int.reduceToNat, l61, k61]
  have q6_62 := q6_61.sm s62
  have q7_62 := q7_61.sm s62
  have q32_62 := q32_61.sm s62
  have q41_62 := q41_61.sm s62
  have q42_62 := q42_61.sm s62
  have q43_62 := q43_61.sm s62
  have dn8_62 := dn8_61.sm s62
  have dn14_62 := dn14_61.sm s62
  have dn20_62 := dn20_61.sm s62
  have dn26_62 := dn26_61.sm s62
  have dn28_62 := dn28_61.sm s62
  have dn30_62 := dn30_61.sm s62
  have dn33_62 := dn33_61.sm s62
  have dn35_62 := dn35_61.sm s62
  have dn37_62 := dn37_61.sm s62
  have dn39_62 := dn39_61.sm s62
  have dn44_62 := dn44_61.sm s62
  have dn50_62 := dn50_61.sm s62
  have dn52_62 := dn52_61.sm s62
  have dn58_62 := dn58_61.sm s62
  have dn60_62 := dn60_61.sm s62
  have dn64_62 := dn64_61.sm s62
  have u62 : Uc 6 h h62 := u61.tr (fun a _ k => s62 a k)
  clear hh62 l61 k61 s62 b61 st61 u61 q6_61 q7_61 q32_61 q41_61 q42_61 q43_61 dn8_61 dn14_61 dn20_61 dn26_61 dn28_61 dn30_61 dn33_61 dn35_61 dn37_61 dn39_61 dn44_61 dn50_61 dn52_61 dn58_61 dn60_61 dn64_61 h61
  obtain ⟨h63, c63, b63, dn68_63, uc63⟩ := i_wat (L := L) (d := d + 2) h62 b62
  have kk62 : sK h62 68 = 8 := (b62.k 68).trans rfl
  have st63 : cal (d + 4) m_Hook_init [.inr (.inr 6)] h = EX (d + 3) m_Hook_init 220 [(0, .inr (.inr 6))] [.inr (.inr 68), .inr (.inr 6)] h63 := by
    rw [st62]
    simp (disch := omega) only [Hook_init_216, wr_id, ix_id, okx, if_pos, if_neg, Int.toNat_of_nonneg, bak_v, bak_n, wr_b01, wr_bt, b01_or, b01_0, b01_1, lc_lt0, lc_gt0, lc_eq0, wl_wr, wr_wr, wl_id, true_and, and_true, true_or, or_true, not_true_eq_false, not_false_eq_true, nc0, nc1, nc2, nc3, nc4, nc5, nc6, nc7, nc8, nc9, nc10, nc11, nc12, nc13, nc14, nc15, nc16, nc17, nc18, nc19, nc20, nc21, nc22, nc23, nc35, nc47, nc59, nc60, nc61, nc73, nc74, nc214, nc215, nc1115, nc2230, nc3345, if_true, if_false, Int.reduceToNat, kk62, c63]
  have q6_63 := q6_62.uc uc63 (by omega)
  have q7_63 := q7_62.uc uc63 (by omega)
  have q32_63 := q32_62.uc uc63 (by omega)
  have q41_63 := q41_62.uc uc63 (by omega)
  have q42_63 := q42_62.uc uc63 (by omega)
  have q43_63 := q43_62.uc uc63 (by omega)
  have dn8_63 := dn8_62.uc uc63 (by omega)
  have dn14_63 := dn14_62.uc uc63 (by omega)
  have dn20_63 := dn20_62.uc uc63 (by omega)
  have dn26_63 := dn26_62.uc uc63 (by omega)
  have dn28_63 := dn28_62.uc uc63 (by omega)
  have dn30_63 := dn30_62.uc uc63 (by omega)
  have dn33_63 := dn33_62.uc uc63 (by omega)
  have dn35_63 := dn35_62.uc uc63 (by omega)
  have dn37_63 := dn37_62.uc uc63 (by omega)
  have dn39_63 := dn39_62.uc uc63 (by omega)
  have dn44_63 := dn44_62.uc uc63 (by omega)
  have dn50_63 := dn50_62.uc uc63 (by omega)
  have dn52_63 := dn52_62.uc uc63 (by omega)
  have dn58_63 := dn58_62.uc uc63 (by omega)
  have dn60_63 := dn60_62.uc uc63 (by omega)
  have dn64_63 := dn64_62.uc uc63 (by omega)
  have u63 : Uc 6 h h63 := u62.tr (uc63.mo (by omega))
  clear c63 uc63 kk62 b62 st62 u62 q6_62 q7_62 q32_62 q41_62 q42_62 q43_62 dn8_62 dn14_62 dn20_62 dn26_62 dn28_62 dn30_62 dn33_62 dn35_62 dn37_62 dn39_62 dn44_62 dn50_62 dn52_62 dn58_62 dn60_62 dn64_62 h62
  obtain ⟨h64, hh64⟩ : ∃ x, x = pR h63 6 16 68 := ⟨_, rfl⟩
  have b64 := b63.pR (a := 6) (k := 16) (v := 68) (by omega)
  rw [← hh64] at b64
  have k63 : sK h63 6 = 10 := (b63.k 6).trans rfl
  have st64 : cal (d + 4) m_Hook_init [.inr (.inr 6)] h = EX (d + 3) m_Hook_init 223 [(0, .inr (.inr 6))] [] h64 := by
    rw [st63, hh64]
    simp (disch := omega) only [Hook_init_220, wr_id, ix_id, okx, if_pos, if_neg, Int.toNat_of_nonneg, bak_v, bak_n, wr_b01, wr_bt, b01_or, b01_0, b01_1, lc_lt0, lc_gt0, lc_eq0, wl_wr, wr_wr, wl_id, true_and, and_true, true_or, or_true, not_true_eq_false, not_false_eq_true, nc0, nc1, nc2, nc3, nc4, nc5, nc6, nc7, nc8, nc9, nc10, nc11, nc12, nc13, nc14, nc15, nc16, nc17, nc18, nc19, nc20, nc21, nc22, nc23, nc35, nc47, nc59, nc60, nc61, nc73, nc74, nc214, nc215, nc1115, nc2230, nc3345, if_true, if_false, Int.reduceToNat, k63]
  have q6_64 := q6_63.r (j := 16) (v := 68)
  rw [← hh64] at q6_64
  have q7_64 := q7_63.ro (Y := 6) (j := 16) (v := 68) (by omega)
  rw [← hh64] at q7_64
  have q32_64 := q32_63.ro (Y := 6) (j := 16) (v := 68) (by omega)
  rw [← hh64] at q32_64
  have q41_64 := q41_63.ro (Y := 6) (j := 16) (v := 68) (by omega)
  rw [← hh64] at q41_64
  have q42_64 := q42_63.ro (Y := 6) (j := 16) (v := 68) (by omega)
  rw [← hh64] at q42_64
  have q43_64 := q43_63.ro (Y := 6) (j := 16) (v := 68) (by omega)
  rw [← hh64] at q43_64
  have dn8_64 := dn8_63.r (Y := 6) (j := 16) (v := 68) (by omega)
  rw [← hh64] at dn8_64
  have dn14_64 := dn14_63.r (Y := 6) (j := 16) (v := 68) (by omega)
  rw [← hh64] at dn14_64
  have dn20_64 := dn20_63.r (Y := 6) (j := 16) (v := 68) (by omega)
  rw [← hh64] at dn20_64
  have dn26_64 := dn26_63.r (Y := 6) (j := 16) (v := 68) (by omega)
  rw [← hh64] at dn26_64
  have dn28_64 := dn28_63.r (Y := 6) (j := 16) (v := 68) (by omega)
  rw [← hh64] at dn28_64
  have dn30_64 := dn30_63.r (Y := 6) (j := 16) (v := 68) (by omega)
  rw [← hh64] at dn30_64
  have dn33_64 := dn33_63.r (Y := 6) (j := 16) (v := 68) (by omega)
  rw [← hh64] at dn33_64
  have dn35_64 := dn35_63.r (Y := 6) (j := 16) (v := 68) (by omega)
  rw [← hh64] at dn35_64
  have dn37_64 := dn37_63.r (Y := 6) (j := 16) (v := 68) (by omega)
  rw [← hh64] at dn37_64
  have dn39_64 := dn39_63.r (Y := 6) (j := 16) (v := 68) (by omega)
  rw [← hh64] at dn39_64
  have dn44_64 := dn44_63.r (Y := 6) (j := 16) (v := 68) (by omega)
  rw [← hh64] at dn44_64
  have dn50_64 := dn50_63.r (Y := 6) (j := 16) (v := 68) (by omega)
  rw [← hh64] at dn50_64
  have dn52_64 := dn52_63.r (Y := 6) (j := 16) (v := 68) (by omega)
  rw [← hh64] at dn52_64
  have dn58_64 := dn58_63.r (Y := 6) (j := 16) (v := 68) (by omega)
  rw [← hh64] at dn58_64
  have dn60_64 := dn60_63.r (Y := 6) (j := 16) (v := 68) (by omega)
  rw [← hh64] at dn60_64
  have dn64_64 := dn64_63.r (Y := 6) (j := 16) (v := 68) (by omega)
  rw [← hh64] at dn64_64
  have dn68_64 := dn68_63.r (Y := 6) (j := 16) (v := 68) (by omega)
  rw [← hh64] at dn68_64
  have u64 : Uc 6 h h64 := u63.tr (by rw [hh64]; exact fun a ha k => ⟨rfl, rfl, by rw [hR_pR, if_neg (by omega)]⟩)
  clear hh64 k63 b63 st63 u63 q6_63 q7_63 q32_63 q41_63 q42_63 q43_63 dn8_63 dn14_63 dn20_63 dn26_63 dn28_63 dn30_63 dn33_63 dn35_63 dn37_63 dn39_63 dn44_63 dn50_63 dn52_63 dn58_63 dn60_63 dn64_63 dn68_63 h63
  obtain ⟨h65, hh65⟩ : ∃ x, x = nwH h64 20 3456 := ⟨_, rfl⟩
  have l64 := b64.l (by omega)
  have k64 : sK h64 6 = 10 := (b64.k 6).trans rfl
  obtain ⟨b65, s65⟩ := b64.nw (kd := 20) (m := 3456) (by omega) (by omega) rfl
  rw [← hh65] at b65 s65
  have st65 : cal (d + 4) m_Hook_init [.inr (.inr 6)] h = EX (d + 3) m_Hook_init 229 [(0, .inr (.inr 6))] [.inr (.inr 70), .inr (.inr 6)] h65 := by
    rw [st64, hh65]
    simp (disch := omega) only [Hook_init_223, wr_id, ix_id, okx, if_pos, if_neg, Int.toNat_of_nonneg, bak_v, bak_n, wr_b01, wr_bt, b01_or, b01_0, b01_1, lc_lt0, lc_gt0, lc_eq0, wl_wr, wr_wr, wl_id, true_and, and_true, true_or, or_true, not_true_eq_false, not_false_eq_true, nc0, nc1, nc2, nc3, nc4, nc5, nc6, nc7, nc8, nc9, nc10, nc11, nc12, nc13, nc14, nc15, nc16, nc17, nc18, nc19, nc20, nc21, nc22, nc23, nc35, nc47, nc59, nc60, nc61, nc73, nc74, nc214, nc215, nc1115, nc2230, nc3345, if_true, if_false, Int.reduceToNat, l64, k64]
  have q6_65 := q6_64.sm s65
  have q7_65 := q7_64.sm s65
  have q32_65 := q32_64.sm s65
  have q41_65 := q41_64.sm s65
  have q42_65 := q42_64.sm s65
  have q43_65 := q43_64.sm s65
  have dn8_65 := dn8_64.sm s65
  have dn14_65 := dn14_64.sm s65
  have dn20_65 := dn20_64.sm s65
  have dn26_65 := dn26_64.sm s65
  have dn28_65 := dn28_64.sm s65
  have dn30_65 := dn30_64.sm s65
  have dn33_65 := dn33_64.sm s65
  have dn35_65 := dn35_64.sm s65
  have dn37_65 := dn37_64.sm s65
  have dn39_65 := dn39_64.sm s65
  have dn44_65 := dn44_64.sm s65
  have dn50_65 := dn50_64.sm s65
  have dn52_65 := dn52_64.sm s65
  have dn58_65 := dn58_64.sm s65
  have dn60_65 := dn60_64.sm s65
  have dn64_65 := dn64_64.sm s65
  have dn68_65 := dn68_64.sm s65
  have u65 : Uc 6 h h65 := u64.tr (fun a _ k => s65 a k)
  clear hh65 l64 k64 s65 b64 st64 u64 q6_64 q7_64 q32_64 q41_64 q42_64 q43_64 dn8_64 dn14_64 dn20_64 dn26_64 dn28_64 dn30_64 dn33_64 dn35_64 dn37_64 dn39_64 dn44_64 dn50_64 dn52_64 dn58_64 dn60_64 dn64_64 dn68_64 h64
  have q70_65 := b65.cl (X := 70) (by omega)
  replace b65 := b65.up (show 70 ≤ 71 by omega)
  obtain ⟨h66, hh66⟩ : ∃ x, x = pR h65 6 17 70 := ⟨_, rfl⟩
  have b66 := b65.pR (a := 6) (k := 17) (v := 70) (by omega)
  rw [← hh66] at b66
  have k65 : sK h65 6 = 10 := (b65.k 6).trans rfl
  have st66 : cal (d + 4) m_Hook_init [.inr (.inr 6)] h = EX (d + 3) m_Hook_init 232 [(0, .inr (.inr 6))] [] h66 := by
    rw [st65, hh66]
    simp (disch := omega) only [Hook_init_229, wr_id, ix_id, okx, if_pos, if_neg, Int.toNat_of_nonneg, bak_v, bak_n, wr_b01, wr_bt, b01_or, b01_0, b01_1, lc_lt0, lc_gt0, lc_eq0, wl_wr, wr_wr, wl_id, true_and, and_true, true_or, or_true, not_true_eq_false, not_false_eq_true, nc0, nc1, nc2, nc3, nc4, nc5, nc6, nc7, nc8, nc9, nc10, nc11, nc12, nc13, nc14, nc15, nc16, nc17, nc18, nc19, nc20, nc21, nc22, nc23, nc35, nc47, nc59, nc60, nc61, nc73, nc74, nc214, nc215, nc1115, nc2230, nc3345, if_true, if_false, Int.reduceToNat, k65]
  have q6_66 := q6_65.r (j := 17) (v := 70)
  rw [← hh66] at q6_66
  have q7_66 := q7_65.ro (Y := 6) (j := 17) (v := 70) (by omega)
  rw [← hh66] at q7_66
  have q32_66 := q32_65.ro (Y := 6) (j := 17) (v := 70) (by omega)
  rw [← hh66] at q32_66
  have q41_66 := q41_65.ro (Y := 6) (j := 17) (v := 70) (by omega)
  rw [← hh66] at q41_66
  have q42_66 := q42_65.ro (Y := 6) (j := 17) (v := 70) (by omega)
  rw [← hh66] at q42_66
  have q43_66 := q43_65.ro (Y := 6) (j := 17) (v := 70) (by omega)
  rw [← hh66] at q43_66
  have q70_66 := q70_65.ro (Y := 6) (j := 17) (v := 70) (by omega)
  rw [← hh66] at q70_66
  have dn8_66 := dn8_65.r (Y := 6) (j := 17) (v := 70) (by omega)
  rw [← hh66] at dn8_66
  have dn14_66 := dn14_65.r (Y := 6) (j := 17) (v := 70) (by omega)
  rw [← hh66] at dn14_66
  have dn20_66 := dn20_65.r (Y := 6) (j := 17) (v := 70) (by omega)
  rw [← hh66] at dn20_66
  have dn26_66 := dn26_65.r (Y := 6) (j := 17) (v := 70) (by omega)
  rw [← hh66] at dn26_66
  have dn28_66 := dn28_65.r (Y := 6) (j := 17) (v := 70) (by omega)
  rw [← hh66] at dn28_66
  have dn30_66 := dn30_65.r (Y := 6) (j := 17) (v := 70) (by omega)
  rw [← hh66] at dn30_66
  have dn33_66 := dn33_65.r (Y := 6) (j := 17) (v := 70) (by omega)
  rw [← hh66] at dn33_66
  have dn35_66 := dn35_65.r (Y := 6) (j := 17) (v := 70) (by omega)
  rw [← hh66] at dn35_66
  have dn37_66 := dn37_65.r (Y := 6) (j := 17) (v := 70) (by omega)
  rw [← hh66] at dn37_66
  have dn39_66 := dn39_65.r (Y := 6) (j := 17) (v := 70) (by omega)
  rw [← hh66] at dn39_66
  have dn44_66 := dn44_65.r (Y := 6) (j := 17) (v := 70) (by omega)
  rw [← hh66] at dn44_66
  have dn50_66 := dn50_65.r (Y := 6) (j := 17) (v := 70) (by omega)
  rw [← hh66] at dn50_66
  have dn52_66 := dn52_65.r (Y := 6) (j := 17) (v := 70) (by omega)
  rw [← hh66] at dn52_66
  have dn58_66 := dn58_65.r (Y := 6) (j := 17) (v := 70) (by omega)
  rw [← hh66] at dn58_66
  have dn60_66 := dn60_65.r (Y := 6) (j := 17) (v := 70) (by omega)
  rw [← hh66] at dn60_66
  have dn64_66 := dn64_65.r (Y := 6) (j := 17) (v := 70) (by omega)
  rw [← hh66] at dn64_66
  have dn68_66 := dn68_65.r (Y := 6) (j := 17) (v := 70) (by omega)
  rw [← hh66] at dn68_66
  have u66 : Uc 6 h h66 := u65.tr (by rw [hh66]; exact fun a ha k => ⟨rfl, rfl, by rw [hR_pR, if_neg (by omega)]⟩)
  clear hh66 k65 b65 st65 u65 q6_65 q7_65 q32_65 q41_65 q42_65 q43_65 q70_65 dn8_65 dn14_65 dn20_65 dn26_65 dn28_65 dn30_65 dn33_65 dn35_65 dn37_65 dn39_65 dn44_65 dn50_65 dn52_65 dn58_65 dn60_65 dn64_65 dn68_65 h65
  obtain ⟨h67, hh67⟩ : ∃ x, x = nwH h66 20 8 := ⟨_, rfl⟩
  have l66 := b66.l (by omega)
  have k66 : sK h66 6 = 10 := (b66.k 6).trans rfl
  obtain ⟨b67, s67⟩ := b66.nw (kd := 20) (m := 8) (by omega) (by omega) rfl
  rw [← hh67] at b67 s67
  have st67 : cal (d + 4) m_Hook_init [.inr (.inr 6)] h = EX (d + 3) m_Hook_init 237 [] [.inr (.inr 71), .inr (.inr 6)] h67 := by
    rw [st66, hh67]
    simp (disch := omega) only [Hook_init_232, wr_id, ix_id, okx, if_pos, if_neg, Int.toNat_of_nonneg, bak_v, bak_n, wr_b01, wr_bt, b01_or, b01_0, b01_1, lc_lt0, lc_gt0, lc_eq0, wl_wr, wr_wr, wl_id, true_and, and_true, true_or, or_true, not_true_eq_false, not_false_eq_true, nc0, nc1, nc2, nc3, nc4, nc5, nc6, nc7, nc8, nc9, nc10, nc11, nc12, nc13, nc14, nc15, nc16, nc17, nc18, nc19, nc20, nc21, nc22, nc23, nc35, nc47, nc59, nc60, nc61, nc73, nc74, nc214, nc215, nc1115, nc2230, nc3345, if_true, if_false, Int.reduceToNat, l66, k66]
  have q6_67 := q6_66.sm s67
  have q7_67 := q7_66.sm s67
  have q32_67 := q32_66.sm s67
  have q41_67 := q41_66.sm s67
  have q42_67 := q42_66.sm s67
  have q43_67 := q43_66.sm s67
  have q70_67 := q70_66.sm s67
  have dn8_67 := dn8_66.sm s67
  have dn14_67 := dn14_66.sm s67
  have dn20_67 := dn20_66.sm s67
  have dn26_67 := dn26_66.sm s67
  have dn28_67 := dn28_66.sm s67
  have dn30_67 := dn30_66.sm s67
  have dn33_67 := dn33_66.sm s67
  have dn35_67 := dn35_66.sm s67
  have dn37_67 := dn37_66.sm s67
  have dn39_67 := dn39_66.sm s67
  have dn44_67 := dn44_66.sm s67
  have dn50_67 := dn50_66.sm s67
  have dn52_67 := dn52_66.sm s67
  have dn58_67 := dn58_66.sm s67
  have dn60_67 := dn60_66.sm s67
  have dn64_67 := dn64_66.sm s67
  have dn68_67 := dn68_66.sm s67
  have u67 : Uc 6 h h67 := u66.tr (fun a _ k => s67 a k)
  clear hh67 l66 k66 s67 b66 st66 u66 q6_66 q7_66 q32_66 q41_66 q42_66 q43_66 q70_66 dn8_66 dn14_66 dn20_66 dn26_66 dn28_66 dn30_66 dn33_66 dn35_66 dn37_66 dn39_66 dn44_66 dn50_66 dn52_66 dn58_66 dn60_66 dn64_66 dn68_66 h66
  have q71_67 := b67.cl (X := 71) (by omega)
  replace b67 := b67.up (show 71 ≤ 72 by omega)
  obtain ⟨h68, hh68⟩ : ∃ x, x = pR h67 6 18 71 := ⟨_, rfl⟩
  have b68 := b67.pR (a := 6) (k := 18) (v := 71) (by omega)
  rw [← hh68] at b68
  have k67 : sK h67 6 = 10 := (b67.k 6).trans rfl
  have st68 : cal (d + 4) m_Hook_init [.inr (.inr 6)] h = EX (d + 3) m_Hook_init 240 [] [] h68 := by
    rw [st67, hh68]
    simp (disch := omega) only [Hook_init_237, wr_id, ix_id, okx, if_pos, if_neg, Int.toNat_of_nonneg, bak_v, bak_n, wr_b01, wr_bt, b01_or, b01_0, b01_1, lc_lt0, lc_gt0, lc_eq0, wl_wr, wr_wr, wl_id, true_and, and_true, true_or, or_true, not_true_eq_false, not_false_eq_true, nc0, nc1, nc2, nc3, nc4, nc5, nc6, nc7, nc8, nc9, nc10, nc11, nc12, nc13, nc14, nc15, nc16, nc17, nc18, nc19, nc20, nc21, nc22, nc23, nc35, nc47, nc59, nc60, nc61, nc73, nc74, nc214, nc215, nc1115, nc2230, nc3345, if_true, if_false, Int.reduceToNat, k67]
  have q6_68 := q6_67.r (j := 18) (v := 71)
  rw [← hh68] at q6_68
  have q7_68 := q7_67.ro (Y := 6) (j := 18) (v := 71) (by omega)
  rw [← hh68] at q7_68
  have q32_68 := q32_67.ro (Y := 6) (j := 18) (v := 71) (by omega)
  rw [← hh68] at q32_68
  have q41_68 := q41_67.ro (Y := 6) (j := 18) (v := 71) (by omega)
  rw [← hh68] at q41_68
  have q42_68 := q42_67.ro (Y := 6) (j := 18) (v := 71) (by omega)
  rw [← hh68] at q42_68
  have q43_68 := q43_67.ro (Y := 6) (j := 18) (v := 71) (by omega)
  rw [← hh68] at q43_68
  have q70_68 := q70_67.ro (Y := 6) (j := 18) (v := 71) (by omega)
  rw [← hh68] at q70_68
  have q71_68 := q71_67.ro (Y := 6) (j := 18) (v := 71) (by omega)
  rw [← hh68] at q71_68
  have dn8_68 := dn8_67.r (Y := 6) (j := 18) (v := 71) (by omega)
  rw [← hh68] at dn8_68
  have dn14_68 := dn14_67.r (Y := 6) (j := 18) (v := 71) (by omega)
  rw [← hh68] at dn14_68
  have dn20_68 := dn20_67.r (Y := 6) (j := 18) (v := 71) (by omega)
  rw [← hh68] at dn20_68
  have dn26_68 := dn26_67.r (Y := 6) (j := 18) (v := 71) (by omega)
  rw [← hh68] at dn26_68
  have dn28_68 := dn28_67.r (Y := 6) (j := 18) (v := 71) (by omega)
  rw [← hh68] at dn28_68
  have dn30_68 := dn30_67.r (Y := 6) (j := 18) (v := 71) (by omega)
  rw [← hh68] at dn30_68
  have dn33_68 := dn33_67.r (Y := 6) (j := 18) (v := 71) (by omega)
  rw [← hh68] at dn33_68
  have dn35_68 := dn35_67.r (Y := 6) (j := 18) (v := 71) (by omega)
  rw [← hh68] at dn35_68
  have dn37_68 := dn37_67.r (Y := 6) (j := 18) (v := 71) (by omega)
  rw [← hh68] at dn37_68
  have dn39_68 := dn39_67.r (Y := 6) (j := 18) (v := 71) (by omega)
  rw [← hh68] at dn39_68
  have dn44_68 := dn44_67.r (Y := 6) (j := 18) (v := 71) (by omega)
  rw [← hh68] at dn44_68
  have dn50_68 := dn50_67.r (Y := 6) (j := 18) (v := 71) (by omega)
  rw [← hh68] at dn50_68
  have dn52_68 := dn52_67.r (Y := 6) (j := 18) (v := 71) (by omega)
  rw [← hh68] at dn52_68
  have dn58_68 := dn58_67.r (Y := 6) (j := 18) (v := 71) (by omega)
  rw [← hh68] at dn58_68
  have dn60_68 := dn60_67.r (Y := 6) (j := 18) (v := 71) (by omega)
  rw [← hh68] at dn60_68
  have dn64_68 := dn64_67.r (Y := 6) (j := 18) (v := 71) (by omega)
  rw [← hh68] at dn64_68
  have dn68_68 := dn68_67.r (Y := 6) (j := 18) (v := 71) (by omega)
  rw [← hh68] at dn68_68
  have u68 : Uc 6 h h68 := u67.tr (by rw [hh68]; exact fun a ha k => ⟨rfl, rfl, by rw [hR_pR, if_neg (by omega)]⟩)
  clear hh68 k67 b67 st67 u67 q6_67 q7_67 q32_67 q41_67 q42_67 q43_67 q70_67 q71_67 dn8_67 dn14_67 dn20_67 dn26_67 dn28_67 dn30_67 dn33_67 dn35_67 dn37_67 dn39_67 dn44_67 dn50_67 dn52_67 dn58_67 dn60_67 dn64_67 dn68_67 h67
  have f6 : Dn h68 6 7 := Dn.cl q6_68 (fun k => by simp [IT]; try (repeat' split) <;> omega) (fun k => by simp [RT]; try (repeat' split) <;> omega)
  have f7 : Dn h68 7 8 := Dn.cl q7_68 (fun k => by simp [IT]; try (repeat' split) <;> omega) (fun k => by simp [RT]; try (repeat' split) <;> omega)
  have f32 : Dn h68 32 33 := Dn.cl q32_68 (fun k => by simp [IT]; try (repeat' split) <;> omega) (fun k => by simp [RT]; try (repeat' split) <;> omega)
  have f41 : Dn h68 41 42 := Dn.cl q41_68 (fun k => by simp [IT]; try (repeat' split) <;> omega) (fun k => by simp [RT]; try (repeat' split) <;> omega)
  have f42 : Dn h68 42 43 := Dn.cl q42_68 (fun k => by simp [IT]; try (repeat' split) <;> omega) (fun k => by simp [RT]; try (repeat' split) <;> omega)
  have f43 : Dn h68 43 44 := Dn.cl q43_68 (fun k => by simp [IT]; try (repeat' split) <;> omega) (fun k => by simp [RT]; try (repeat' split) <;> omega)
  have f70 : Dn h68 70 71 := Dn.cl q70_68 (fun k => by simp [IT]; try (repeat' split) <;> omega) (fun k => by simp [RT]; try (repeat' split) <;> omega)
  have f71 : Dn h68 71 72 := Dn.cl q71_68 (fun k => by simp [IT]; try (repeat' split) <;> omega) (fun k => by simp [RT]; try (repeat' split) <;> omega)
  refine ⟨h68, ?_, b68, ((((((((((((((((((((((((f6.ap f7).ap dn8_68).ap dn14_68).ap dn20_68).ap dn26_68).ap dn28_68).ap dn30_68).ap f32).ap dn33_68).ap dn35_68).ap dn37_68).ap dn39_68).ap f41).ap f42).ap f43).ap dn44_68).ap dn50_68).ap dn52_68).ap dn58_68).ap dn60_68).ap dn64_68).ap dn68_68).ap f70).ap f71), u68⟩
  rw [st68]
  simp (disch := omega) only [Hook_init_240, wr_id, ix_id, okx, if_pos, if_neg, Int.toNat_of_nonneg, bak_v, bak_n, wr_b01, wr_bt, b01_or, b01_0, b01_1, lc_lt0, lc_gt0, lc_eq0, wl_wr, wr_wr, wl_id, true_and, and_true, true_or, or_true, not_true_eq_false, not_false_eq_true, nc0, nc1, nc2, nc3, nc4, nc5, nc6, nc7, nc8, nc9, nc10, nc11, nc12, nc13, nc14, nc15, nc16, nc17, nc18, nc19, nc20, nc21, nc22, nc23, nc35, nc47, nc59, nc60, nc61, nc73, nc74, nc214, nc215, nc1115, nc2230, nc3345, if_true, if_false, Int.reduceToNat]
