/-! the constructor of the model (first printed by a script like gen/hookinit.py) -/
theorem m_p73_1 {d : Nat} {R : Int → Int} : ∀ k, 0 ≤ k → k ≤ 1115 → ∀ h, MR h → (∀ j : Nat, hI h 73 j = if (j : Int) < k then 0 else R j) → ∃ h', EX (d) m_Mod_plain 2 [(0, .inr (.inr (73))), (1, .inl (k))] [] (h) = EX (d) m_Mod_plain 19 [(0, .inr (.inr (73)))] [] (h') ∧ (∀ j : Nat, hI h' 73 j = if (j : Int) < 1115 then 0 else R j) ∧ Fr (fun a _ => a = 73) h h' := by
  refine up_ind (hi := 1115) ?_ ?_
  · intro k hk k0 k1 h hm tp
    rw [show k = 1115 by omega] at tp
    refine ⟨h, ?_, tp, Fr.rf⟩
    rw [Mod_plain_2]
    simp (disch := omega) only [wr_id, ix_id, okx, if_pos, if_neg, Int.toNat_of_nonneg, bak_v, bak_n, wr_b01, wr_bt, b01_or, b01_0, b01_1, lc_lt0, lc_gt0, lc_eq0, wl_wr, wr_wr, wl_id, true_and, and_true, true_or, or_true, not_true_eq_false, not_false_eq_true, nc0, nc1, nc2, nc3, nc4, nc5, nc6, nc7, nc8, nc9, nc10, nc11, nc12, nc13, nc14, nc15, nc16, nc17, nc18, nc19, nc20, nc21, nc22, nc23, nc35, nc47, nc59, nc60, nc61, nc73, nc74, nc214, nc215, nc1115, nc2230, nc3345, if_true, if_false, Int.reduceToNat]
  · intro k hk ih k0 k1 h hm tp
    have f0 : Fr (fun a _ => a = 73) h (pI h 73 k.toNat 0) := Fr.pI Fr.rf (by rfl)
    obtain ⟨h2, e2, k2, f2⟩ := ih (by omega) (by omega) _ (hm.fr f0) (fun j => by
      rw [hI_pI]
      by_cases c : j = k.toNat
      · rw [if_pos ⟨rfl, c⟩, if_pos (by omega)]
      · rw [if_neg (fun q => c q.2), tp j]
        by_cases c2 : (j : Int) < k
        · rw [if_pos c2, if_pos (by omega)]
        · rw [if_neg c2, if_neg (by omega)])
    refine ⟨h2, ?_, k2, f0.tr f2⟩
    rw [Mod_plain_2]
    simp (disch := omega) only [Mod_plain_9, Mod_plain_13, wr_id, ix_id, okx, if_pos, if_neg, Int.toNat_of_nonneg, bak_v, bak_n, wr_b01, wr_bt, b01_or, b01_0, b01_1, lc_lt0, lc_gt0, lc_eq0, wl_wr, wr_wr, wl_id, true_and, and_true, true_or, or_true, not_true_eq_false, not_false_eq_true, nc0, nc1, nc2, nc3, nc4, nc5, nc6, nc7, nc8, nc9, nc10, nc11, nc12, nc13, nc14, nc15, nc16, nc17, nc18, nc19, nc20, nc21, nc22, nc23, nc35, nc47, nc59, nc60, nc61, nc73, nc74, nc214, nc215, nc1115, nc2230, nc3345, if_true, if_false, Int.reduceToNat, hm.k, hm.r1, hm.r2, hm.r3, hm.r4, hm.r15, hm.r16, hm.r19, hm.r23, hm.r24, hm.r25, hm.r26, hm.r29, hm.r30, hm.r31, hm.r33, hm.r34, hm.r35, hm.k73, hm.k74, hm.k75, hm.k76, hm.k77, hm.k78, hm.k79, hm.k80, hm.k81, hm.k82, hm.k83, hm.k84, hm.k85, hm.k86, hm.k87, hm.k88, hm.k89, hm.n73, hm.n74, hm.n75, hm.n76, hm.n77, hm.n78, hm.n79, hm.n80, hm.n81, hm.n82, hm.n83, hm.n84, hm.n85, hm.n86, hm.n87, hm.n88, hm.n89]
    exact e2
theorem m_p73_2 {d : Nat} {R : Int → Int} : ∀ k, 0 ≤ k → k ≤ 12 → ∀ h, MR h → (∀ j : Nat, hI h 73 j = if 61 ≤ (j : Int) ∧ (j : Int) < 61 + k then -1 else R j) → ∃ h', EX (d) m_Mod_plain 39 [(0, .inr (.inr (73))), (1, .inl (k))] [] (h) = some (.inl 0, h') ∧ (∀ j : Nat, hI h' 73 j = if 61 ≤ (j : Int) ∧ (j : Int) < 73 then -1 else R j) ∧ Fr (fun a _ => a = 73) h h' := by
  refine up_ind (hi := 12) ?_ ?_
  · intro k hk k0 k1 h hm tp
    rw [show k = 12 by omega] at tp
    refine ⟨h, ?_, tp, Fr.rf⟩
    rw [Mod_plain_39]
    simp (disch := omega) only [Mod_plain_58, wr_id, ix_id, okx, if_pos, if_neg, Int.toNat_of_nonneg, bak_v, bak_n, wr_b01, wr_bt, b01_or, b01_0, b01_1, lc_lt0, lc_gt0, lc_eq0, wl_wr, wr_wr, wl_id, true_and, and_true, true_or, or_true, not_true_eq_false, not_false_eq_true, nc0, nc1, nc2, nc3, nc4, nc5, nc6, nc7, nc8, nc9, nc10, nc11, nc12, nc13, nc14, nc15, nc16, nc17, nc18, nc19, nc20, nc21, nc22, nc23, nc35, nc47, nc59, nc60, nc61, nc73, nc74, nc214, nc215, nc1115, nc2230, nc3345, if_true, if_false, Int.reduceToNat]
  · intro k hk ih k0 k1 h hm tp
    have f0 : Fr (fun a _ => a = 73) h (pI h 73 (61 + k).toNat (-1)) := Fr.pI Fr.rf (by rfl)
    obtain ⟨h2, e2, k2, f2⟩ := ih (by omega) (by omega) _ (hm.fr f0) (fun j => by
      rw [hI_pI]
      by_cases c : j = (61 + k).toNat
      · rw [if_pos ⟨rfl, c⟩, if_pos (by omega)]
      · rw [if_neg (fun q => c q.2), tp j]
        by_cases c2 : 61 ≤ (j : Int) ∧ (j : Int) < 61 + k
        · rw [if_pos c2, if_pos (by omega)]
        · rw [if_neg c2, if_neg (by omega)])
    refine ⟨h2, ?_, k2, f0.tr f2⟩
    rw [Mod_plain_39]
    simp (disch := omega) only [Mod_plain_45, Mod_plain_52, wr_id, ix_id, okx, if_pos, if_neg, Int.toNat_of_nonneg, bak_v, bak_n, wr_b01, wr_bt, b01_or, b01_0, b01_1, lc_lt0, lc_gt0, lc_eq0, wl_wr, wr_wr, wl_id, true_and, and_true, true_or, or_true, not_true_eq_false, not_false_eq_true, nc0, nc1, nc2, nc3, nc4, nc5, nc6, nc7, nc8, nc9, nc10, nc11, nc12, nc13, nc14, nc15, nc16, nc17, nc18, nc19, nc20, nc21, nc22, nc23, nc35, nc47, nc59, nc60, nc61, nc73, nc74, nc214, nc215, nc1115, nc2230, nc3345, if_true, if_false, Int.reduceToNat, hm.k, hm.r1, hm.r2, hm.r3, hm.r4, hm.r15, hm.r16, hm.r19, hm.r23, hm.r24, hm.r25, hm.r26, hm.r29, hm.r30, hm.r31, hm.r33, hm.r34, hm.r35, hm.k73, hm.k74, hm.k75, hm.k76, hm.k77, hm.k78, hm.k79, hm.k80, hm.k81, hm.k82, hm.k83, hm.k84, hm.k85, hm.k86, hm.k87, hm.k88, hm.k89, hm.n73, hm.n74, hm.n75, hm.n76, hm.n77, hm.n78, hm.n79, hm.n80, hm.n81, hm.n82, hm.n83, hm.n84, hm.n85, hm.n86, hm.n87, hm.n88, hm.n89]
    exact e2
theorem m_p73 {d : Nat} {h : Hp} {R : Int → Int} (hm : MR h) (hR : ∀ j : Nat, hI h 73 j = R j) : ∃ h', cal (d+1) m_Mod_plain [.inr (.inr (73))] (h) = some (.inl 0, h') ∧ (∀ j : Nat, hI h' 73 j = plR R j) ∧ Fr (fun a _ => a = 73) h h' := by
  obtain ⟨h1, e1, k1, f1⟩ := m_p73_1 (d := d) (R := R) 0 (by omega) (by omega) h hm (fun j => by rw [if_neg (by omega)]; exact hR j)
  have hm1 := hm.fr f1
  have f2 : Fr (fun a _ => a = 73) h1 (pI (pI (pI (pI h1 73 3 1) 73 4 5) 73 5 2) 73 8 10) := Fr.pI (Fr.pI (Fr.pI (Fr.pI Fr.rf (by rfl)) (by rfl)) (by rfl)) (by rfl)
  have hm2 := hm1.fr f2
  obtain ⟨h3, e3, k3, f3⟩ := m_p73_2 (d := d) (R := fun j => if j = 8 then 10 else if j = 5 then 2 else if j = 4 then 5 else if j = 3 then 1 else if j < 1115 then 0 else R j) 0 (by omega) (by omega) _ hm2 (fun j => by
    rw [if_neg (by omega)]
    simp only [hI_pI, true_and]
    rw [k1 j]
    by_cases c8 : j = 8
    · subst c8; rfl
    · rw [if_neg c8, if_neg (show ¬ (j : Int) = 8 by omega)]
      by_cases c5 : j = 5
      · subst c5; rfl
      · rw [if_neg c5, if_neg (show ¬ (j : Int) = 5 by omega)]
        by_cases c4 : j = 4
        · subst c4; rfl
        · rw [if_neg c4, if_neg (show ¬ (j : Int) = 4 by omega)]
          by_cases c3 : j = 3
          · subst c3; rfl
          · rw [if_neg c3, if_neg (show ¬ (j : Int) = 3 by omega)])
  refine ⟨h3, ?_, fun j => ?_, (f1.tr f2).tr f3⟩
  · show EX (d) m_Mod_plain 0 [(0, .inr (.inr (73)))] [] (h) = _
    rw [Mod_plain_0]
    refine e1.trans ?_
    have hm := hm1
    simp (disch := omega) only [Mod_plain_19, Mod_plain_23, Mod_plain_27, Mod_plain_31, Mod_plain_37, wr_id, ix_id, okx, if_pos, if_neg, Int.toNat_of_nonneg, bak_v, bak_n, wr_b01, wr_bt, b01_or, b01_0, b01_1, lc_lt0, lc_gt0, lc_eq0, wl_wr, wr_wr, wl_id, true_and, and_true, true_or, or_true, not_true_eq_false, not_false_eq_true, nc0, nc1, nc2, nc3, nc4, nc5, nc6, nc7, nc8, nc9, nc10, nc11, nc12, nc13, nc14, nc15, nc16, nc17, nc18, nc19, nc20, nc21, nc22, nc23, nc35, nc47, nc59, nc60, nc61, nc73, nc74, nc214, nc215, nc1115, nc2230, nc3345, if_true, if_false, Int.reduceToNat, hm.k, hm.r1, hm.r2, hm.r3, hm.r4, hm.r15, hm.r16, hm.r19, hm.r23, hm.r24, hm.r25, hm.r26, hm.r29, hm.r30, hm.r31, hm.r33, hm.r34, hm.r35, hm.k73, hm.k74, hm.k75, hm.k76, hm.k77, hm.k78, hm.k79, hm.k80, hm.k81, hm.k82, hm.k83, hm.k84, hm.k85, hm.k86, hm.k87, hm.k88, hm.k89, hm.n73, hm.n74, hm.n75, hm.n76, hm.n77, hm.n78, hm.n79, hm.n80, hm.n81, hm.n82, hm.n83, hm.n84, hm.n85, hm.n86, hm.n87, hm.n88, hm.n89, sK_pI, sN_pI]
    exact e3
  · rw [k3 j]
    unfold plR plS
    by_cases c1 : (j : Int) < 1115
    · rw [if_pos (show 0 ≤ (j : Int) ∧ (j : Int) < 1115 by omega)]
      repeat' split
      all_goals omega
    · rw [if_neg (show ¬ (0 ≤ (j : Int) ∧ (j : Int) < 1115) by omega)]
      simp (disch := omega) only [if_neg]
theorem i_mod {L d : Nat} {h : Hp} (b : Bd L h 73 72) (w : Dn h 6 72) : ∃ h', cal (d + 4) m_Mod_init [.inr (.inr 72)] h = some (.inl 0, h') ∧ Bd L h' 90 90 ∧ Dn h' 6 90 ∧ Uc 72 h h' := by
  have st0 : cal (d + 4) m_Mod_init [.inr (.inr 72)] h = EX (d + 3) m_Mod_init 0 [(0, .inr (.inr 72))] [] h := rfl
  have q72_0 := b.cl (X := 72) (by omega)
  have b0 := b.up (show 72 ≤ 73 by omega)
  have u0 : Uc 72 h h := Uc.rf
  have w0 := w
  obtain ⟨h1, hh1⟩ : ∃ x, x = nwH h 20 3345 := ⟨_, rfl⟩
  have l0 := b0.l (by omega)
  have k0 : sK h 72 = 11 := (b0.k 72).trans rfl
  obtain ⟨b1, s1⟩ := b0.nw (kd := 20) (m := 3345) (by omega) (by omega) rfl
  rw [← hh1] at b1 s1
  have st1 : cal (d + 4) m_Mod_init [.inr (.inr 72)] h = EX (d + 3) m_Mod_init 10 [(0, .inr (.inr 72))] [.inr (.inr 73), .inr (.inr 72)] h1 := by
    rw [st0, hh1]
    simp (disch := omega) only [Mod_init_0, wr_id, ix_id, okx, if_pos, if_neg, Int.toNat_of_nonneg, bak_v, bak_n, wr_b01, wr_bt, b01_or, b01_0, b01_1, lc_lt0, lc_gt0, lc_eq0, wl_wr, wr_wr, wl_id, true_and, and_true, true_or, or_true, not_true_eq_false, not_false_eq_true, nc0, nc1, nc2, nc3, nc4, nc5, nc6, nc7, nc8, nc9, nc10, nc11, nc12, nc13, nc14, nc15, nc16, nc17, nc18, nc19, nc20, nc21, nc22, nc23, nc35, nc47, nc59, nc60, nc61, nc73, nc74, nc214, nc215, nc1115, nc2230, nc3345, if_true, if_false, Int.reduceToNat, l0, k0]
  have q72_1 := q72_0.sm s1
  have u1 : Uc 72 h h1 := u0.tr (fun a _ k => s1 a k)
  clear hh1 l0 k0 s1 b0 st0 u0 q72_0 b
  have q73_1 := b1.cl (X := 73) (by omega)
  replace b1 := b1.up (show 73 ≤ 74 by omega)
  obtain ⟨h2, hh2⟩ : ∃ x, x = pR h1 72 1 73 := ⟨_, rfl⟩
  have b2 := b1.pR (a := 72) (k := 1) (v := 73) (by omega)
  rw [← hh2] at b2
  have k1 : sK h1 72 = 11 := (b1.k 72).trans rfl
  have st2 : cal (d + 4) m_Mod_init [.inr (.inr 72)] h = EX (d + 3) m_Mod_init 13 [(0, .inr (.inr 72))] [] h2 := by
    rw [st1, hh2]
    simp (disch := omega) only [Mod_init_10, wr_id, ix_id, okx, if_pos, if_neg, Int.toNat_of_nonneg, bak_v, bak_n, wr_b01, wr_bt, b01_or, b01_0, b01_1, lc_lt0, lc_gt0, lc_eq0, wl_wr, wr_wr, wl_id, true_and, and_true, true_or, or_true, not_true_eq_false, not_false_eq_true, nc0, nc1, nc2, nc3, nc4, nc5, nc6, nc7, nc8, nc9, nc10, nc11, nc12, nc13, nc14, nc15, nc16, nc17, nc18, nc19, nc20, nc21, nc22, nc23, nc35, nc47, nc59, nc60, nc61, nc73, nc74, nc214, nc215, nc1115, nc2230, nc3345, if_true, if_false, Int.reduceToNat, k1]
  have q72_2 := q72_1.r (j := 1) (v := 73)
  rw [← hh2] at q72_2
  have q73_2 := q73_1.ro (Y := 72) (j := 1) (v := 73) (by omega)
  rw [← hh2] at q73_2
  have u2 : Uc 72 h h2 := u1.tr (by rw [hh2]; exact fun a ha k => ⟨rfl, rfl, by rw [hR_pR, if_neg (by omega)]⟩)
  clear hh2 k1 b1 st1 u1 q72_1 q73_1 h1
  obtain ⟨h3, hh3⟩ : ∃ x, x = nwH h2 23 2 := ⟨_, rfl⟩
  have l2 := b2.l (by omega)
  have k2 : sK h2 72 = 11 := (b2.k 72).trans rfl
  obtain ⟨b3, s3⟩ := b2.nw (kd := 23) (m := 2) (by omega) (by omega) rfl
  rw [← hh3] at b3 s3
  have st3 : cal (d + 4) m_Mod_init [.inr (.inr 72)] h = EX (d + 3) m_Mod_init 17 [(0, .inr (.inr 72))] [.inr (.inr 74), .inr (.inr 72)] h3 := by
    rw [st2, hh3]
    simp (disch := omega) only [Mod_init_13, wr_id, ix_id, okx, if_pos, if_neg, Int.toNat_of_nonneg, bak_v, bak_n, wr_b01, wr_bt, b01_or, b01_0, b01_1, lc_lt0, lc_gt0, lc_eq0, wl_wr, wr_wr, wl_id, true_and, and_true, true_or, or_true, not_true_eq_false, not_false_eq_true, nc0, nc1, nc2, nc3, nc4, nc5, nc6, nc7, nc8, nc9, nc10, nc11, nc12, nc13, nc14, nc15, nc16, nc17, nc18, nc19, nc20, nc21, nc22, nc23, nc35, nc47, nc59, nc60, nc61, nc73, nc74, nc214, nc215, nc1115, nc2230, nc3345, if_true, if_false, Int.reduceToNat, l2, k2]
  have q72_3 := q72_2.sm s3
  have q73_3 := q73_2.sm s3
  have u3 : Uc 72 h h3 := u2.tr (fun a _ k => s3 a k)
  clear hh3 l2 k2 s3 b2 st2 u2 q72_2 q73_2 h2
  have q74_3 := b3.cl (X := 74) (by omega)
  replace b3 := b3.up (show 74 ≤ 75 by omega)
  obtain ⟨h4, hh4⟩ : ∃ x, x = pR h3 72 2 74 := ⟨_, rfl⟩
  have b4 := b3.pR (a := 72) (k := 2) (v := 74) (by omega)
  rw [← hh4] at b4
  have k3 : sK h3 72 = 11 := (b3.k 72).trans rfl
  have st4 : cal (d + 4) m_Mod_init [.inr (.inr 72)] h = EX (d + 3) m_Mod_init 20 [(0, .inr (.inr 72))] [] h4 := by
    rw [st3, hh4]
    simp (disch := omega) only [Mod_init_17, wr_id, ix_id, okx, if_pos, if_neg, Int.toNat_of_nonneg, bak_v, bak_n, wr_b01, wr_bt, b01_or, b01_0, b01_1, lc_lt0, lc_gt0, lc_eq0, wl_wr, wr_wr, wl_id, true_and, and_true, true_or, or_true, not_true_eq_false, not_false_eq_true, nc0, nc1, nc2, nc3, nc4, nc5, nc6, nc7, nc8, nc9, nc10, nc11, nc12, nc13, nc14, nc15, nc16, nc17, nc18, nc19, nc20, nc21, nc22, nc23, nc35, nc47, nc59, nc60, nc61, nc73, nc74, nc214, nc215, nc1115, nc2230, nc3345, if_true, if_false, Int.reduceToNat, k3]
  have q72_4 := q72_3.r (j := 2) (v := 74)
  rw [← hh4] at q72_4
  have q73_4 := q73_3.ro (Y := 72) (j := 2) (v := 74) (by omega)
  rw [← hh4] at q73_4
  have q74_4 := q74_3.ro (Y := 72) (j := 2) (v := 74) (by omega)
  rw [← hh4] at q74_4
  have u4 : Uc 72 h h4 := u3.tr (by rw [hh4]; exact fun a ha k => ⟨rfl, rfl, by rw [hR_pR, if_neg (by omega)]⟩)
  clear hh4 k3 b3 st3 u3 q72_3 q73_3 q74_3 h3
  obtain ⟨h5, hh5⟩ : ∃ x, x = nwH h4 20 900 := ⟨_, rfl⟩
  have l4 := b4.l (by omega)
  have k4 : sK h4 72 = 11 := (b4.k 72).trans rfl
  obtain ⟨b5, s5⟩ := b4.nw (kd := 20) (m := 900) (by omega) (by omega) rfl
  rw [← hh5] at b5 s5
  have st5 : cal (d + 4) m_Mod_init [.inr (.inr 72)] h = EX (d + 3) m_Mod_init 26 [(0, .inr (.inr 72))] [.inr (.inr 75), .inr (.inr 72)] h5 := by
    rw [st4, hh5]
    simp (disch := omega) only [Mod_init_20, wr_id, ix_id, okx, if_pos, if_neg, Int.toNat_of_nonneg, bak_v, bak_n, wr_b01, wr_bt, b01_or, b01_0, b01_1, lc_lt0, lc_gt0, lc_eq0, wl_wr, wr_wr, wl_id, true_and, and_true, true_or, or_true, not_true_eq_false, not_false_eq_true, nc0, nc1, nc2, nc3, nc4, nc5, nc6, nc7, nc8, nc9, nc10, nc11, nc12, nc13, nc14, nc15, nc16, nc17, nc18, nc19, nc20, nc21, nc22, nc23, nc35, nc47, nc59, nc60, nc61, nc73, nc74, nc214, nc215, nc1115, nc2230, nc3345, if_true, if_false, Int.reduceToNat, l4, k4]
  have q72_5 := q72_4.sm s5
  have q73_5 := q73_4.sm s5
  have q74_5 := q74_4.sm s5
  have u5 : Uc 72 h h5 := u4.tr (fun a _ k => s5 a k)
  clear hh5 l4 k4 s5 b4 st4 u4 q72_4 q73_4 q74_4 h4
  have q75_5 := b5.cl (X := 75) (by omega)
  replace b5 := b5.up (show 75 ≤ 76 by omega)
  obtain ⟨h6, hh6⟩ : ∃ x, x = pR h5 72 3 75 := ⟨_, rfl⟩
  have b6 := b5.pR (a := 72) (k := 3) (v := 75) (by omega)
  rw [← hh6] at b6
  have k5 : sK h5 72 = 11 := (b5.k 72).trans rfl
  have st6 : cal (d + 4) m_Mod_init [.inr (.inr 72)] h = EX (d + 3) m_Mod_init 29 [(0, .inr (.inr 72))] [] h6 := by
    rw [st5, hh6]
    simp (disch := omega) only [Mod_init_26, wr_id, ix_id, okx, if_pos, if_neg, Int.toNat_of_nonneg, bak_v, bak_n, wr_b01, wr_bt, b01_or, b01_0, b01_1, lc_lt0, lc_gt0, lc_eq0, wl_wr, wr_wr, wl_id, true_and, and_true, true_or, or_true, not_true_eq_false, not_false_eq_true, nc0, nc1, nc2, nc3, nc4, nc5, nc6, nc7, nc8, nc9, nc10, nc11, nc12, nc13, nc14, nc15, nc16, nc17, nc18, nc19, nc20, nc21, nc22, nc23, nc35, nc47, nc59, nc60, nc61, nc73, nc74, nc214, nc215, nc1115, nc2230, nc3345, if_true, if_false, Int.reduceToNat, k5]
  have q72_6 := q72_5.r (j := 3) (v := 75)
  rw [← hh6] at q72_6
  have q73_6 := q73_5.ro (Y := 72) (j := 3) (v := 75) (by omega)
  rw [← hh6] at q73_6
  have q74_6 := q74_5.ro (Y := 72) (j := 3) (v := 75) (by omega)
  rw [← hh6] at q74_6
  have q75_6 := q75_5.ro (Y := 72) (j := 3) (v := 75) (by omega)
  rw [← hh6] at q75_6
  have u6 : Uc 72 h h6 := u5.tr (by rw [hh6]; exact fun a ha k => ⟨rfl, rfl, by rw [hR_pR, if_neg (by omega)]⟩)
  clear hh6 k5 b5 st5 u5 q72_5 q73_5 q74_5 q75_5 h5
  obtain ⟨h7, hh7⟩ : ∃ x, x = nwH h6 20 1115 := ⟨_, rfl⟩
  have l6 := b6.l (by omega)
  have k6 : sK h6 72 = 11 := (b6.k 72).trans rfl
  obtain ⟨b7, s7⟩ := b6.nw (kd := 20) (m := 1115) (by omega) (by omega) rfl
  rw [← hh7] at b7 s7
  have st7 : cal (d + 4) m_Mod_init [.inr (.inr 72)] h = EX (d + 3) m_Mod_init 35 [(0, .inr (.inr 72))] [.inr (.inr 76), .inr (.inr 72)] h7 := by
    rw [st6, hh7]
    simp (disch := omega) only [Mod_init_29, wr_id, ix_id, okx, if_pos, if_neg, Int.toNat_of_nonneg, bak_v, bak_n, wr_b01, wr_bt, b01_or, b01_0, b01_1, lc_lt0, lc_gt0, lc_eq0, wl_wr, wr_wr, wl_id, true_and, and_true, true_or, or_true, not_true_eq_false, not_false_eq_true, nc0, nc1, nc2, nc3, nc4, nc5, nc6, nc7, nc8, nc9, nc10, nc11, nc12, nc13, nc14, nc15, nc16, nc17, nc18, nc19, nc20, nc21, nc22, nc23, nc35, nc47, nc59, nc60, nc61, nc73, nc74, nc214, nc215, nc1115, nc2230, nc3345, if_true, if_false, Int.reduceToNat, l6, k6]
  have q72_7 := q72_6.sm s7
  have q73_7 := q73_6.sm s7
  have q74_7 := q74_6.sm s7
  have q75_7 := q75_6.sm s7
  have u7 : Uc 72 h h7 := u6.tr (fun a _ k => s7 a k)
  clear hh7 l6 k6 s7 b6 st6 u6 q72_6 q73_6 q74_6 q75_6 h6
  have q76_7 := b7.cl (X := 76) (by omega)
  replace b7 := b7.up (show 76 ≤ 77 by omega)
  obtain ⟨h8, hh8⟩ : ∃ x, x = pR h7 72 4 76 := ⟨_, rfl⟩
  have b8 := b7.pR (a := 72) (k := 4) (v := 76) (by omega)
  rw [← hh8] at b8
  have k7 : sK h7 72 = 11 := (b7.k 72).trans rfl
  have st8 : cal (d + 4) m_Mod_init [.inr (.inr 72)] h = EX (d + 3) m_Mod_init 38 [(0, .inr (.inr 72))] [] h8 := by
    rw [st7, hh8]
    simp (disch := omega) only [Mod_init_35, wr_id, ix_id, okx, if_pos, if_neg, Int.toNat_of_nonneg, bak_v, bak_n, wr_b01, wr_bt, b01_or, b01_0, b01_1, lc_lt0, lc_gt0, lc_eq0, wl_wr, wr_wr, wl_id, true_and, and_true, true_or, or_true, not_true_eq_false, not_false_eq_true, nc0, nc1, nc2, nc3, nc4, nc5, nc6, nc7, nc8, nc9, nc10, nc11, nc12, nc13, nc14, nc15, nc16, nc17, nc18, nc19, nc20, nc21, nc22, nc23, nc35, nc47, nc59, nc60, nc61, nc73, nc74, nc214, nc215, nc1115, nc2230, nc3345, if_true, if_false, Int.reduceToNat, k7]
  have q72_8 := q72_7.r (j := 4) (v := 76)
  rw [← hh8] at q72_8
  have q73_8 := q73_7.ro (Y := 72) (j := 4) (v := 76) (by omega)
  rw [← hh8] at q73_8
  have q74_8 := q74_7.ro (Y := 72) (j := 4) (v := 76) (by omega)
  rw [← hh8] at q74_8
  have q75_8 := q75_7.ro (Y := 72) (j := 4) (v := 76) (by omega)
  rw [← hh8] at q75_8
  have q76_8 := q76_7.ro (Y := 72) (j := 4) (v := 76) (by omega)
  rw [← hh8] at q76_8
  have u8 : Uc 72 h h8 := u7.tr (by rw [hh8]; exact fun a ha k => ⟨rfl, rfl, by rw [hR_pR, if_neg (by omega)]⟩)
  clear hh8 k7 b7 st7 u7 q72_7 q73_7 q74_7 q75_7 q76_7 h7
  obtain ⟨h9, hh9⟩ : ∃ x, x = pI h8 72 14 (-1) := ⟨_, rfl⟩
  have b9 := b8.pI (a := 72) (k := 14) (v := -1) (by omega)
  rw [← hh9] at b9
  have k8 : sK h8 72 = 11 := (b8.k 72).trans rfl
  have x8 : sK h8 72 = 11 := (b8.k 72).trans rfl
  have y8 : sN h8 72 = 36 := (b8.n 72).trans rfl
  have st9 : cal (d + 4) m_Mod_init [.inr (.inr 72)] h = EX (d + 3) m_Mod_init 43 [(0, .inr (.inr 72))] [] h9 := by
    rw [st8, hh9]
    simp (disch := omega) only [Mod_init_38, wr_id, ix_id, okx, if_pos, if_neg, Int.toNat_of_nonneg, bak_v, bak_n, wr_b01, wr_bt, b01_or, b01_0, b01_1, lc_lt0, lc_gt0, lc_eq0, wl_wr, wr_wr, wl_id, true_and, and_true, true_or, or_true, not_true_eq_false, not_false_eq_true, nc0, nc1, nc2, nc3, nc4, nc5, nc6, nc7, nc8, nc9, nc10, nc11, nc12, nc13, nc14, nc15, nc16, nc17, nc18, nc19, nc20, nc21, nc22, nc23, nc35, nc47, nc59, nc60, nc61, nc73, nc74, nc214, nc215, nc1115, nc2230, nc3345, if_true, if_false, Int.reduceToNat, k8, x8, y8, Int.reduceToNat]
  have q72_9 := q72_8.i (j := 14) (v := -1)
  rw [← hh9] at q72_9
  have q73_9 := q73_8.io (Y := 72) (j := 14) (v := -1) (by omega)
  rw [← hh9] at q73_9
  have q74_9 := q74_8.io (Y := 72) (j := 14) (v := -1) (by omega)
  rw [← hh9] at q74_9
  have q75_9 := q75_8.io (Y := 72) (j := 14) (v := -1) (by omega)
  rw [← hh9] at q75_9
  have q76_9 := q76_8.io (Y := 72) (j := 14) (v := -1) (by omega)
  rw [← hh9] at q76_9
  have u9 : Uc 72 h h9 := u8.tr (by rw [hh9]; exact fun a ha k => ⟨by rw [hI_pI, if_neg (by omega)], rfl, rfl⟩)
  clear hh9 k8 x8 y8 b8 st8 u8 q72_8 q73_8 q74_8 q75_8 q76_8 h8
  obtain ⟨h10, hh10⟩ : ∃ x, x = nwH h9 20 900 := ⟨_, rfl⟩
  have l9 := b9.l (by omega)
  have k9 : sK h9 72 = 11 := (b9.k 72).trans rfl
  obtain ⟨b10, s10⟩ := b9.nw (kd := 20) (m := 900) (by omega) (by omega) rfl
  rw [← hh10] at b10 s10
  have st10 : cal (d + 4) m_Mod_init [.inr (.inr 72)] h = EX (d + 3) m_Mod_init 49 [(0, .inr (.inr 72))] [.inr (.inr 77), .inr (.inr 72)] h10 := by
    rw [st9, hh10]
    simp (disch := omega) only [Mod_init_43, wr_id, ix_id, okx, if_pos, if_neg, Int.toNat_of_nonneg, bak_v, bak_n, wr_b01, wr_bt, b01_or, b01_0, b01_1, lc_lt0, lc_gt0, lc_eq0, wl_wr, wr_wr, wl_id, true_and, and_true, true_or, or_true, not_true_eq_false, not_false_eq_true, nc0, nc1, nc2, nc3, nc4, nc5, nc6, nc7, nc8, nc9, nc10, nc11, nc12, nc13, nc14, nc15, nc16, nc17, nc18, nc19, nc20, nc21, nc22, nc23, nc35, nc47, nc59, nc60, nc61, nc73, nc74, nc214, nc215, nc1115, nc2230, nc3345, if_true, if_false, Int.reduceToNat, l9, k9]
  have q72_10 := q72_9.sm s10
  have q73_10 := q73_9.sm s10
  have q74_10 := q74_9.sm s10
  have q75_10 := q75_9.sm s10
  have q76_10 := q76_9.sm s10
  have u10 : Uc 72 h h10 := u9.tr (fun a _ k => s10 a k)
  clear hh10 l9 k9 s10 b9 st9 u9 q72_9 q73_9 q74_9 q75_9 q76_9 h9
  have q77_10 := b10.cl (X := 77) (by omega)
  replace b10 := b10.up (show 77 ≤ 78 by omega)
  obtain ⟨h11, hh11⟩ : ∃ x, x = pR h10 72 15 77 := ⟨_, rfl⟩
  have b11 := b10.pR (a := 72) (k := 15) (v := 77) (by omega)
  rw [← hh11] at b11
  have k10 : sK h10 72 = 11 := (b10.k 72).trans rfl
  have st11 : cal (d + 4) m_Mod_init [.inr (.inr 72)] h = EX (d + 3) m_Mod_init 52 [(0, .inr (.inr 72))] [] h11 := by
    rw [st10, hh11]
    simp (disch := omega) only [Mod_init_49, wr_id, ix_id, okx, if_pos, if_neg, Int.toNat_of_nonneg, bak_v, bak_n, wr_b01, wr_bt, b01_or, b01_0, b01_1, lc_lt0, lc_gt0, lc_eq0, wl_wr, wr_wr, wl_id, true_and, and_true, true_or, or_true, not_true_eq_false, not_false_eq_true, nc0, nc1, nc2, nc3, nc4, nc5, nc6, nc7, nc8, nc9, nc10, nc11, nc12, nc13, nc14, nc15, nc16, nc17, nc18, nc19, nc20, nc21, nc22, nc23, nc35, nc47, nc59, nc60, nc61, nc73, nc74, nc214, nc215, nc1115, nc2230, nc3345, if_true, if_false, Int.reduceToNat, k10]
  have q72_11 := q72_10.r (j := 15) (v := 77)
  rw [← hh11] at q72_11
  have q73_11 := q73_10.ro (Y := 72) (j := 15) (v := 77) (by omega)
  rw [← hh11] at q73_11
  have q74_11 := q74_10.ro (Y := 72) (j := 15) (v := 77) (by omega)
  rw [← hh11] at q74_11
  have q75_11 := q75_10.ro (Y := 72) (j := 15) (v := 77) (by omega)
  rw [← hh11] at q75_11
  have q76_11 := q76_10.ro (Y := 72) (j := 15) (v := 77) (by omega)
  rw [← hh11] at q76_11
  have q77_11 := q77_10.ro (Y := 72) (j := 15) (v := 77) (by omega)
  rw [← hh11] at q77_11
  have u11 : Uc 72 h h11 := u10.tr (by rw [hh11]; exact fun a ha k => ⟨rfl, rfl, by rw [hR_pR, if_neg (by omega)]⟩)
  clear hh11 k10 b10 st10 u10 q72_10 q73_10 q74_10 q75_10 q76_10 q77_10 h10
  obtain ⟨h12, hh12⟩ : ∃ x, x = nwH h11 20 14 := ⟨_, rfl⟩
  have l11 := b11.l (by omega)
  have k11 : sK h11 72 = 11 := (b11.k 72).trans rfl
  obtain ⟨b12, s12⟩ := b11.nw (kd := 20) (m := 14) (by omega) (by omega) rfl
  rw [← hh12] at b12 s12
  have st12 : cal (d + 4) m_Mod_init [.inr (.inr 72)] h = EX (d + 3) m_Mod_init 57 [(0, .inr (.inr 72))] [.inr (.inr 78), .inr (.inr 72)] h12 := by
    rw [st11, hh12]
    simp (disch := omega) only [Mod_init_52, wr_id, ix_id, okx, if_pos, if_neg, Int.toNat_of_nonneg, bak_v, bak_n, wr_b01, wr_bt, b01_or, b01_0, b01_1, lc_lt0, lc_gt0, lc_eq0, wl_wr, wr_wr, wl_id, true_and, and_true, true_or, or_true, not_true_eq_false, not_false_eq_true, nc0, nc1, nc2, nc3, nc4, nc5, nc6, nc7, nc8, nc9, nc10, nc11, nc12, nc13, nc14, nc15, nc16, nc17, nc18, nc19, nc20, nc21, nc22, nc23, nc35, nc47, nc59, nc60, nc61, nc73, nc74, nc214, nc215, nc1115, nc2230, nc3345, if_true, if_false, Int.reduceToNat, l11, k11]
  have q72_12 := q72_11.sm s12
  have q73_12 := q73_11.sm s12
  have q74_12 := q74_11.sm s12
  have q75_12 := q75_11.sm s12
  have q76_12 := q76_11.sm s12
  have q77_12 := q77_11.sm s12
  have u12 : Uc 72 h h12 := u11.tr (fun a _ k => s12 a k)
  clear hh12 l11 k11 s12 b11 st11 u11 q72_11 q73_11 q74_11 q75_11 q76_11 q77_11 h11
  have q78_12 := b12.cl (X := 78) (by omega)
  replace b12 := b12.up (show 78 ≤ 79 by omega)
  obtain ⟨h13, hh13⟩ : ∃ x, x = pR h12 72 16 78 := ⟨_, rfl⟩
  have b13 := b12.pR (a := 72) (k := 16) (v := 78) (by omega)
  rw [← hh13] at b13
  have k12 : sK h12 72 = 11 := (b12.k 72).trans rfl
  have st13 : cal (d + 4) m_Mod_init [.inr (.inr 72)] h = EX (d + 3) m_Mod_init 60 [(0, .inr (.inr 72))] [] h13 := by
    rw [st12, hh13]
    simp (disch := omega) only [Mod_init_57, wr_id, ix_id, okx, if_pos, if_neg, Int.toNat_of_nonneg, bak_v, bak_n, wr_b01, wr_bt, b01_or, b01_0, b01_1, lc_lt0, lc_gt0, lc_eq0, wl_wr, wr_wr, wl_id, true_and, and_true, true_or, or_true, not_true_eq_false, not_false_eq_true, nc0, nc1, nc2, nc3, nc4, nc5, nc6, nc7, nc8, nc9, nc10, nc11, nc12, nc13, nc14, nc15, nc16, nc17, nc18, nc19, nc20, nc21, nc22, nc23, nc35, nc47, nc59, nc60, nc61, nc73, nc74, nc214, nc215, nc1115, nc2230, nc3345, if_true, if_false, Int.reduceToNat, k12]
  have q72_13 := q72_12.r (j := 16) (v := 78)
  rw [← hh13] at q72_13
  have q73_13 := q73_12.ro (Y := 72) (j := 16) (v := 78) (by omega)
  rw [← hh13] at q73_13
  have q74_13 := q74_12.ro (Y := 72) (j := 16) (v := 78) (by omega)
  rw [← hh13] at q74_13
  have q75_13 := q75_12.ro (Y := 72) (j := 16) (v := 78) (by omega)
  rw [← hh13] at q75_13
  have q76_13 := q76_12.ro (Y := 72) (j := 16) (v := 78) (by omega)
  rw [← hh13] at q76_13
  have q77_13 := q77_12.ro (Y := 72) (j := 16) (v := 78) (by omega)
  rw [← hh13] at q77_13
  have q78_13 := q78_12.ro (Y := 72) (j := 16) (v := 78) (by omega)
  rw [← hh13] at q78_13
  have u13 : Uc 72 h h13 := u12.tr (by rw [hh13]; exact fun a ha k => ⟨rfl, rfl, by rw [hR_pR, if_neg (by omega)]⟩)
  clear hh13 k12 b12 st12 u12 q72_12 q73_12 q74_12 q75_12 q76_12 q77_12 q78_12 h12
  obtain ⟨h14, hh14⟩ : ∃ x, x = nwH h13 21 2197 := ⟨_, rfl⟩
  have l13 := b13.l (by omega)
  have k13 : sK h13 72 = 11 := (b13.k 72).trans rfl
  obtain ⟨b14, s14⟩ := b13.nw (kd := 21) (m := 2197) (by omega) (by omega) rfl
  rw [← hh14] at b14 s14
  have st14 : cal (d + 4) m_Mod_init [.inr (.inr 72)] h = EX (d + 3) m_Mod_init 66 [(0, .inr (.inr 72))] [.inr (.inr 79), .inr (.inr 72)] h14 := by
    rw [st13, hh14]
    simp (disch := omega) only [Mod_init_60, wr_id, ix_id, okx, if_pos, if_neg, Int.toNat_of_nonneg, bak_v, bak_n, wr_b01, wr_bt, b01_or, b01_0, b01_1, lc_lt0, lc_gt0, lc_eq0, wl_wr, wr_wr, wl_id, true_and, and_true, true_or, or_true, not_true_eq_false, not_false_eq_true, nc0, nc1, nc2, nc3, nc4, nc5, nc6, nc7, nc8, nc9, nc10, nc11, nc12, nc13, nc14, nc15, nc16, nc17, nc18, nc19, nc20, nc21, nc22, nc23, nc35, nc47, nc59, nc60, nc61, nc73, nc74, nc214, nc215, nc1115, nc2230, nc3345, if_true, if_false, Int.reduceToNat, l13, k13]
  have q72_14 := q72_13.sm s14
  have q73_14 := q73_13.sm s14
  have q74_14 := q74_13.sm s14
  have q75_14 := q75_13.sm s14
  have q76_14 := q76_13.sm s14
  have q77_14 := q77_13.sm s14
  have q78_14 := q78_13.sm s14
  have u14 : Uc 72 h h14 := u13.tr (fun a _ k => s14 a k)
  clear hh14 l13 k13 s14 b13 st13 u13 q72_13 q73_13 q74_13 q75_13 q76_13 q77_13 q78_13 h13
  have q79_14 := b14.cl (X := 79) (by omega)
  replace b14 := b14.up (show 79 ≤ 80 by omega)
  obtain ⟨h15, hh15⟩ : ∃ x, x = pR h14 72 19 79 := ⟨_, rfl⟩
  have b15 := b14.pR (a := 72) (k := 19) (v := 79) (by omega)
  rw [← hh15] at b15
  have k14 : sK h14 72 = 11 := (b14.k 72).trans rfl
  have st15 : cal (d + 4) m_Mod_init [.inr (.inr 72)] h = EX (d + 3) m_Mod_init 69 [(0, .inr (.inr 72))] [] h15 := by
    rw [st14, hh15]
    simp (disch := omega) only [Mod_init_66, wr_id, ix_id, okx, if_pos, if_neg, Int.toNat_of_nonneg, bak_v, bak_n, wr_b01, wr_bt, b01_or, b01_0, b01_1, lc_lt0, lc_gt0, lc_eq0, wl_wr, wr_wr, wl_id, true_and, and_true, true_or, or_true, not_true_eq_false, not_false_eq_true, nc0, nc1, nc2, nc3, nc4, nc5, nc6, nc7, nc8, nc9, nc10, nc11, nc12, nc13, nc14, nc15, nc16, nc17, nc18, nc19, nc20, nc21, nc22, nc23, nc35, nc47, nc59, nc60, nc61, nc73, nc74, nc214, nc215, nc1115, nc2230, nc3345, if_true, if_false, Int.reduceToNat, k14]
  have q72_15 := q72_14.r (j := 19) (v := 79)
  rw [← hh15] at q72_15
  have q73_15 := q73_14.ro (Y := 72) (j := 19) (v := 79) (by omega)
  rw [← hh15] at q73_15
  have q74_15 := q74_14.ro (Y := 72) (j := 19) (v := 79) (by omega)
  rw [← hh15] at q74_15
  have q75_15 := q75_14.ro (Y := 72) (j := 19) (v := 79) (by omega)
  rw [← hh15] at q75_15
  have q76_15 := q76_14.ro (Y := 72) (j := 19) (v := 79) (by omega)
  rw [← hh15] at q76_15
  have q77_15 := q77_14.ro (Y := 72) (j := 19) (v := 79) (by omega)
  rw [← hh15] at q77_15
  have q78_15 := q78_14.ro (Y := 72) (j := 19) (v := 79) (by omega)
  rw [← hh15] at q78_15
  have q79_15 := q79_14.ro (Y := 72) (j := 19) (v := 79) (by omega)
  rw [← hh15] at q79_15
  have u15 : Uc 72 h h15 := u14.tr (by rw [hh15]; exact fun a ha k => ⟨rfl, rfl, by rw [hR_pR, if_neg (by omega)]⟩)
  clear hh15 k14 b14 st14 u14 q72_14 q73_14 q74_14 q75_14 q76_14 q77_14 q78_14 q79_14 h14
  obtain ⟨h16, hh16⟩ : ∃ x, x = nwH h15 20 12 := ⟨_, rfl⟩
  have l15 := b15.l (by omega)
  have k15 : sK h15 72 = 11 := (b15.k 72).trans rfl
  obtain ⟨b16, s16⟩ := b15.nw (kd := 20) (m := 12) (by omega) (by omega) rfl
  rw [← hh16] at b16 s16
  have st16 : cal (d + 4) m_Mod_init [.inr (.inr 72)] h = EX (d + 3) m_Mod_init 74 [(0, .inr (.inr 72))] [.inr (.inr 80), .inr (.inr 72)] h16 := by
    rw [st15, hh16]
    simp (disch := omega) only [Mod_init_69, wr_id, ix_id, okx, if_pos, if_neg, Int.toNat_of_nonneg, bak_v, bak_n, wr_b01, wr_bt, b01_or, b01_0, b01_1, lc_lt0, lc_gt0, lc_eq0, wl_wr, wr_wr, wl_id, true_and, and_true, true_or, or_true, not_true_eq_false, not_false_eq_true, nc0, nc1, nc2, nc3, nc4, nc5, nc6, nc7, nc8, nc9, nc10, nc11, nc12, nc13, nc14, nc15, nc16, nc17, nc18, nc19, nc20, nc21, nc22, nc23, nc35, nc47, nc59, nc60, nc61, nc73, nc74, nc214, nc215, nc1115, nc2230, nc3345, if_true, if_false, Int.reduceToNat, l15, k15]
  have q72_16 := q72_15.sm s16
  have q73_16 := q73_15.sm s16
  have q74_16 := q74_15.sm s16
  have q75_16 := q75_15.sm s16
  have q76_16 := q76_15.sm s16
  have q77_16 := q77_15.sm s16
  have q78_16 := q78_15.sm s16
  have q79_16 := q79_15.sm s16
  have u16 : Uc 72 h h16 := u15.tr (fun a _ k => s16 a k)
  clear hh16 l15 k15 s16 b15 st15 u15 q72_15 q73_15 q74_15 q75_15 q76_15 q77_15 q78_15 q79_15 h15
  have q80_16 := b16.cl (X := 80) (by omega)
  replace b16 := b16.up (show 80 ≤ 81 by omega)
  obtain ⟨h17, hh17⟩ : ∃ x, x = pR h16 72 23 80 := ⟨_, rfl⟩
  have b17 := b16.pR (a := 72) (k := 23) (v := 80) (by omega)
  rw [← hh17] at b17
  have k16 : sK h16 72 = 11 := (b16.k 72).trans rfl
  have st17 : cal (d + 4) m_Mod_init [.inr (.inr 72)] h = EX (d + 3) m_Mod_init 77 [(0, .inr (.inr 72))] [] h17 := by
    rw [st16, hh17]
    simp (disch := omega) only [Mod_init_74, wr_id, ix_id, okx, if_pos, if_neg, Int.toNat_of_nonneg, bak_v, bak_n, wr_b01, wr_bt, b01_or, b01_0, b01_1, lc_lt0, lc_gt0, lc_eq0, wl_wr, wr_wr, wl_id, true_and, and_true, true_or, or_true, not_true_eq_false, not_false_eq_true, nc0, nc1, nc2, nc3, nc4, nc5, nc6, nc7, nc8, nc9, nc10, nc11, nc12, nc13, nc14, nc15, nc16, nc17, nc18, nc19, nc20, nc21, nc22, nc23, nc35, nc47, nc59, nc60, nc61, nc73, nc74, nc214, nc215, nc1115, nc2230, nc3345, if_true, if_false, Int.reduceToNat, k16]
  have q72_17 := q72_16.r (j := 23) (v := 80)
  rw [← hh17] at q72_17
  have q73_17 := q73_16.ro (Y := 72) (j := 23) (v := 80) (by omega)
  rw [← hh17] at q73_17
  have q74_17 := q74_16.ro (Y := 72) (j := 23) (v := 80) (by omega)
  rw [← hh17] at q74_17
  have q75_17 := q75_16.ro (Y := 72) (j := 23) (v := 80) (by omega)
  rw [← hh17] at q75_17
  have q76_17 := q76_16.ro (Y := 72) (j := 23) (v := 80) (by omega)
  rw [← hh17] at q76_17
  have q77_17 := q77_16.ro (Y := 72) (j := 23) (v := 80) (by omega)
  rw [← hh17] at q77_17
  have q78_17 := q78_16.ro (Y := 72) (j := 23) (v := 80) (by omega)
  rw [← hh17] at q78_17
  have q79_17 := q79_16.ro (Y := 72) (j := 23) (v := 80) (by omega)
  rw [← hh17] at q79_17
  have q80_17 := q80_16.ro (Y := 72) (j := 23) (v := 80) (by omega)
  rw [← hh17] at q80_17
  have u17 : Uc 72 h h17 := u16.tr (by rw [hh17]; exact fun a ha k => ⟨rfl, rfl, by rw [hR_pR, if_neg (by omega)]⟩)
  clear hh17 k16 b16 st16 u16 q72_16 q73_16 q74_16 q75_16 q76_16 q77_16 q78_16 q79_16 q80_16 h16
  obtain ⟨h18, hh18⟩ : ∃ x, x = nwH h17 20 169 := ⟨_, rfl⟩
  have l17 := b17.l (by omega)
  have k17 : sK h17 72 = 11 := (b17.k 72).trans rfl
  obtain ⟨b18, s18⟩ := b17.nw (kd := 20) (m := 169) (by omega) (by omega) rfl
  rw [← hh18] at b18 s18
  have st18 : cal (d + 4) m_Mod_init [.inr (.inr 72)] h = EX (d + 3) m_Mod_init 83 [(0, .inr (.inr 72))] [.inr (.inr 81), .inr (.inr 72)] h18 := by
    rw [st17, hh18]
    simp (disch := omega) only [Mod_init_77, wr_id, ix_id, okx, if_pos, if_neg, Int.toNat_of_nonneg, bak_v, bak_n, wr_b01, wr_bt, b01_or, b01_0, b01_1, lc_lt0, lc_gt0, lc_eq0, wl_wr, wr_wr, wl_id, true_and, and_true, true_or, or_true, not_true_eq_false, not_false_eq_true, nc0, nc1, nc2, nc3, nc4, nc5, nc6, nc7, nc8, nc9, nc10, nc11, nc12, nc13, nc14, nc15, nc16, nc17, nc18, nc19, nc20, nc21, nc22, nc23, nc35, nc47, nc59, nc60, nc61, nc73, nc74, nc214, nc215, nc1115, nc2230, nc3345, if_true, if_false, Int.reduceToNat, l17, k17]
  have q72_18 := q72_17.sm s18
  have q73_18 := q73_17.sm s18
  have q74_18 := q74_17.sm s18
  have q75_18 := q75_17.sm s18
  have q76_18 := q76_17.sm s18
  have q77_18 := q77_17.sm s18
  have q78_18 := q78_17.sm s18
  have q79_18 := q79_17.sm s18
  have q80_18 := q80_17.sm s18
  have u18 : Uc 72 h h18 := u17.tr (fun a _ k => s18 a k)
  clear hh18 l17 k17 s18 b17 st17 u17 q72_17 q73_17 q74_17 q75_17 q76_17 q77_17 q78_17 q79_17 q80_17 h17
  have q81_18 := b18.cl (X := 81) (by omega)
  replace b18 := b18.up (show 81 ≤ 82 by omega)
  obtain ⟨h19, hh19⟩ : ∃ x, x = pR h18 72 24 81 := ⟨_, rfl⟩
  have b19 := b18.pR (a := 72) (k := 24) (v := 81) (by omega)
  rw [← hh19] at b19
  have k18 : sK h18 72 = 11 := (b18.k 72).trans rfl
  have st19 : cal (d + 4) m_Mod_init [.inr (.inr 72)] h = EX (d + 3) m_Mod_init 86 [(0, .inr (.inr 72))] [] h19 := by
    rw [st18, hh19]
    simp (disch := omega) only [Mod_init_83, wr_id, ix_id, okx, if_pos, if_neg, Int.toNat_of_nonneg, bak_v, bak_n, wr_b01, wr_bt, b01_or, b01_0, b01_1, lc_lt0, lc_gt0, lc_eq0, wl_wr, wr_wr, wl_id, true_and, and_true, true_or, or_true, not_true_eq_false, not_false_eq_true, nc0, nc1, nc2, nc3, nc4, nc5, nc6, nc7, nc8, nc9, nc10, nc11, nc12, nc13, nc14, nc15, nc16, nc17, nc18, nc19, nc20, nc21, nc22, nc23, nc35, nc47, nc59, nc60, nc61, nc73, nc74, nc214, nc215, nc1115, nc2230, nc3345, if_true, if_false, Int.reduceToNat, k18]
  have q72_19 := q72_18.r (j := 24) (v := 81)
  rw [← hh19] at q72_19
  have q73_19 := q73_18.ro (Y := 72) (j := 24) (v := 81) (by omega)
  rw [← hh19] at q73_19
  have q74_19 := q74_18.ro (Y := 72) (j := 24) (v := 81) (by omega)
  rw [← hh19] at q74_19
  have q75_19 := q75_18.ro (Y := 72) (j := 24) (v := 81) (by omega)
  rw [← hh19] at q75_19
  have q76_19 := q76_18.ro (Y := 72) (j := 24) (v := 81) (by omega)
  rw [← hh19] at q76_19
  have q77_19 := q77_18.ro (Y := 72) (j := 24) (v := 81) (by omega)
  rw [← hh19] at q77_19
  have q78_19 := q78_18.ro (Y := 72) (j := 24) (v := 81) (by omega)
  rw [← hh19] at q78_19
  have q79_19 := q79_18.ro (Y := 72) (j := 24) (v := 81) (by omega)
  rw [← hh19] at q79_19
  have q80_19 := q80_18.ro (Y := 72) (j := 24) (v := 81) (by omega)
  rw [← hh19] at q80_19
  have q81_19 := q81_18.ro (Y := 72) (j := 24) (v := 81) (by omega)
  rw [← hh19] at q81_19
  have u19 : Uc 72 h h19 := u18.tr (by rw [hh19]; exact fun a ha k => ⟨rfl, rfl, by rw [hR_pR, if_neg (by omega)]⟩)
  clear hh19 k18 b18 st18 u18 q72_18 q73_18 q74_18 q75_18 q76_18 q77_18 q78_18 q79_18 q80_18 q81_18 h18
  obtain ⟨h20, hh20⟩ : ∃ x, x = nwH h19 20 2197 := ⟨_, rfl⟩
  have l19 := b19.l (by omega)
  have k19 : sK h19 72 = 11 := (b19.k 72).trans rfl
  obtain ⟨b20, s20⟩ := b19.nw (kd := 20) (m := 2197) (by omega) (by omega) rfl
  rw [← hh20] at b20 s20
  have st20 : cal (d + 4) m_Mod_init [.inr (.inr 72)] h = EX (d + 3) m_Mod_init 92 [(0, .inr (.inr 72))] [.inr (.inr 82), .inr (.inr 72)] h20 := by
    rw [st19, hh20]
    simp (disch := omega) only [Mod_init_86, wr_id, ix_id, okx, if_pos, if_neg, Int.toNat_of_nonneg, bak_v, bak_n, wr_b01, wr_bt, b01_or, b01_0, b01_1, lc_lt0, lc_gt0, lc_eq0, wl_wr, wr_wr, wl_id, true_and, and_true, true_or, or_true, not_true_eq_false, not_false_eq_true, nc0, nc1, nc2, nc3, nc4, nc5, nc6, nc7, nc8, nc9, nc10, nc11, nc12, nc13, nc14, nc15, nc16, nc17, nc18, nc19, nc20, nc21, nc22, nc23, nc35, nc47, nc59, nc60, nc61, nc73, nc74, nc214, nc215, nc1115, nc2230, nc3345, if_true, if_false, Int.reduceToNat, l19, k19]
  have q72_20 := q72_19.sm s20
  have q73_20 := q73_19.sm s20
  have q74_20 := q74_19.sm s20
  have q75_20 := q75_19.sm s20
  have q76_20 := q76_19.sm s20
  have q77_20 := q77_19.sm s20
  have q78_20 := q78_19.sm s20
  have q79_20 := q79_19.sm s20
  have q80_20 := q80_19.sm s20
  have q81_20 := q81_19.sm s20
  have u20 : Uc 72 h h20 := u19.tr (fun a _ k => s20 a k)
  clear hh20 l19 k19 s20 b19 st19 u19 q72_19 q73_19 q74_19 q75_19 q76_19 q77_19 q78_19 q79_19 q80_19 q81_19 h19
  have q82_20 := b20.cl (X := 82) (by omega)
  replace b20 := b20.up (show 82 ≤ 83 by omega)
  obtain ⟨h21, hh21⟩ : ∃ x, x = pR h20 72 25 82 := ⟨_, rfl⟩
  have b21 := b20.pR (a := 72) (k := 25) (v := 82) (by omega)
  rw [← hh21] at b21
  have k20 : sK h20 72 = 11 := (b20.k 72).trans rfl
  have st21 : cal (d + 4) m_Mod_init [.inr (.inr 72)] h = EX (d + 3) m_Mod_init 95 [(0, .inr (.inr 72))] [] h21 := by
    rw [st20, hh21]
    simp (disch := omega) only [Mod_init_92, wr_id, ix_id, okx, if_pos, if_neg, Int.toNat_of_nonneg, bak_v, bak_n, wr_b01, wr_bt, b01_or, b01_0, b01_1, lc_lt0, lc_gt0, lc_eq0, wl_wr, wr_wr, wl_id, true_and, and_true, true_or, or_true, not_true_eq_false, not_false_eq_true, nc0, nc1, nc2, nc3, nc4, nc5, nc6, nc7, nc8, nc9, nc10, nc11, nc12, nc13, nc14, nc15, nc16, nc17, nc18, nc19, nc20, nc21, nc22, nc23, nc35, nc47, nc59, nc60, nc61, nc73, nc74, nc214, nc215, nc1115, nc2230, nc3345, if_true, if_false, Int.reduceToNat, k20]
  have q72_21 := q72_20.r (j := 25) (v := 82)
  rw [← hh21] at q72_21
  have q73_21 := q73_20.ro (Y := 72) (j := 25) (v := 82) (by omega)
  rw [← hh21] at q73_21
  have q74_21 := q74_20.ro (Y := 72) (j := 25) (v := 82) (by omega)
  rw [← hh21] at q74_21
  have q75_21 := q75_20.ro (Y := 72) (j := 25) (v := 82) (by omega)
  rw [← hh21] at q75_21
  have q76_21 := q76_20.ro (Y := 72) (j := 25) (v := 82) (by omega)
  rw [← hh21] at q76_21
  have q77_21 := q77_20.ro (Y := 72) (j := 25) (v := 82) (by omega)
  rw [← hh21] at q77_21
  have q78_21 := q78_20.ro (Y := 72) (j := 25) (v := 82) (by omega)
  rw [← hh21] at q78_21
  have q79_21 := q79_20.ro (Y := 72) (j := 25) (v := 82) (by omega)
  rw [← hh21] at q79_21
  have q80_21 := q80_20.ro (Y := 72) (j := 25) (v := 82) (by omega)
  rw [← hh21] at q80_21
  have q81_21 := q81_20.ro (Y := 72) (j := 25) (v := 82) (by omega)
  rw [← hh21] at q81_21
  have q82_21 := q82_20.ro (Y := 72) (j := 25) (v := 82) (by omega)
  rw [← hh21] at q82_21
  have u21 : Uc 72 h h21 := u20.tr (by rw [hh21]; exact fun a ha k => ⟨rfl, rfl, by rw [hR_pR, if_neg (by omega)]⟩)
  clear hh21 k20 b20 st20 u20 q72_20 q73_20 q74_20 q75_20 q76_20 q77_20 q78_20 q79_20 q80_20 q81_20 q82_20 h20
  obtain ⟨h22, hh22⟩ : ∃ x, x = nwH h21 20 2197 := ⟨_, rfl⟩
  have l21 := b21.l (by omega)
  have k21 : sK h21 72 = 11 := (b21.k 72).trans rfl
  obtain ⟨b22, s22⟩ := b21.nw (kd := 20) (m := 2197) (by omega) (by omega) rfl
  rw [← hh22] at b22 s22
  have st22 : cal (d + 4) m_Mod_init [.inr (.inr 72)] h = EX (d + 3) m_Mod_init 101 [(0, .inr (.inr 72))] [.inr (.inr 83), .inr (.inr 72)] h22 := by
    rw [st21, hh22]
    simp (disch := omega) only [Mod_init_95, wr_id, ix_id, okx, if_pos, if_neg, Int.toNat_of_nonneg, bak_v, bak_n, wr_b01, wr_bt, b01_or, b01_0, b01_1, lc_lt0, lc_gt0, lc_eq0, wl_wr, wr_wr, wl_id, true_and, and_true, true_or, or_true, not_true_eq_false, not_false_eq_true, nc0, nc1, nc2, nc3, nc4, nc5, nc6, nc7, nc8, nc9, nc10, nc11, nc12, nc13, nc14, nc15, nc16, nc17, nc18, nc19, nc20, nc21, nc22, nc23, nc35, nc47, nc59, nc60, nc61, nc73, nc74, nc214, nc215, nc1115, nc2230, nc3345, if_true, if_false, Int.reduceToNat, l21, k21]
  have q72_22 := q72_21.sm s22
  have q73_22 := q73_21.sm s22
  have q74_22 := q74_21.sm s22
  have q75_22 := q75_21.sm s22
  have q76_22 := q76_21.sm s22
  have q77_22 := q77_21.sm s22
  have q78_22 := q78_21.sm s22
  have q79_22 := q79_21.sm s22
  have q80_22 := q80_21.sm s22
  have q81_22 := q81_21.sm s22
  have q82_22 := q82_21.sm s22
  have u22 : Uc 72 h h22 := u21.tr (fun a _ k => s22 a k)
  clear hh22 l21 k21 s22 b21 st21 u21 q72_21 q73_21 q74_21 q75_21 q76_21 q77_21 q78_21 q79_21 q80_21 q81_21 q82_21 h21
  have q83_22 := b22.cl (X := 83) (by omega)
  replace b22 := b22.up (show 83 ≤ 84 by omega)
  obtain ⟨h23, hh23⟩ : ∃ x, x = pR h22 72 26 83 := ⟨_, rfl⟩
  have b23 := b22.pR (a := 72) (k := 26) (v := 83) (by omega)
  rw [← hh23] at b23
  have k22 : sK h22 72 = 11 := (b22.k 72).trans rfl
  have st23 : cal (d + 4) m_Mod_init [.inr (.inr 72)] h = EX (d + 3) m_Mod_init 104 [(0, .inr (.inr 72))] [] h23 := by
    rw [st22, hh23]
    simp (disch := omega) only [Mod_init_101, wr_id, ix_id, okx, if_pos, if_neg, Int.toNat_of_nonneg, bak_v, bak_n, wr_b01, wr_bt, b01_or, b01_0, b01_1, lc_lt0, lc_gt0, lc_eq0, wl_wr, wr_wr, wl_id, true_and, and_true, true_or, or_true, not_true_eq_false, not_false_eq_true, nc0, nc1, nc2, nc3, nc4, nc5, nc6, nc7, nc8, nc9, nc10, nc11, nc12, nc13, nc14, nc15, nc16, nc17, nc18, nc19, nc20, nc21, nc22, nc23, nc35, nc47, nc59, nc60, nc61, nc73, nc74, nc214, nc215, nc1115, nc2230, nc3345, if_true, if_false, Int.reduceToNat, k22]
  have q72_23 := q72_22.r (j := 26) (v := 83)
  rw [← hh23] at q72_23
  have q73_23 := q73_22.ro (Y := 72) (j := 26) (v := 83) (by omega)
  rw [← hh23] at q73_23
  have q74_23 := q74_22.ro (Y := 72) (j := 26) (v := 83) (by omega)
  rw [← hh23] at q74_23
  have q75_23 := q75_22.ro (Y := 72) (j := 26) (v := 83) (by omega)
  rw [← hh23] at q75_23
  have q76_23 := q76_22.ro (Y := 72) (j := 26) (v := 83) (by omega)
  rw [← hh23] at q76_23
  have q77_23 := q77_22.ro (Y := 72) (j := 26) (v := 83) (by omega)
  rw [← hh23] at q77_23
  have q78_23 := q78_22.ro (Y := 72) (j := 26) (v := 83) (by omega)
  rw [← hh23] at q78_23
  have q79_23 := q79_22.ro (Y := 72) (j := 26) (v := 83) (by omega)
  rw [← hh23] at q79_23
  have q80_23 := q80_22.ro (Y := 72) (j := 26) (v := 83) (by omega)
  rw [← hh23] at q80_23
  have q81_23 := q81_22.ro (Y := 72) (j := 26) (v := 83) (by omega)
  rw [← hh23] at q81_23
  have q82_23 := q82_22.ro (Y := 72) (j := 26) (v := 83) (by omega)
  rw [← hh23] at q82_23
  have q83_23 := q83_22.ro (Y := 72) (j := 26) (v := 83) (by omega)
  rw [← hh23] at q83_23
  have u23 : Uc 72 h h23 := u22.tr (by rw [hh23]; exact fun a ha k => ⟨rfl, rfl, by rw [hR_pR, if_neg (by omega)]⟩)
  clear hh23 k22 b22 st22 u22 q72_22 q73_22 q74_22 q75_22 q76_22 q77_22 q78_22 q79_22 q80_22 q81_22 q82_22 q83_22 h22
  obtain ⟨h24, hh24⟩ : ∃ x, x = nwH h23 20 441 := ⟨_, rfl⟩
  have l23 := b23.l (by omega)
  have k23 : sK h23 72 = 11 := (b23.k 72).trans rfl
  obtain ⟨b24, s24⟩ := b23.nw (kd := 20) (m := 441) (by omega) (by omega) rfl
  rw [← hh24] at b24 s24
  have st24 : cal (d + 4) m_Mod_init [.inr (.inr 72)] h = EX (d + 3) m_Mod_init 110 [(0, .inr (.inr 72))] [.inr (.inr 84), .inr (.inr 72)] h24 := by
    rw [st23, hh24]
    simp (disch := omega) only [Mod_init_104, wr_id, ix_id, okx, if_pos, if_neg, Int.toNat_of_nonneg, bak_v, bak_n, wr_b01, wr_bt, b01_or, b01_0, b01_1, lc_lt0, lc_gt0, lc_eq0, wl_wr, wr_wr, wl_id, true_and, and_true, true_or, or_true, not_true_eq_false, not_false_eq_true, nc0, nc1, nc2, nc3, nc4, nc5, nc6, nc7, nc8, nc9, nc10, nc11, nc12, nc13, nc14, nc15, nc16, nc17, nc18, nc19, nc20, nc21, nc22, nc23, nc35, nc47, nc59, nc60, nc61, nc73, nc74, nc214, nc215, nc1115, nc2230, nc3345, if_true, if_false, Int.reduceToNat, l23, k23]
  have q72_24 := q72_23.sm s24
  have q73_24 := q73_23.sm s24
  have q74_24 := q74_23.sm s24
  have q75_24 := q75_23.sm s24
  have q76_24 := q76_23.sm s24
  have q77_24 := q77_23.sm s24
  have q78_24 := q78_23.sm s24
  have q79_24 := q79_23.sm s24
  have q80_24 := q80_23.sm s24
  have q81_24 := q81_23.sm s24
  have q82_24 := q82_23.sm s24
  have q83_24 := q83_23.sm s24
  have u24 : Uc 72 h h24 := u23.tr (fun a _ k => s24 a k)
  clear hh24 l23 k23 s24 b23 st23 u23 q72_23 q73_23 q74_23 q75_23 q76_23 q77_23 q78_23 q79_23 q80_23 q81_23 q82_23 q83_23 h23
  have q84_24 := b24.cl (X := 84) (by omega)
  replace b24 := b24.up (show 84 ≤ 85 by omega)
  obtain ⟨h25, hh25⟩ : ∃ x, x = pR h24 72 29 84 := ⟨_, rfl⟩
  have b25 := b24.pR (a := 72) (k := 29) (v := 84) (by omega)
  rw [← hh25] at b25
  have k24 : sK h24 72 = 11 := (b24.k 72).trans rfl
  have st25 : cal (d + 4) m_Mod_init [.inr (.inr 72)] h = EX (d + 3) m_Mod_init 113 [(0, .inr (.inr 72))] [] h25 := by
    rw [st24, hh25]
    simp (disch := omega) only [Mod_init_110, wr_id, ix_id, okx, if_pos, if_neg, Int.toNat_of_nonneg, bak_v, bak_n, wr_b01, wr_bt, b01_or, b01_0, b01_1, lc_lt0, lc_gt0, lc_eq0, wl_wr, wr_wr, wl_id, true_and, and_true, true_or, or_true, not_true_eq_false, not_false_eq_true, nc0, nc1, nc2, nc3, nc4, nc5, nc6, nc7, nc8, nc9, nc10, nc11, nc12, nc13, nc14, nc15, nc16, nc17, nc18, nc19, nc20, nc21, nc22, nc23, nc35, nc47, nc59, nc60, nc61, nc73, nc74, nc214, nc215, nc1115, nc2230, nc3345, if_true, if_false, Int.reduceToNat, k24]
  have q72_25 := q72_24.r (j := 29) (v := 84)
  rw [← hh25] at q72_25
  have q73_25 := q73_24.ro (Y := 72) (j := 29) (v := 84) (by omega)
  rw [← hh25] at q73_25
  have q74_25 := q74_24.ro (Y := 72) (j := 29) (v := 84) (by omega)
  rw [← hh25] at q74_25
  have q75_25 := q75_24.ro (Y := 72) (j := 29) (v := 84) (by omega)
  rw [← hh25] at q75_25
  have q76_25 := q76_24.ro (Y := 72) (j := 29) (v := 84) (by omega)
  rw [← hh25] at q76_25
  have q77_25 := q77_24.ro (Y := 72) (j := 29) (v := 84) (by omega)
  rw [← hh25] at q77_25
  have q78_25 := q78_24.ro (Y := 72) (j := 29) (v := 84) (by omega)
  rw [← hh25] at q78_25
  have q79_25 := q79_24.ro (Y := 72) (j := 29) (v := 84) (by omega)
  rw [← hh25] at q79_25
  have q80_25 := q80_24.ro (Y := 72) (j := 29) (v := 84) (by omega)
  rw [← hh25] at q80_25
  have q81_25 := q81_24.ro (Y := 72) (j := 29) (v := 84) (by omega)
  rw [← hh25] at q81_25
  have q82_25 := q82_24.ro (Y := 72) (j := 29) (v := 84) (by omega)
  rw [← hh25] at q82_25
  have q83_25 := q83_24.ro (Y := 72) (j := 29) (v := 84) (by omega)
  rw [← hh25] at q83_25
  have q84_25 := q84_24.ro (Y := 72) (j := 29) (v := 84) (by omega)
  rw [← hh25] at q84_25
  have u25 : Uc 72 h h25 := u24.tr (by rw [hh25]; exact fun a ha k => ⟨rfl, rfl, by rw [hR_pR, if_neg (by omega)]⟩)
  clear hh25 k24 b24 st24 u24 q72_24 q73_24 q74_24 q75_24 q76_24 q77_24 q78_24 q79_24 q80_24 q81_24 q82_24 q83_24 q84_24 h24
  obtain ⟨h26, hh26⟩ : ∃ x, x = nwH h25 20 8 := ⟨_, rfl⟩
  have l25 := b25.l (by omega)
  have k25 : sK h25 72 = 11 := (b25.k 72).trans rfl
  obtain ⟨b26, s26⟩ := b25.nw (kd := 20) (m := 8) (by omega) (by omega) rfl
  rw [← hh26] at b26 s26
  have st26 : cal (d + 4) m_Mod_init [.inr (.inr 72)] h = EX (d + 3) m_Mod_init 118 [(0, .inr (.inr 72))] [.inr (.inr 85), .inr (.inr 72)] h26 := by
    rw [st25, hh26]
    simp (disch := omega) only [Mod_init_113, wr_id, ix_id, okx, if_pos, if_neg, Int.toNat_of_nonneg, bak_v, bak_n, wr_b01, wr_bt, b01_or, b01_0, b01_1, lc_lt0, lc_gt0, lc_eq0, wl_wr, wr_wr, wl_id, true_and, and_true, true_or, or_true, not_true_eq_false, not_false_eq_true, nc0, nc1, nc2, nc3, nc4, nc5, nc6, nc7, nc8, nc9, nc10, nc11, nc12, nc13, nc14, nc15, nc16, nc17, nc18, nc19, nc20, nc21, nc22, nc23, nc35, nc47, nc59, nc60, nc61, nc73, nc74, nc214, nc215, nc1115, nc2230, nc3345, if_true, if_false, Int.reduceToNat, l25, k25]
  have q72_26 := q72_25.sm s26
  have q73_26 := q73_25.sm s26
  have q74_26 := q74_25.sm s26
  have q75_26 := q75_25.sm s26
  have q76_26 := q76_25.sm s26
  have q77_26 := q77_25.sm s26
  have q78_26 := q78_25.sm s26
  have q79_26 := q79_25.sm s26
  have q80_26 := q80_25.sm s26
  have q81_26 := q81_25.sm s26
  have q82_26 := q82_25.sm s26
  have q83_26 := q83_25.sm s26
  have q84_26 := q84_25.sm s26
  have u26 : Uc 72 h h26 := u25.tr (fun a _ k => s26 a k)
  clear hh26 l25 k25 s26 b25 st25 u25 q72_25 q73_25 q74_25 q75_25 q76_25 q77_25 q78_25 q79_25 q80_25 q81_25 q82_25 q83_25 q84_25 h25
  have q85_26 := b26.cl (X := 85) (by omega)
  replace b26 := b26.up (show 85 ≤ 86 by omega)
  obtain ⟨h27, hh27⟩ : ∃ x, x = pR h26 72 30 85 := ⟨_, rfl⟩
  have b27 := b26.pR (a := 72) (k := 30) (v := 85) (by omega)
  rw [← hh27] at b27
  have k26 : sK h26 72 = 11 := (b26.k 72).trans rfl
  have st27 : cal (d + 4) m_Mod_init [.inr (.inr 72)] h = EX (d + 3) m_Mod_init 121 [(0, .inr (.inr 72))] [] h27 := by
    rw [st26, hh27]
    simp (disch := omega) only [Mod_init_118, wr_id, ix_id, okx, if_pos, if_neg, Int.toNat_of_nonneg, bak_v, bak_n, wr_b01, wr_bt, b01_or, b01_0, b01_1, lc_lt0, lc_gt0, lc_eq0, wl_wr, wr_wr, wl_id, true_and, and_true, true_or, or_true, not_true_eq_false, not_false_eq_true, nc0, nc1, nc2, nc3, nc4, nc5, nc6, nc7, nc8, nc9, nc10, nc11, nc12, nc13, nc14, nc15, nc16, nc17, nc18, nc19, nc20, nc21, nc22, nc23, nc35, nc47, nc59, nc60, nc61, nc73, nc74, nc214, nc215, nc1115, nc2230, nc3345, if_true, if_false, Int.reduceToNat, k26]
  have q72_27 := q72_26.r (j := 30) (v := 85)
  rw [← hh27] at q72_27
  have q73_27 := q73_26.ro (Y := 72) (j := 30) (v := 85) (by omega)
  rw [← hh27] at q73_27
  have q74_27 := q74_26.ro (Y := 72) (j := 30) (v := 85) (by omega)
  rw [← hh27] at q74_27
  have q75_27 := q75_26.ro (Y := 72) (j := 30) (v := 85) (by omega)
  rw [← hh27] at q75_27
  have q76_27 := q76_26.ro (Y := 72) (j := 30) (v := 85) (by omega)
  rw [← hh27] at q76_27
  have q77_27 := q77_26.ro (Y := 72) (j := 30) (v := 85) (by omega)
  rw [← hh27] at q77_27
  have q78_27 := q78_26.ro (Y := 72) (j := 30) (v := 85) (by omega)
  rw [← hh27] at q78_27
  have q79_27 := q79_26.ro (Y := 72) (j := 30) (v := 85) (by omega)
  rw [← hh27] at q79_27
  have q80_27 := q80_26.ro (Y := 72) (j := 30) (v := 85) (by omega)
  rw [← hh27] at q80_27
  have q81_27 := q81_26.ro (Y := 72) (j := 30) (v := 85) (by omega)
  rw [← hh27] at q81_27
  have q82_27 := q82_26.ro (Y := 72) (j := 30) (v := 85) (by omega)
  rw [← hh27] at q82_27
  have q83_27 := q83_26.ro (Y := 72) (j := 30) (v := 85) (by omega)
  rw [← hh27] at q83_27
  have q84_27 := q84_26.ro (Y := 72) (j := 30) (v := 85) (by omega)
  rw [← hh27] at q84_27
  have q85_27 := q85_26.ro (Y := 72) (j := 30) (v := 85) (by omega)
  rw [← hh27] at q85_27
  have u27 : Uc 72 h h27 := u26.tr (by rw [hh27]; exact fun a ha k => ⟨rfl, rfl, by rw [hR_pR, if_neg (by omega)]⟩)
  clear hh27 k26 b26 st26 u26 q72_26 q73_26 q74_26 q75_26 q76_26 q77_26 q78_26 q79_26 q80_26 q81_26 q82_26 q83_26 q84_26 q85_26 h26
  obtain ⟨h28, hh28⟩ : ∃ x, x = nwH h27 20 8 := ⟨_, rfl⟩
  have l27 := b27.l (by omega)
  have k27 : sK h27 72 = 11 := (b27.k 72).trans rfl
  obtain ⟨b28, s28⟩ := b27.nw (kd := 20) (m := 8) (by omega) (by omega) rfl
  rw [← hh28] at b28 s28
  have st28 : cal (d + 4) m_Mod_init [.inr (.inr 72)] h = EX (d + 3) m_Mod_init 126 [(0, .inr (.inr 72))] [.inr (.inr 86), .inr (.inr 72)] h28 := by
    rw [st27, hh28]
    simp (disch := omega) only [Mod_init_121, wr_id, ix_id, okx, if_pos, if_neg, Int.toNat_of_nonneg, bak_v, bak_n, wr_b01, wr_bt, b01_or, b01_0, b01_1, lc_lt0, lc_gt0, lc_eq0, wl_wr, wr_wr, wl_id, true_and, and_true, true_or, or_true, not_true_eq_false, not_false_eq_true, nc0, nc1, nc2, nc3, nc4, nc5, nc6, nc7, nc8, nc9, nc10, nc11, nc12, nc13, nc14, nc15, nc16, nc17, nc18, nc19, nc20, nc21, nc22, nc23, nc35, nc47, nc59, nc60, nc61, nc73, nc74, nc214, nc215, nc1115, nc2230, nc3345, if_true, if_false, Int.reduceToNat, l27, k27]
  have q72_28 := q72_27.sm s28
  have q73_28 := q73_27.sm s28
  have q74_28 := q74_27.sm s28
  have q75_28 := q75_27.sm s28
  have q76_28 := q76_27.sm s28
  have q77_28 := q77_27.sm s28
  have q78_28 := q78_27.sm s28
  have q79_28 := q79_27.sm s28
  have q80_28 := q80_27.sm s28
  have q81_28 := q81_27.sm s28
  have q82_28 := q82_27.sm s28
  have q83_28 := q83_27.sm s28
  have q84_28 := q84_27.sm s28
  have q85_28 := q85_27.sm s28
  have u28 : Uc 72 h h28 := u27.tr (fun a _ k => s28 a k)
  clear hh28 l27 k27 s28 b27 st27 u27 q72_27 q73_27 q74_27 q75_27 q76_27 q77_27 q78_27 q79_27 q80_27 q81_27 q82_27 q83_27 q84_27 q85_27 h27
  have q86_28 := b28.cl (X := 86) (by omega)
  replace b28 := b28.up (show 86 ≤ 87 by omega)
  obtain ⟨h29, hh29⟩ : ∃ x, x = pR h28 72 31 86 := ⟨_, rfl⟩
  have b29 := b28.pR (a := 72) (k := 31) (v := 86) (by omega)
  rw [← hh29] at b29
  have k28 : sK h28 72 = 11 := (b28.k 72).trans rfl
  have st29 : cal (d + 4) m_Mod_init [.inr (.inr 72)] h = EX (d + 3) m_Mod_init 129 [(0, .inr (.inr 72))] [] h29 := by
    rw [st28, hh29]
    simp (disch := omega) only [Mod_init_126, wr_id, ix_id, okx, if_pos, if_neg, Int.toNat_of_nonneg, bak_v, bak_n, wr_b01, wr_bt, b01_or, b01_0, b01_1, lc_lt0, lc_gt0, lc_eq0, wl_wr, wr_wr, wl_id, true_and, and_true, true_or, or_true, not_true_eq_false, not_false_eq_true, nc0, nc1, nc2, nc3, nc4, nc5, nc6, nc7, nc8, nc9, nc10, nc11, nc12, nc13, nc14, nc15, nc16, nc17, nc18, nc19, nc20, nc21, nc22, nc23, nc35, nc47, nc59, nc60, nc61, nc73, nc74, nc214, nc215, nc1115, nc2230, nc3345, if_true, if_false, Int.reduceToNat, k28]
  have q72_29 := q72_28.r (j := 31) (v := 86)
  rw [← hh29] at q72_29
  have q73_29 := q73_28.ro (Y := 72) (j := 31) (v := 86) (by omega)
  rw [← hh29] at q73_29
  have q74_29 := q74_28.ro (Y := 72) (j := 31) (v := 86) (by omega)
  rw [← hh29] at q74_29
  have q75_29 := q75_28.ro (Y := 72) (j := 31) (v := 86) (by omega)
  rw [← hh29] at q75_29
  have q76_29 := q76_28.ro (Y := 72) (j := 31) (v := 86) (by omega)
  rw [← hh29] at q76_29
  have q77_29 := q77_28.ro (Y := 72) (j := 31) (v := 86) (by omega)
  rw [← hh29] at q77_29
  have q78_29 := q78_28.ro (Y := 72) (j := 31) (v := 86) (by omega)
  rw [← hh29] at q78_29
  have q79_29 := q79_28.ro (Y := 72) (j := 31) (v := 86) (by omega)
  rw [← hh29] at q79_29
  have q80_29 := q80_28.ro (Y := 72) (j := 31) (v := 86) (by omega)
  rw [← hh29] at q80_29
  have q81_29 := q81_28.ro (Y := 72) (j := 31) (v := 86) (by omega)
  rw [← hh29] at q81_29
  have q82_29 := q82_28.ro (Y := 72) (j := 31) (v := 86) (by omega)
  rw [← hh29] at q82_29
  have q83_29 := q83_28.ro (Y := 72) (j := 31) (v := 86) (by omega)
  rw [← hh29] at q83_29
  have q84_29 := q84_28.ro (Y := 72) (j := 31) (v := 86) (by omega)
  rw [← hh29] at q84_29
  have q85_29 := q85_28.ro (Y := 72) (j := 31) (v := 86) (by omega)
  rw [← hh29] at q85_29
  have q86_29 := q86_28.ro (Y := 72) (j := 31) (v := 86) (by omega)
  rw [← hh29] at q86_29
  have u29 : Uc 72 h h29 := u28.tr (by rw [hh29]; exact fun a ha k => ⟨rfl, rfl, by rw [hR_pR, if_neg (by omega)]⟩)
  clear hh29 k28 b28 st28 u28 q72_28 q73_28 q74_28 q75_28 q76_28 q77_28 q78_28 q79_28 q80_28 q81_28 q82_28 q83_28 q84_28 q85_28 q86_28 h28
  obtain ⟨h30, hh30⟩ : ∃ x, x = nwH h29 20 4 := ⟨_, rfl⟩
  have l29 := b29.l (by omega)
  have k29 : sK h29 72 = 11 := (b29.k 72).trans rfl
  obtain ⟨b30, s30⟩ := b29.nw (kd := 20) (m := 4) (by omega) (by omega) rfl
  rw [← hh30] at b30 s30
  have st30 : cal (d + 4) m_Mod_init [.inr (.inr 72)] h = EX (d + 3) m_Mod_init 133 [(0, .inr (.inr 72))] [.inr (.inr 87), .inr (.inr 72)] h30 := by
    rw [st29, hh30]
    simp (disch := omega) only [Mod_init_129, wr_id, ix_id, okx, if_pos, if_neg, Int.toNat_of_nonneg, bak_v, bak_n, wr_b01, wr_bt, b01_or, b01_0, b01_1, lc_lt0, lc_gt0, lc_eq0, wl_wr, wr_wr, wl_id, true_and, and_true, true_or, or_true, not_true_eq_false, not_false_eq_true, nc0, nc1, nc2, nc3, nc4, nc5, nc6, nc7, nc8, nc9, nc10, nc11, nc12, nc13, nc14, nc15, nc16, nc17, nc18, nc19, nc20, nc21, nc22, nc23, nc35, nc47, nc59, nc60, nc61, nc73, nc74, nc214, nc215, nc1115, nc2230, nc3345, if_true, if_false, Int.reduceToNat, l29, k29]
  have q72_30 := q72_29.sm s30
  have q73_30 := q73_29.sm s30
  have q74_30 := q74_29.sm s30
  have q75_30 := q75_29.sm s30
  have q76_30 := q76_29.sm s30
  have q77_30 := q77_29.sm s30
  have q78_30 := q78_29.sm s30
  have q79_30 := q79_29.sm s30
  have q80_30 := q80_29.sm s30
  have q81_30 := q81_29.sm s30
  have q82_30 := q82_29.sm s30
  have q83_30 := q83_29.sm s30
  have q84_30 := q84_29.sm s30
  have q85_30 := q85_29.sm s30
  have q86_30 := q86_29.sm s30
  have u30 : Uc 72 h h30 := u29.tr (fun a _ k => s30 a k)
  clear hh30 l29 k29 s30 b29 st29 u29 q72_29 q73_29 q74_29 q75_29 q76_29 q77_29 q78_29 q79_29 q80_29 q81_29 q82_29 q83_29 q84_29 q85_29 q86_29 h29
  have q87_30 := b30.cl (X := 87) (by omega)
  replace b30 := b30.up (show 87 ≤ 88 by omega)
  obtain ⟨h31, hh31⟩ : ∃ x, x = pI h30 87 0 (-1) := ⟨_, rfl⟩
  have b31 := b30.pI (a := 87) (k := 0) (v := -1) (by omega)
  rw [← hh31] at b31
  have k30 : sK h30 72 = 11 := (b30.k 72).trans rfl
  have x30 : sK h30 87 = 20 := (b30.k 87).trans rfl
  have y30 : sN h30 87 = 4 := (b30.n 87).trans rfl
  have st31 : cal (d + 4) m_Mod_init [.inr (.inr 72)] h = EX (d + 3) m_Mod_init 137 [(0, .inr (.inr 72))] [.inr (.inr 87), .inr (.inr 72)] h31 := by
    rw [st30, hh31]
    simp (disch := omega) only [Mod_init_133, wr_id, ix_id, okx, if_pos, if_neg, Int.toNat_of_nonneg, bak_v, bak_n, wr_b01, wr_bt, b01_or, b01_0, b01_1, lc_lt0, lc_gt0, lc_eq0, wl_wr, wr_wr, wl_id, true_and, and_true, true_or, or_true, not_true_eq_false, not_false_eq_true, nc0, nc1, nc2, nc3, nc4, nc5, nc6, nc7, nc8, nc9, nc10, nc11, nc12, nc13, nc14, nc15, nc16, nc17, nc18, nc19, nc20, nc21, nc22, nc23, nc35, nc47, nc59, nc60, nc61, nc73, nc74, nc214, nc215, nc1115, nc2230, nc3345, if_true, if_false, Int.reduceToNat, k30, x30, y30, Int.reduceToNat]
  have q72_31 := q72_30.io (Y := 87) (j := 0) (v := -1) (by omega)
  rw [← hh31] at q72_31
  have q73_31 := q73_30.io (Y := 87) (j := 0) (v := -1) (by omega)
  rw [← hh31] at q73_31
  have q74_31 := q74_30.io (Y := 87) (j := 0) (v := -1) (by omega)
  rw [← hh31] at q74_31
  have q75_31 := q75_30.io (Y := 87) (j := 0) (v := -1) (by omega)
  rw [← hh31] at q75_31
  have q76_31 := q76_30.io (Y := 87) (j := 0) (v := -1) (by omega)
  rw [← hh31] at q76_31
  have q77_31 := q77_30.io (Y := 87) (j := 0) (v := -1) (by omega)
  rw [← hh31] at q77_31
  have q78_31 := q78_30.io (Y := 87) (j := 0) (v := -1) (by omega)
  rw [← hh31] at q78_31
  have q79_31 := q79_30.io (Y := 87) (j := 0) (v := -1) (by omega)
  rw [← hh31] at q79_31
  have q80_31 := q80_30.io (Y := 87) (j := 0) (v := -1) (by omega)
  rw [← hh31] at q80_31
  have q81_31 := q81_30.io (Y := 87) (j := 0) (v := -1) (by omega)
  rw [← hh31] at q81_31
  have q82_31 := q82_30.io (Y := 87) (j := 0) (v := -1) (by omega)
  rw [← hh31] at q82_31
  have q83_31 := q83_30.io (Y := 87) (j := 0) (v := -1) (by omega)
  rw [← hh31] at q83_31
  have q84_31 := q84_30.io (Y := 87) (j := 0) (v := -1) (by omega)
  rw [← hh31] at q84_31
  have q85_31 := q85_30.io (Y := 87) (j := 0) (v := -1) (by omega)
  rw [← hh31] at q85_31
  have q86_31 := q86_30.io (Y := 87) (j := 0) (v := -1) (by omega)
  rw [← hh31] at q86_31
  have q87_31 := q87_30.i (j := 0) (v := -1)
  rw [← hh31] at q87_31
  have u31 : Uc 72 h h31 := u30.tr (by rw [hh31]; exact fun a ha k => ⟨by rw [hI_pI, if_neg (by omega)], rfl, rfl⟩)
  clear hh31 k30 x30 y30 b30 st30 u30 q72_30 q73_30 q74_30 q75_30 q76_30 q77_30 q78_30 q79_30 q80_30 q81_30 q82_30 q83_30 q84_30 q85_30 q86_30 q87_30 h30
  obtain ⟨h32, hh32⟩ : ∃ x, x = pI h31 87 1 (-1) := ⟨_, rfl⟩
  have b32 := b31.pI (a := 87) (k := 1) (v := -1) (by omega)
  rw [← hh32] at b32
  have k31 : sK h31 72 = 11 := (b31.k 72).trans rfl
  have x31 : sK h31 87 = 20 := (b31.k 87).trans rfl
  have y31 : sN h31 87 = 4 := (b31.n 87).trans rfl
  have st32 : cal (d + 4) m_Mod_init [.inr (.inr 72)] h = EX (d + 3) m_Mod_init 141 [(0, .inr (.inr 72))] [.inr (.inr 87), .inr (.inr 72)] h32 := by
    rw [st31, hh32]
    simp (disch := omega) only [Mod_init_137, wr_id, ix_id, okx, if_pos, if_neg, Int.toNat_of_nonneg, bak_v, bak_n, wr_b01, wr_bt, b01_or, b01_0, b01_1, lc_lt0, lc_gt0, lc_eq0, wl_wr, wr_wr, wl_id, true_and, and_true, true_or, or_true, not_true_eq_false, not_false_eq_true, nc0, nc1, nc2, nc3, nc4, nc5, nc6, nc7, nc8, nc9, nc10, nc11, nc12, nc13, nc14, nc15, nc16, nc17, nc18, nc19, nc20, nc21, nc22, nc23, nc35, nc47, nc59, nc60, nc61, nc73, nc74, nc214, nc215, nc1115, nc2230, nc3345, if_true, if_false, Int.reduceToNat, k31, x31, y31, Int.reduceToNat]
  have q72_32 := q72_31.io (Y := 87) (j := 1) (v := -1) (by omega)
  rw [← hh32] at q72_32
  have q73_32 := q73_31.io (Y := 87) (j := 1) (v := -1) (by omega)
  rw [← hh32] at q73_32
  have q74_32 := q74_31.io (Y := 87) (j := 1) (v := -1) (by omega)
  rw [← hh32] at q74_32
  have q75_32 := q75_31.io (Y := 87) (j := 1) (v := -1) (by omega)
  rw [← hh32] at q75_32
  have q76_32 := q76_31.io (Y := 87) (j := 1) (v := -1) (by omega)
  rw [← hh32] at q76_32
  have q77_32 := q77_31.io (Y := 87) (j := 1) (v := -1) (by omega)
  rw [← hh32] at q77_32
  have q78_32 := q78_31.io (Y := 87) (j := 1) (v := -1) (by omega)
  rw [← hh32] at q78_32
  have q79_32 := q79_31.io (Y := 87) (j := 1) (v := -1) (by omega)
  rw [← hh32] at q79_32
  have q80_32 := q80_31.io (Y := 87) (j := 1) (v := -1) (by omega)
  rw [← hh32] at q80_32
  have q81_32 := q81_31.io (Y := 87) (j := 1) (v := -1) (by omega)
  rw [← hh32] at q81_32
  have q82_32 := q82_31.io (Y := 87) (j := 1) (v := -1) (by omega)
  rw [← hh32] at q82_32
  have q83_32 := q83_31.io (Y := 87) (j := 1) (v := -1) (by omega)
  rw [← hh32] at q83_32
  have q84_32 := q84_31.io (Y := 87) (j := 1) (v := -1) (by omega)
  rw [← hh32] at q84_32
  have q85_32 := q85_31.io (Y := 87) (j := 1) (v := -1) (by omega)
  rw [← hh32] at q85_32
  have q86_32 := q86_31.io (Y := 87) (j := 1) (v := -1) (by omega)
  rw [← hh32] at q86_32
  have q87_32 := q87_31.i (j := 1) (v := -1)
  rw [← hh32] at q87_32
  have u32 : Uc 72 h h32 := u31.tr (by rw [hh32]; exact fun a ha k => ⟨by rw [hI_pI, if_neg (by omega)], rfl, rfl⟩)
  clear hh32 k31 x31 y31 b31 st31 u31 q72_31 q73_31 q74_31 q75_31 q76_31 q77_31 q78_31 q79_31 q80_31 q81_31 q82_31 q83_31 q84_31 q85_31 q86_31 q87_31 h31
  obtain ⟨h33, hh33⟩ : ∃ x, x = pI h32 87 2 (-1) := ⟨_, rfl⟩
  have b33 := b32.pI (a := 87) (k := 2) (v := -1) (by omega)
  rw [← hh33] at b33
  have k32 : sK h32 72 = 11 := (b32.k 72).trans rfl
  have x32 : sK h32 87 = 20 := (b32.k 87).trans rfl
  have y32 : sN h32 87 = 4 := (b32.n 87).trans rfl
  have st33 : cal (d + 4) m_Mod_init [.inr (.inr 72)] h = EX (d + 3) m_Mod_init 145 [(0, .inr (.inr 72))] [.inr (.inr 87), .inr (.inr 72)] h33 := by
    rw [st32, hh33]
    simp (disch := omega) only [Mod_init_141, wr_id, ix_id, okx, if_pos, if_neg, Int.toNat_of_nonneg, bak_v, bak_n, wr_b01, wr_bt, b01_or, b01_0, b01_1, lc_lt0, lc_gt0, lc_eq0, wl_wr, wr_wr, wl_id, true_and, and_true, true_or, or_true, not_true_eq_false, not_false_eq_true, nc0, nc1, nc2, nc3, nc4, nc5, nc6, nc7, nc8, nc9, nc10, nc11, nc12, nc13, nc14, nc15, nc16, nc17, nc18, nc19, nc20, nc21, nc22, nc23, nc35, nc47, nc59, nc60, nc61, nc73, nc74, nc214, nc215, nc1115, nc2230, nc3345, if_true, if_false, Int.reduceToNat, k32, x32, y32, Int.reduceToNat]
  have q72_33 := q72_32.io (Y := 87) (j := 2) (v := -1) (by omega)
  rw [← hh33] at q72_33
  have q73_33 := q73_32.io (Y := 87) (j := 2) (v := -1) (by omega)
  rw [← hh33] at q73_33
  have q74_33 := q74_32.io (Y := 87) (j := 2) (v := -1) (by omega)
  rw [← hh33] at q74_33
  have q75_33 := q75_32.io (Y := 87) (j := 2) (v := -1) (by omega)
  rw [← hh33] at q75_33
  have q76_33 := q76_32.io (Y := 87) (j := 2) (v := -1) (by omega)
  rw [← hh33] at q76_33
  have q77_33 := q77_32.io (Y := 87) (j := 2) (v := -1) (by omega)
  rw [← hh33] at q77_33
  have q78_33 := q78_32.io (Y := 87) (j := 2) (v := -1) (by omega)
  rw [← hh33] at q78_33
  have q79_33 := q79_32.io (Y := 87) (j := 2) (v := -1) (by omega)
  rw [← hh33] at q79_33
  have q80_33 := q80_32.io (Y := 87) (j := 2) (v := -1) (by omega)
  rw [← hh33] at q80_33
  have q81_33 := q81_32.io (Y := 87) (j := 2) (v := -1) (by omega)
  rw [← hh33] at q81_33
  have q82_33 := q82_32.io (Y := 87) (j := 2) (v := -1) (by omega)
  rw [← hh33] at q82_33
  have q83_33 := q83_32.io (Y := 87) (j := 2) (v := -1) (by omega)
  rw [← hh33] at q83_33
  have q84_33 := q84_32.io (Y := 87) (j := 2) (v := -1) (by omega)
  rw [← hh33] at q84_33
  have q85_33 := q85_32.io (Y := 87) (j := 2) (v := -1) (by omega)
  rw [← hh33] at q85_33
  have q86_33 := q86_32.io (Y := 87) (j := 2) (v := -1) (by omega)
  rw [← hh33] at q86_33
  have q87_33 := q87_32.i (j := 2) (v := -1)
  rw [← hh33] at q87_33
  have u33 : Uc 72 h h33 := u32.tr (by rw [hh33]; exact fun a ha k => ⟨by rw [hI_pI, if_neg (by omega)], rfl, rfl⟩)
  clear hh33 k32 x32 y32 b32 st32 u32 q72_32 q73_32 q74_32 q75_32 q76_32 q77_32 q78_32 q79_32 q80_32 q81_32 q82_32 q83_32 q84_32 q85_32 q86_32 q87_32 h32
  obtain ⟨h34, hh34⟩ : ∃ x, x = pI h33 87 3 (-1) := ⟨_, rfl⟩
  have b34 := b33.pI (a := 87) (k := 3) (v := -1) (by omega)
  rw [← hh34] at b34
  have k33 : sK h33 72 = 11 := (b33.k 72).trans rfl
  have x33 : sK h33 87 = 20 := (b33.k 87).trans rfl
  have y33 : sN h33 87 = 4 := (b33.n 87).trans rfl
  have st34 : cal (d + 4) m_Mod_init [.inr (.inr 72)] h = EX (d + 3) m_Mod_init 149 [(0, .inr (.inr 72))] [.inr (.inr 87), .inr (.inr 72)] h34 := by
    rw [st33, hh34]
    simp (disch := omega) only [Mod_init_145, wr_id, ix_id, okx, if_pos, if_neg, Int.toNat_of_nonneg, bak_v, bak_n, wr_b01, wr_bt, b01_or, b01_0, b01_1, lc_lt0, lc_gt0, lc_eq0, wl_wr, wr_wr, wl_id, true_and, and_true, true_or, or_true, not_true_eq_false, not_false_eq_true, nc0, nc1, nc2, nc3, nc4, nc5, nc6, nc7, nc8, nc9, nc10, nc11, nc12, nc13, nc14, nc15, nc16, nc17, nc18, nc19, nc20, nc21, nc22, nc23, nc35, nc47, nc59, nc60, nc61, nc73, nc74, nc214, nc215, nc1115, nc2230, nc3345, if_true, if_false, Int.reduceToNat, k33, x33, y33, Int.reduceToNat]
  have q72_34 := q72_33.io (Y := 87) (j := 3) (v := -1) (by omega)
  rw [← hh34] at q72_34
  have q73_34 := q73_33.io (Y := 87) (j := 3) (v := -1) (by omega)
  rw [← hh34] at q73_34
  have q74_34 := q74_33.io (Y := 87) (j := 3) (v := -1) (by omega)
  rw [← hh34] at q74_34
  have q75_34 := q75_33.io (Y := 87) (j := 3) (v := -1) (by omega)
  rw [← hh34] at q75_34
  have q76_34 := q76_33.io (Y := 87) (j := 3) (v := -1) (by omega)
  rw [← hh34] at q76_34
  have q77_34 := q77_33.io (Y := 87) (j := 3) (v := -1) (by omega)
  rw [← hh34] at q77_34
  have q78_34 := q78_33.io (Y := 87) (j := 3) (v := -1) (by omega)
  rw [← hh34] at q78_34
  have q79_34 := q79_33.io (Y := 87) (j := 3) (v := -1) (by omega)
  rw [← hh34] at q79_34
  have q80_34 := q80_33.io (Y := 87) (j := 3) (v := -1) (by omega)
  rw [← hh34] at q80_34
  have q81_34 := q81_33.io (Y := 87) (j := 3) (v := -1) (by omega)
  rw [← hh34] at q81_34
  have q82_34 := q82_33.io (Y := 87) (j := 3) (v := -1) (by omega)
  rw [← hh34] at q82_34
  have q83_34 := q83_33.io (Y := 87) (j := 3) (v := -1) (by omega)
  rw [← hh34] at q83_34
  have q84_34 := q84_33.io (Y := 87) (j := 3) (v := -1) (by omega)
  rw [← hh34] at q84_34
  have q85_34 := q85_33.io (Y := 87) (j := 3) (v := -1) (by omega)
  rw [← hh34] at q85_34
  have q86_34 := q86_33.io (Y := 87) (j := 3) (v := -1) (by omega)
  rw [← hh34] at q86_34
  have q87_34 := q87_33.i (j := 3) (v := -1)
  rw [← hh34] at q87_34
  have u34 : Uc 72 h h34 := u33.tr (by rw [hh34]; exact fun a ha k => ⟨by rw [hI_pI, if_neg (by omega)], rfl, rfl⟩)
  clear hh34 k33 x33 y33 b33 st33 u33 q72_33 q73_33 q74_33 q75_33 q76_33 q77_33 q78_33 q79_33 q80_33 q81_33 q82_33 q83_33 q84_33 q85_33 q86_33 q87_33 h33
  obtain ⟨h35, hh35⟩ : ∃ x, x = pR h34 72 33 87 := ⟨_, rfl⟩
  have b35 := b34.pR (a := 72) (k := 33) (v := 87) (by omega)
  rw [← hh35] at b35
  have k34 : sK h34 72 = 11 := (b34.k 72).trans rfl
  have st35 : cal (d + 4) m_Mod_init [.inr (.inr 72)] h = EX (d + 3) m_Mod_init 152 [(0, .inr (.inr 72))] [] h35 := by
    rw [st34, hh35]
    simp (disch := omega) only [Mod_init_149, wr_id, ix_id, okx, if_pos, if_neg, Int.toNat_of_nonneg, bak_v, bak_n, wr_b01, wr_bt, b01_or, b01_0, b01_1, lc_lt0, lc_gt0, lc_eq0, wl_wr, wr_wr, wl_id, true_and, and_true, true_or, or_true, not_true_eq_false, not_false_eq_true, nc0, nc1, nc2, nc3, nc4, nc5, nc6, nc7, nc8, nc9, nc10, nc11, nc12, nc13, nc14, nc15, nc16, nc17, nc18, nc19, nc20, nc21, nc22, nc23, nc35, nc47, nc59, nc60, nc61, nc73, nc74, nc214, nc215, nc1115, nc2230, nc3345, if_true, if_false, Int.reduceToNat, k34]
  have q72_35 := q72_34.r (j := 33) (v := 87)
  rw [← hh35] at q72_35
  have q73_35 := q73_34.ro (Y := 72) (j := 33) (v := 87) (by omega)
  rw [← hh35] at q73_35
  have q74_35 := q74_34.ro (Y := 72) (j := 33) (v := 87) (by omega)
  rw [← hh35] at q74_35
  have q75_35 := q75_34.ro (Y := 72) (j := 33) (v := 87) (by omega)
  rw [← hh35] at q75_35
  have q76_35 := q76_34.ro (Y := 72) (j := 33) (v := 87) (by omega)
  rw [← hh35] at q76_35
  have q77_35 := q77_34.ro (Y := 72) (j := 33) (v := 87) (by omega)
  rw [← hh35] at q77_35
  have q78_35 := q78_34.ro (Y := 72) (j := 33) (v := 87) (by omega)
  rw [← hh35] at q78_35
  have q79_35 := q79_34.ro (Y := 72) (j := 33) (v := 87) (by omega)
  rw [← hh35] at q79_35
  have q80_35 := q80_34.ro (Y := 72) (j := 33) (v := 87) (by omega)
  rw [← hh35] at q80_35
  have q81_35 := q81_34.ro (Y := 72) (j := 33) (v := 87) (by omega)
  rw [← hh35] at q81_35
  have q82_35 := q82_34.ro (Y := 72) (j := 33) (v := 87) (by omega)
  rw [← hh35] at q82_35
  have q83_35 := q83_34.ro (Y := 72) (j := 33) (v := 87) (by omega)
  rw [← hh35] at q83_35
  have q84_35 := q84_34.ro (Y := 72) (j := 33) (v := 87) (by omega)
  rw [← hh35] at q84_35
  have q85_35 := q85_34.ro (Y := 72) (j := 33) (v := 87) (by omega)
  rw [← hh35] at q85_35
  have q86_35 := q86_34.ro (Y := 72) (j := 33) (v := 87) (by omega)
  rw [← hh35] at q86_35
  have q87_35 := q87_34.ro (Y := 72) (j := 33) (v := 87) (by omega)
  rw [← hh35] at q87_35
  have u35 : Uc 72 h h35 := u34.tr (by rw [hh35]; exact fun a ha k => ⟨rfl, rfl, by rw [hR_pR, if_neg (by omega)]⟩)
  clear hh35 k34 b34 st34 u34 q72_34 q73_34 q74_34 q75_34 q76_34 q77_34 q78_34 q79_34 q80_34 q81_34 q82_34 q83_34 q84_34 q85_34 q86_34 q87_34 h34
  obtain ⟨h36, hh36⟩ : ∃ x, x = nwH h35 20 4 := ⟨_, rfl⟩
  have l35 := b35.l (by omega)
  have k35 : sK h35 72 = 11 := (b35.k 72).trans rfl
  obtain ⟨b36, s36⟩ := b35.nw (kd := 20) (m := 4) (by omega) (by omega) rfl
  rw [← hh36] at b36 s36
  have st36 : cal (d + 4) m_Mod_init [.inr (.inr 72)] h = EX (d + 3) m_Mod_init 156 [(0, .inr (.inr 72))] [.inr (.inr 88), .inr (.inr 72)] h36 := by
    rw [st35, hh36]
    simp (disch := omega) only [Mod_init_152, wr_id, ix_id, okx, if_pos, if_neg, Int.toNat_of_nonneg, bak_v, bak_n, wr_b01, wr_bt, b01_or, b01_0, b01_1, lc_lt0, lc_gt0, lc_eq0, wl_wr, wr_wr, wl_id, true_and, and_true, true_or, or_true, not_true_eq_false, not_false_eq_true, nc0, nc1, nc2, nc3, nc4, nc5, nc6, nc7, nc8, nc9, nc10, nc11, nc12, nc13, nc14, nc15, nc16, nc17, nc18, nc19, nc20, nc21, nc22, nc23, nc35, nc47, nc59, nc60, nc61, nc73, nc74, nc214, nc215, nc1115, nc2230, nc3345, if_true, if_false, Int.reduceToNat, l35, k35]
  have q72_36 := q72_35.sm s36
  have q73_36 := q73_35.sm s36
  have q74_36 := q74_35.sm s36
  have q75_36 := q75_35.sm s36
  have q76_36 := q76_35.sm s36
  have q77_36 := q77_35.sm s36
  have q78_36 := q78_35.sm s36
  have q79_36 := q79_35.sm s36
  have q80_36 := q80_35.sm s36
  have q81_36 := q81_35.sm s36
  have q82_36 := q82_35.sm s36
  have q83_36 := q83_35.sm s36
  have q84_36 := q84_35.sm s36
  have q85_36 := q85_35.sm s36
  have q86_36 := q86_35.sm s36
  have q87_36 := q87_35.sm s36
  have u36 : Uc 72 h h36 := u35.tr (fun a _ k => s36 a k)
  clear hh36 l35 k35 s36 b35 st35 u35 q72_35 q73_35 q74_35 q75_35 q76_35 q77_35 q78_35 q79_35 q80_35 q81_35 q82_35 q83_35 q84_35 q85_35 q86_35 q87_35 h35
  have q88_36 := b36.cl (X := 88) (by omega)
  replace b36 := b36.up (show 88 ≤ 89 by omega)
  obtain ⟨h37, hh37⟩ : ∃ x, x = pR h36 72 34 88 := ⟨_, rfl⟩
  have b37 := b36.pR (a := 72) (k := 34) (v := 88) (by omega)
  rw [← hh37] at b37
  have k36 : sK h36 72 = 11 := (b36.k 72).trans rfl
  have st37 : cal (d + 4) m_Mod_init [.inr (.inr 72)] h = EX (d + 3) m_Mod_init 159 [(0, .inr (.inr 72))] [] h37 := by
    rw [st36, hh37]
    simp (disch := omega) only [Mod_init_156, wr_id, ix_id, okx, if_pos, if_neg, Int.toNat_of_nonneg, bak_v, bak_n, wr_b01, wr_bt, b01_or, b01_0, b01_1, lc_lt0, lc_gt0, lc_eq0, wl_wr, wr_wr, wl_id, true_and, and_true, true_or, or_true, not_true_eq_false, not_false_eq_true, nc0, nc1, nc2, nc3, nc4, nc5, nc6, nc7, nc8, nc9, nc10, nc11, nc12, nc13, nc14, nc15, nc16, nc17, nc18, nc19, nc20, nc21, nc22, nc23, nc35, nc47, nc59, nc60, nc61, nc73, nc74, nc214, nc215, nc1115, nc2230, nc3345, if_true, if_false, Int.reduceToNat, k36]
  have q72_37 := q72_36.r (j := 34) (v := 88)
  rw [← hh37] at q72_37
  have q73_37 := q73_36.ro (Y := 72) (j := 34) (v := 88) (by omega)
  rw [← hh37] at q73_37
  have q74_37 := q74_36.ro (Y := 72) (j := 34) (v := 88) (by omega)
  rw [← hh37] at q74_37
  have q75_37 := q75_36.ro (Y := 72) (j := 34) (v := 88) (by omega)
  rw [← hh37] at q75_37
  have q76_37 := q76_36.ro (Y := 72) (j := 34) (v := 88) (by omega)
  rw [← hh37] at q76_37
  have q77_37 := q77_36.ro (Y := 72) (j := 34) (v := 88) (by omega)
  rw [← hh37] at q77_37
  have q78_37 := q78_36.ro (Y := 72) (j := 34) (v := 88) (by omega)
  rw [← hh37] at q78_37
  have q79_37 := q79_36.ro (Y := 72) (j := 34) (v := 88) (by omega)
  rw [← hh37] at q79_37
  have q80_37 := q80_36.ro (Y := 72) (j := 34) (v := 88) (by omega)
  rw [← hh37] at q80_37
  have q81_37 := q81_36.ro (Y := 72) (j := 34) (v := 88) (by omega)
  rw [← hh37] at q81_37
  have q82_37 := q82_36.ro (Y := 72) (j := 34) (v := 88) (by omega)
  rw [← hh37] at q82_37
  have q83_37 := q83_36.ro (Y := 72) (j := 34) (v := 88) (by omega)
  rw [← hh37] at q83_37
  have q84_37 := q84_36.ro (Y := 72) (j := 34) (v := 88) (by omega)
  rw [← hh37] at q84_37
  have q85_37 := q85_36.ro (Y := 72) (j := 34) (v := 88) (by omega)
  rw [← hh37] at q85_37
  have q86_37 := q86_36.ro (Y := 72) (j := 34) (v := 88) (by omega)
  rw [← hh37] at q86_37
  have q87_37 := q87_36.ro (Y := 72) (j := 34) (v := 88) (by omega)
  rw [← hh37] at q87_37
  have q88_37 := q88_36.ro (Y := 72) (j := 34) (v := 88) (by omega)
  rw [← hh37] at q88_37
  have u37 : Uc 72 h h37 := u36.tr (by rw [hh37]; exact fun a ha k => ⟨rfl, rfl, by rw [hR_pR, if_neg (by omega)]⟩)
  clear hh37 k36 b36 st36 u36 q72_36 q73_36 q74_36 q75_36 q76_36 q77_36 q78_36 q79_36 q80_36 q81_36 q82_36 q83_36 q84_36 q85_36 q86_36 q87_36 q88_36 h36
  obtain ⟨h38, hh38⟩ : ∃ x, x = nwH h37 21 160 := ⟨_, rfl⟩
  have l37 := b37.l (by omega)
  have k37 : sK h37 72 = 11 := (b37.k 72).trans rfl
  obtain ⟨b38, s38⟩ := b37.nw (kd := 21) (m := 160) (by omega) (by omega) rfl
  rw [← hh38] at b38 s38
  have st38 : cal (d + 4) m_Mod_init [.inr (.inr 72)] h = EX (d + 3) m_Mod_init 165 [(0, .inr (.inr 72))] [.inr (.inr 89), .inr (.inr 72)] h38 := by
    rw [st37, hh38]
    simp (disch := omega) only [Mod_init_159, wr_id, ix_id, okx, if_pos, if_neg, Int.toNat_of_nonneg, bak_v, bak_n, wr_b01, wr_bt, b01_or, b01_0, b01_1, lc_lt0, lc_gt0, lc_eq0, wl_wr, wr_wr, wl_id, true_and, and_true, true_or, or_true, not_true_eq_false, not_false_eq_true, nc0, nc1, nc2, nc3, nc4, nc5, nc6, nc7, nc8, nc9, nc10, nc11, nc12, nc13, nc14, nc15, nc16, nc17, nc18, nc19, nc20, nc21, nc22, nc23, nc35, nc47, nc59, nc60, nc61, nc73, nc74, nc214, nc215, nc1115, nc2230, nc3345, if_true, if_false, Int.reduceToNat, l37, k37]
  have q72_38 := q72_37.sm s38
  have q73_38 := q73_37.sm s38
  have q74_38 := q74_37.sm s38
  have q75_38 := q75_37.sm s38
  have q76_38 := q76_37.sm s38
  have q77_38 := q77_37.sm s38
  have q78_38 := q78_37.sm s38
  have q79_38 := q79_37.sm s38
  have q80_38 := q80_37.sm s38
  have q81_38 := q81_37.sm s38
  have q82_38 := q82_37.sm s38
  have q83_38 := q83_37.sm s38
  have q84_38 := q84_37.sm s38
  have q85_38 := q85_37.sm s38
  have q86_38 := q86_37.sm s38
  have q87_38 := q87_37.sm s38
  have q88_38 := q88_37.sm s38
  have u38 : Uc 72 h h38 := u37.tr (fun a _ k => s38 a k)
  clear hh38 l37 k37 s38 b37 st37 u37 q72_37 q73_37 q74_37 q75_37 q76_37 q77_37 q78_37 q79_37 q80_37 q81_37 q82_37 q83_37 q84_37 q85_37 q86_37 q87_37 q88_37 h37
  have q89_38 := b38.cl (X := 89) (by omega)
  replace b38 := b38.up (show 89 ≤ 90 by omega)
  obtain ⟨h39, hh39⟩ : ∃ x, x = pR h38 72 35 89 := ⟨_, rfl⟩
  have b39 := b38.pR (a := 72) (k := 35) (v := 89) (by omega)
  rw [← hh39] at b39
  have k38 : sK h38 72 = 11 := (b38.k 72).trans rfl
  have st39 : cal (d + 4) m_Mod_init [.inr (.inr 72)] h = EX (d + 3) m_Mod_init 168 [(0, .inr (.inr 72))] [] h39 := by
    rw [st38, hh39]
    simp (disch := omega) only [Mod_init_165, wr_id, ix_id, okx, if_pos, if_neg, Int.toNat_of_nonneg, bak_v, bak_n, wr_b01, wr_bt, b01_or, b01_0, b01_1, lc_lt0, lc_gt0, lc_eq0, wl_wr, wr_wr, wl_id, true_and, and_true, true_or, or_true, not_true_eq_false, not_false_eq_true, nc0, nc1, nc2, nc3, nc4, nc5, nc6, nc7, nc8, nc9, nc10, nc11, nc12, nc13, nc14, nc15, nc16, nc17, nc18, nc19, nc20, nc21, nc22, nc23, nc35, nc47, nc59, nc60, nc61, nc73, nc74, nc214, nc215, nc1115, nc2230, nc3345, if_true, if_false, Int.reduceToNat, k38]
  have q72_39 := q72_38.r (j := 35) (v := 89)
  rw [← hh39] at q72_39
  have q73_39 := q73_38.ro (Y := 72) (j := 35) (v := 89) (by omega)
  rw [← hh39] at q73_39
  have q74_39 := q74_38.ro (Y := 72) (j := 35) (v := 89) (by omega)
  rw [← hh39] at q74_39
  have q75_39 := q75_38.ro (Y := 72) (j := 35) (v := 89) (by omega)
  rw [← hh39] at q75_39
  have q76_39 := q76_38.ro (Y := 72) (j := 35) (v := 89) (by omega)
  rw [← hh39] at q76_39
  have q77_39 := q77_38.ro (Y := 72) (j := 35) (v := 89) (by omega)
  rw [← hh39] at q77_39
  have q78_39 := q78_38.ro (Y := 72) (j := 35) (v := 89) (by omega)
  rw [← hh39] at q78_39
  have q79_39 := q79_38.ro (Y := 72) (j := 35) (v := 89) (by omega)
  rw [← hh39] at q79_39
  have q80_39 := q80_38.ro (Y := 72) (j := 35) (v := 89) (by omega)
  rw [← hh39] at q80_39
  have q81_39 := q81_38.ro (Y := 72) (j := 35) (v := 89) (by omega)
  rw [← hh39] at q81_39
  have q82_39 := q82_38.ro (Y := 72) (j := 35) (v := 89) (by omega)
  rw [← hh39] at q82_39
  have q83_39 := q83_38.ro (Y := 72) (j := 35) (v := 89) (by omega)
  rw [← hh39] at q83_39
  have q84_39 := q84_38.ro (Y := 72) (j := 35) (v := 89) (by omega)
  rw [← hh39] at q84_39
  have q85_39 := q85_38.ro (Y := 72) (j := 35) (v := 89) (by omega)
  rw [← hh39] at q85_39
  have q86_39 := q86_38.ro (Y := 72) (j := 35) (v := 89) (by omega)
  rw [← hh39] at q86_39
  have q87_39 := q87_38.ro (Y := 72) (j := 35) (v := 89) (by omega)
  rw [← hh39] at q87_39
  have q88_39 := q88_38.ro (Y := 72) (j := 35) (v := 89) (by omega)
  rw [← hh39] at q88_39
  have q89_39 := q89_38.ro (Y := 72) (j := 35) (v := 89) (by omega)
  rw [← hh39] at q89_39
  have u39 : Uc 72 h h39 := u38.tr (by rw [hh39]; exact fun a ha k => ⟨rfl, rfl, by rw [hR_pR, if_neg (by omega)]⟩)
  clear hh39 k38 b38 st38 u38 q72_38 q73_38 q74_38 q75_38 q76_38 q77_38 q78_38 q79_38 q80_38 q81_38 q82_38 q83_38 q84_38 q85_38 q86_38 q87_38 q88_38 q89_38 h38
  have hm : MR h39 := ⟨(b39.k 72).trans rfl, ⟨(q72_39 1).2.2.trans rfl, (q72_39 2).2.2.trans rfl, (q72_39 3).2.2.trans rfl, (q72_39 4).2.2.trans rfl, (q72_39 15).2.2.trans rfl, (q72_39 16).2.2.trans rfl, (q72_39 19).2.2.trans rfl, (q72_39 23).2.2.trans rfl, (q72_39 24).2.2.trans rfl, (q72_39 25).2.2.trans rfl, (q72_39 26).2.2.trans rfl, (q72_39 29).2.2.trans rfl, (q72_39 30).2.2.trans rfl, (q72_39 31).2.2.trans rfl, (q72_39 33).2.2.trans rfl, (q72_39 34).2.2.trans rfl, (q72_39 35).2.2.trans rfl⟩, ⟨(b39.k 73).trans rfl, (b39.k 74).trans rfl, (b39.k 75).trans rfl, (b39.k 76).trans rfl, (b39.k 77).trans rfl, (b39.k 78).trans rfl, (b39.k 79).trans rfl, (b39.k 80).trans rfl, (b39.k 81).trans rfl, (b39.k 82).trans rfl, (b39.k 83).trans rfl, (b39.k 84).trans rfl, (b39.k 85).trans rfl, (b39.k 86).trans rfl, (b39.k 87).trans rfl, (b39.k 88).trans rfl, (b39.k 89).trans rfl⟩, ⟨(b39.n 73).trans rfl, (b39.n 74).trans rfl, (b39.n 75).trans rfl, (b39.n 76).trans rfl, (b39.n 77).trans rfl, (b39.n 78).trans rfl, (b39.n 79).trans rfl, (b39.n 80).trans rfl, (b39.n 81).trans rfl, (b39.n 82).trans rfl, (b39.n 83).trans rfl, (b39.n 84).trans rfl, (b39.n 85).trans rfl, (b39.n 86).trans rfl, (b39.n 87).trans rfl, (b39.n 88).trans rfl, (b39.n 89).trans rfl⟩⟩
  obtain ⟨hz, ez, pz, fz'⟩ := m_p73 (d := d + 2) (R := fun _ => 0) hm (fun j => (q73_39 j).1)
  have kz : sK h39 72 = 11 := (b39.k 72).trans rfl
  have rz : hR h39 72 1 = 73 := (q72_39 1).2.2.trans rfl
  have k73 : sK h39 73 = 20 := (b39.k 73).trans rfl
  have wn : Dn h39 6 72 := w0.uc u39 (by omega)
  have f72 : Dn hz 72 73 := fun a a0 a1 k => by
    obtain ⟨r1, r2, r3⟩ := Dn.cl q72_39 (fun k => by simp [IT]; try omega) (fun k => by simp [RT]) a a0 a1 k
    rw [fz'.I (by omega), fz'.L (by omega), fz'.R]; exact ⟨r1, r2, r3⟩
  have f74 : Dn hz 74 75 := fun a a0 a1 k => by
    obtain ⟨r1, r2, r3⟩ := Dn.cl q74_39 (fun k => by simp [IT]; try omega) (fun k => by simp [RT]) a a0 a1 k
    rw [fz'.I (by omega), fz'.L (by omega), fz'.R]; exact ⟨r1, r2, r3⟩
  have f75 : Dn hz 75 76 := fun a a0 a1 k => by
    obtain ⟨r1, r2, r3⟩ := Dn.cl q75_39 (fun k => by simp [IT]; try omega) (fun k => by simp [RT]) a a0 a1 k
    rw [fz'.I (by omega), fz'.L (by omega), fz'.R]; exact ⟨r1, r2, r3⟩
  have f76 : Dn hz 76 77 := fun a a0 a1 k => by
    obtain ⟨r1, r2, r3⟩ := Dn.cl q76_39 (fun k => by simp [IT]; try omega) (fun k => by simp [RT]) a a0 a1 k
    rw [fz'.I (by omega), fz'.L (by omega), fz'.R]; exact ⟨r1, r2, r3⟩
  have f77 : Dn hz 77 78 := fun a a0 a1 k => by
    obtain ⟨r1, r2, r3⟩ := Dn.cl q77_39 (fun k => by simp [IT]; try omega) (fun k => by simp [RT]) a a0 a1 k
    rw [fz'.I (by omega), fz'.L (by omega), fz'.R]; exact ⟨r1, r2, r3⟩
  have f78 : Dn hz 78 79 := fun a a0 a1 k => by
    obtain ⟨r1, r2, r3⟩ := Dn.cl q78_39 (fun k => by simp [IT]; try omega) (fun k => by simp [RT]) a a0 a1 k
    rw [fz'.I (by omega), fz'.L (by omega), fz'.R]; exact ⟨r1, r2, r3⟩
  have f79 : Dn hz 79 80 := fun a a0 a1 k => by
    obtain ⟨r1, r2, r3⟩ := Dn.cl q79_39 (fun k => by simp [IT]; try omega) (fun k => by simp [RT]) a a0 a1 k
    rw [fz'.I (by omega), fz'.L (by omega), fz'.R]; exact ⟨r1, r2, r3⟩
  have f80 : Dn hz 80 81 := fun a a0 a1 k => by
    obtain ⟨r1, r2, r3⟩ := Dn.cl q80_39 (fun k => by simp [IT]; try omega) (fun k => by simp [RT]) a a0 a1 k
    rw [fz'.I (by omega), fz'.L (by omega), fz'.R]; exact ⟨r1, r2, r3⟩
  have f81 : Dn hz 81 82 := fun a a0 a1 k => by
    obtain ⟨r1, r2, r3⟩ := Dn.cl q81_39 (fun k => by simp [IT]; try omega) (fun k => by simp [RT]) a a0 a1 k
    rw [fz'.I (by omega), fz'.L (by omega), fz'.R]; exact ⟨r1, r2, r3⟩
  have f82 : Dn hz 82 83 := fun a a0 a1 k => by
    obtain ⟨r1, r2, r3⟩ := Dn.cl q82_39 (fun k => by simp [IT]; try omega) (fun k => by simp [RT]) a a0 a1 k
    rw [fz'.I (by omega), fz'.L (by omega), fz'.R]; exact ⟨r1, r2, r3⟩
  have f83 : Dn hz 83 84 := fun a a0 a1 k => by
    obtain ⟨r1, r2, r3⟩ := Dn.cl q83_39 (fun k => by simp [IT]; try omega) (fun k => by simp [RT]) a a0 a1 k
    rw [fz'.I (by omega), fz'.L (by omega), fz'.R]; exact ⟨r1, r2, r3⟩
  have f84 : Dn hz 84 85 := fun a a0 a1 k => by
    obtain ⟨r1, r2, r3⟩ := Dn.cl q84_39 (fun k => by simp [IT]; try omega) (fun k => by simp [RT]) a a0 a1 k
    rw [fz'.I (by omega), fz'.L (by omega), fz'.R]; exact ⟨r1, r2, r3⟩
  have f85 : Dn hz 85 86 := fun a a0 a1 k => by
    obtain ⟨r1, r2, r3⟩ := Dn.cl q85_39 (fun k => by simp [IT]; try omega) (fun k => by simp [RT]) a a0 a1 k
    rw [fz'.I (by omega), fz'.L (by omega), fz'.R]; exact ⟨r1, r2, r3⟩
  have f86 : Dn hz 86 87 := fun a a0 a1 k => by
    obtain ⟨r1, r2, r3⟩ := Dn.cl q86_39 (fun k => by simp [IT]; try omega) (fun k => by simp [RT]) a a0 a1 k
    rw [fz'.I (by omega), fz'.L (by omega), fz'.R]; exact ⟨r1, r2, r3⟩
  have f87 : Dn hz 87 88 := fun a a0 a1 k => by
    obtain ⟨r1, r2, r3⟩ := Dn.cl q87_39 (fun k => by simp [IT]; try (repeat' split) <;> omega) (fun k => by simp [RT]) a a0 a1 k
    rw [fz'.I (by omega), fz'.L (by omega), fz'.R]; exact ⟨r1, r2, r3⟩
  have f88 : Dn hz 88 89 := fun a a0 a1 k => by
    obtain ⟨r1, r2, r3⟩ := Dn.cl q88_39 (fun k => by simp [IT]; try omega) (fun k => by simp [RT]) a a0 a1 k
    rw [fz'.I (by omega), fz'.L (by omega), fz'.R]; exact ⟨r1, r2, r3⟩
  have f89 : Dn hz 89 90 := fun a a0 a1 k => by
    obtain ⟨r1, r2, r3⟩ := Dn.cl q89_39 (fun k => by simp [IT]; try omega) (fun k => by simp [RT]) a a0 a1 k
    rw [fz'.I (by omega), fz'.L (by omega), fz'.R]; exact ⟨r1, r2, r3⟩
  have f73 : Dn hz 73 74 := fun a a0 a1 k => by
    have e : a = 73 := by omega
    subst e
    refine ⟨fun _ => ?_, fun _ => ?_, ?_⟩
    · rw [pz k]
      show plR (fun _ => 0) k = plS k
      by_cases c : (0 : Int) ≤ k ∧ (k : Int) < 1115
      · unfold plR; rw [if_pos c]
      · unfold plR plS
        rw [if_neg c]
        simp (disch := omega) only [if_neg]
    · rename_i oy
      unfold okY at oy
      omega
    · rw [fz'.R]; exact (q73_39 k).2.2
  refine ⟨hz, ?_, (b39.up (by omega)).fr fz' (fun a k z => by omega), (((((((((((((((((((wn.uc (fz'.uc (c := 72) (fun a k z => by omega)) (by omega)).ap f72).ap f73).ap f74).ap f75).ap f76).ap f77).ap f78).ap f79).ap f80).ap f81).ap f82).ap f83).ap f84).ap f85).ap f86).ap f87).ap f88).ap f89), u39.tr (fz'.uc (fun a k z => by omega))⟩
  rw [st39]
  simp (disch := omega) only [Mod_init_168, Mod_init_175, wr_id, ix_id, okx, if_pos, if_neg, Int.toNat_of_nonneg, bak_v, bak_n, wr_b01, wr_bt, b01_or, b01_0, b01_1, lc_lt0, lc_gt0, lc_eq0, wl_wr, wr_wr, wl_id, true_and, and_true, true_or, or_true, not_true_eq_false, not_false_eq_true, nc0, nc1, nc2, nc3, nc4, nc5, nc6, nc7, nc8, nc9, nc10, nc11, nc12, nc13, nc14, nc15, nc16, nc17, nc18, nc19, nc20, nc21, nc22, nc23, nc35, nc47, nc59, nc60, nc61, nc73, nc74, nc214, nc215, nc1115, nc2230, nc3345, if_true, if_false, Int.reduceToNat, kz, rz, k73, ez]
