/-! the start; Pure1 -/
theorem bd_h0 (L : Nat) (xs : Nat → Int32) : Bd L (h0 L xs) 6 6 := by
  have e0 : (txL.getD 0 []).length = 88 := by decide +kernel
  have e1 : (txL.getD 1 []).length = 12 := by decide +kernel
  have e2 : (txL.getD 2 []).length = 89 := by decide +kernel
  refine ⟨?_, fun a ha k => ⟨?_, rfl, rfl⟩⟩
  · show [(99, 0), (30, L), (40, (txL.getD 0 []).length), (40, (txL.getD 1 []).length), (40, (txL.getD 2 []).length), (99, 0)] = _
    rw [e0, e1, e2]
    rfl
  · show (if a = 1 then (xs k).toInt else if a = 2 then (txL.getD 0 []).getD k 0 else if a = 3 then (txL.getD 1 []).getD k 0 else if a = 4 then (txL.getD 2 []).getD k 0 else 0) = 0
    rw [if_neg (by omega), if_neg (by omega), if_neg (by omega), if_neg (by omega)]
theorem inv_0 {L : Nat} {xs : Nat → Int32} {h : Hp} (b : Bd L h 90 90) (dn : Dn h 6 90) (u : Uc 6 (h0 L xs) h) : INV (SH L) L xs h := by
  have I : ∀ a k, 6 ≤ a → a < 90 → okI a k → hI h a k = IT a k := fun a k a0 a1 o => (dn a a0 a1 k).1 o
  have R : ∀ a k, 6 ≤ a → a < 90 → hR h a k = RT a k := fun a k a0 a1 => (dn a a0 a1 k).2.2
  have K : ∀ a, sK h a = ((SH L).getD a (99, 0)).1 := fun a => (b.k a).trans rfl
  have N : ∀ a, sN h a = ((SH L).getD a (99, 0)).2 := fun a => (b.n a).trans rfl
  have win : ∀ w, w = 14 ∨ w = 20 ∨ w = 44 ∨ w = 52 → WinAt h w := fun w hw => by
    rcases hw with e | e | e | e <;> subst e <;> exact ⟨(K _).trans rfl, ⟨(R _ 0 (by omega) (by omega)).trans rfl, (R _ 1 (by omega) (by omega)).trans rfl, (R _ 2 (by omega) (by omega)).trans rfl, (R _ 3 (by omega) (by omega)).trans rfl, (R _ 4 (by omega) (by omega)).trans rfl⟩, fun k k1 k2 => by
      have : k = 1 ∨ k = 2 ∨ k = 3 ∨ k = 4 ∨ k = 5 := by omega
      rcases this with e | e | e | e | e <;> subst e <;> exact ⟨(K _).trans rfl, (N _).trans rfl⟩⟩
  have han : ∀ w, w = 26 ∨ w = 28 ∨ w = 50 ∨ w = 58 → HangAt h w := fun w hw => by
    rcases hw with e | e | e | e <;> subst e <;> exact ⟨(K _).trans rfl, (R _ 0 (by omega) (by omega)).trans rfl, (K _).trans rfl, (N _).trans rfl⟩
  have his : HisAt h := ⟨(K _).trans rfl, (R _ 0 (by omega) (by omega)).trans rfl, (K _).trans rfl, (N _).trans rfl⟩
  have r : ∀ a k v, 6 ≤ a → a < 90 → RT a k = v → hR h a k = v := fun a k v a0 a1 e => (R a k a0 a1).trans e
  have cr : CR h 14 := by
    refine ⟨Or.inl rfl, ⟨r 6 5 14 (by omega) (by omega) rfl, r 6 6 20 (by omega) (by omega) rfl⟩, ?_, ?_, ?_, fun t ht => ?_, ⟨win 14 (by omega), win 20 (by omega), win 44 (by omega), win 52 (by omega)⟩, ⟨han 26 (by omega), han 28 (by omega), han 50 (by omega), han 58 (by omega)⟩, his⟩
    · unfold CRr
      simp (disch := omega) only [R]
      decide
    · unfold CRk
      simp only [K]
      exact ⟨rfl, rfl, rfl, rfl, rfl, rfl, rfl, rfl, rfl, rfl, rfl, rfl, rfl, rfl, rfl, rfl, rfl, rfl, rfl, rfl, rfl, rfl, rfl⟩
    · unfold CRn
      simp only [N]
      exact ⟨rfl, rfl, rfl, rfl, rfl, rfl, rfl, rfl, rfl, rfl, rfl, rfl, rfl, rfl, rfl, rfl, rfl, rfl, rfl, rfl, rfl, rfl, rfl⟩
    · have : t = 0 ∨ t = 1 ∨ t = 2 ∨ t = 3 := by omega
      rcases this with e | e | e | e <;> subst e <;> exact ⟨(R _ _ (by omega) (by omega)).trans rfl, (K _).trans rfl, (R _ 0 (by omega) (by omega)).trans rfl, (K _).trans rfl, (N _).trans rfl⟩
  have oi : ∀ a k, (a < 14 ∨ (30 ≤ a ∧ a ≤ 43) ∨ 60 ≤ a) → okI a k := fun a k ha => by unfold okI; omega
  have st : STR h := by
    have e0 : (txL.getD 0 []).length = 88 := by decide +kernel
    refine ⟨⟨(K _).trans rfl, (K _).trans rfl, (K _).trans rfl⟩, ⟨(N _).trans rfl, (N _).trans rfl, (N _).trans rfl⟩, fun k => (u 2 (by omega) k).1.trans rfl, fun k => (u 3 (by omega) k).1.trans rfl, fun k => (u 4 (by omega) k).1.trans rfl⟩
  have mr : MR h := by
    refine ⟨(K _).trans rfl, ?_, ?_, ?_⟩
    · unfold MRr
      simp (disch := omega) only [R]
      decide
    · unfold MRk
      simp only [K]
      exact ⟨rfl, rfl, rfl, rfl, rfl, rfl, rfl, rfl, rfl, rfl, rfl, rfl, rfl, rfl, rfl, rfl, rfl⟩
    · unfold MRn
      simp only [N]
      exact ⟨rfl, rfl, rfl, rfl, rfl, rfl, rfl, rfl, rfl, rfl, rfl, rfl, rfl, rfl, rfl, rfl, rfl⟩
  have z1 : plS 1 = 0 := rfl
  have z2 : plS 2 = 0 := rfl
  have wv : WV h 14 plS := by
    have f : ∀ k, 5 ≤ k → k ≤ 14 → hI h 14 k = IT 14 k := fun k k0 k1 => I 14 k (by omega) (by omega) (by unfold okI; omega)
    refine ⟨win 14 (by omega), ⟨(f 5 (by omega) (by omega)).trans rfl, (f 6 (by omega) (by omega)).trans rfl, (f 7 (by omega) (by omega)).trans rfl, (f 8 (by omega) (by omega)).trans rfl, (f 9 (by omega) (by omega)).trans rfl, (f 10 (by omega) (by omega)).trans rfl, (f 11 (by omega) (by omega)).trans rfl, (f 12 (by omega) (by omega)).trans rfl, (f 13 (by omega) (by omega)).trans rfl, (f 14 (by omega) (by omega)).trans rfl⟩, fun k hk => by omega, fun k hk => by omega, fun k hk => ?_, fun k hk => ?_⟩
    · refine (I 17 k (by omega) (by omega) (by unfold okI; omega)).trans ?_
      simp (disch := omega) only [plS, if_neg]
      rfl
    · refine (I 18 k (by omega) (by omega) (by unfold okI; omega)).trans ?_
      simp (disch := omega) only [plS, if_neg]
      rfl
  have hv : HV h 26 plS := by
    refine ⟨han 26 (by omega), (I 26 1 (by omega) (by omega) (by unfold okI; omega)).trans rfl, (I 26 2 (by omega) (by omega) (by unfold okI; omega)).trans rfl, fun k hk => ?_⟩
    refine (I 27 k (by omega) (by omega) (by unfold okI; omega)).trans ?_
    simp (disch := omega) only [plS, if_neg, if_pos]
    simp [IT, hk]
  have hs : HisV h plS := by
    have a1 : hI h 30 1 = 0 := (I 30 1 (by omega) (by omega) (oi _ _ (by omega))).trans rfl
    have z73 : plS 73 = 0 := rfl
    refine ⟨his, (I 30 2 (by omega) (by omega) (oi _ _ (by omega))).trans rfl, by omega, by omega, fun j j0 j1 => by omega⟩
  refine ⟨b.1.trans rfl, ⟨(K _).trans rfl, (N _).trans rfl, fun j => (u 1 (by omega) j).1.trans rfl⟩, 14, plS, fun _ => 0, fun _ => 0, fun z => if z < 4 then -1 else 0, fun _ => 0, fun _ => 0, 0, 0, -1, ⟨⟨cr, wv, fun k hk => by omega, hv, hs, ⟨Or.inl ((I 60 3 (by omega) (by omega) (oi _ _ (by omega))).trans rfl), Or.inl ((I 60 7 (by omega) (by omega) (oi _ _ (by omega))).trans rfl)⟩⟩, ⟨fun t ht => ⟨fun _ => ?_, fun z => ?_⟩, fun k hk => (I 7 k (by omega) (by omega) (oi _ _ (by omega))).trans rfl, ⟨(I 6 1 (by omega) (by omega) (oi _ _ (by omega))).trans rfl, (I 6 3 (by omega) (by omega) (oi _ _ (by omega))).trans rfl, (I 6 4 (by omega) (by omega) (oi _ _ (by omega))).trans rfl⟩, (I 67 0 (by omega) (by omega) (oi _ _ (by omega))).trans rfl, st⟩, fun i hi => ⟨(I 43 i (by omega) (by omega) (oi _ _ (by omega))).trans rfl, fun z => absurd z (show ¬ (0 : Int) = 1 by decide)⟩⟩, ⟨⟨mr, fun k => (I 73 k (by omega) (by omega) (oi _ _ (by omega))).trans rfl⟩, fun k => (I 74 k (by omega) (by omega) (oi _ _ (by omega))).trans rfl, fun k => (I 75 k (by omega) (by omega) (oi _ _ (by omega))).trans rfl, ⟨(I 72 5 (by omega) (by omega) (oi _ _ (by omega))).trans rfl, (I 72 13 (by omega) (by omega) (oi _ _ (by omega))).trans rfl, (I 72 14 (by omega) (by omega) (oi _ _ (by omega))).trans rfl⟩, fun k => ?_, fun k => (I 88 k (by omega) (by omega) (oi _ _ (by omega))).trans rfl, fun k => (dn 89 (by omega) (by omega) k).2.1 (by unfold okY; omega)⟩, ⟨⟨PG_pl.1, PG_pl.2.1⟩, ⟨by decide, fun j j0 j1 => by have : plS 73 = 0 := rfl; omega⟩, fun i hi => ⟨Or.inl rfl, fun z => absurd z (show ¬ (0 : Int) = 1 by decide)⟩, ⟨fun t t0 t1 => ?_, fun k => (by decide : -9223372036854775808 ≤ (0 : Int) ∧ (0 : Int) ≤ 9223372036854775807)⟩, fun k => (by decide : 0 ≤ (0 : Int) ∧ (0 : Int) ≤ 255), by omega⟩⟩
  · have : t = 0 ∨ t = 1 ∨ t = 2 ∨ t = 3 := by omega
    rcases this with e | e | e | e <;> subst e <;> exact (I _ 2 (by omega) (by omega) (oi _ _ (by omega))).trans rfl
  · exact absurd (show (if (t : Int) < 4 then (-1 : Int) else 0) = -1 by rw [if_pos (by omega)]) z
  · refine (I 87 k (by omega) (by omega) (oi _ _ (by omega))).trans ?_
    show (if k < 4 then (-1 : Int) else 0) = if (k : Int) < 4 then -1 else 0
    by_cases c : k < 4
    · rw [if_pos c, if_pos (by omega)]
    · rw [if_neg c, if_neg (by omega)]
  · show -1 ≤ (if t < 4 then (-1 : Int) else 0) ∧ (if t < 4 then (-1 : Int) else 0) ≤ 3 ∧ 0 ≤ (0 : Int) ∧ (0 : Int) ≤ 40
    split <;> omega
theorem sh_len (L : Nat) : (SH L).length = 90 := rfl
theorem sh_sum (L : Nat) : ((SH L).map (fun x => x.2)).sum = L + 22026 := by
  have e : (SH L).map (fun x => x.2) = 0 :: L :: ((SH 0).drop 2).map (fun x => x.2) := rfl
  have e2 : (((SH 0).drop 2).map (fun x => x.2)).sum = 22026 := by decide +kernel
  rw [e, List.sum_cons, List.sum_cons, e2]
  omega
theorem sh_sum6 (L : Nat) : (((SH L).take 6).map (fun x => x.2)).sum = L + 189 := by
  simp only [SH, List.take, List.map, List.sum_cons, List.sum_nil]
  omega
theorem pure1 (L : Nat) (xs : Nat → Int32) (hL : L ≤ 3072) : Pure1 L xs := by
  have b := bd_h0 L xs
  have l0 := b.l (by omega)
  obtain ⟨b1, s1⟩ := b.nw (kd := 10) (m := 19) (by omega) (by omega) rfl
  obtain ⟨h2, c2, b2, d2, u2⟩ := i_hook (d := 196) b1
  have c2' : cal 200 m_Hook_init [.inr (.inr 6)] (nwH (h0 L xs) 10 19) = some (.inl 0, h2) := c2
  have l2 := b2.l (by omega)
  have k1 : sK (nwH (h0 L xs) 10 19) 6 = 10 := (b1.k 6).trans rfl
  obtain ⟨b3, s3⟩ := b2.nw (kd := 11) (m := 36) (by omega) (by omega) rfl
  have k3 : sK (nwH h2 11 36) 72 = 11 := (b3.k 72).trans rfl
  obtain ⟨h4, c4, b4, d4, u4⟩ := i_mod (d := 196) b3 (d2.sm s3)
  have c4' : cal 200 m_Mod_init [.inr (.inr 72)] (nwH h2 11 36) = some (.inl 0, h4) := c4
  have us : Uc 6 (h0 L xs) h4 := (Uc.tr (fun a _ k => s1 a k) u2).tr (Uc.tr (fun a _ k => s3 a k) (u4.mo (by omega)))
  have iv := inv_0 b4 d4 us
  obtain ⟨h5, e5, s5⟩ := lw_go hL (L + 1) 0 h4 (by omega) (by omega) (by omega) iv
  refine ⟨h5, ?_, ?_, ?_⟩
  · simp (disch := omega) only [Lw_law_0, Lw_law_3, wr_id, ix_id, okx, if_pos, if_neg, Int.toNat_of_nonneg, bak_v, bak_n, wr_b01, wr_bt, b01_or, b01_0, b01_1, lc_lt0, lc_gt0, lc_eq0, wl_wr, wr_wr, wl_id, true_and, and_true, true_or, or_true, not_true_eq_false, not_false_eq_true, nc0, nc1, nc2, nc3, nc4, nc5, nc6, nc7, nc8, nc9, nc10, nc11, nc12, nc13, nc14, nc15, nc16, nc17, nc18, nc19, nc20, nc21, nc22, nc23, nc35, nc47, nc59, nc60, nc61, nc73, nc74, nc214, nc215, nc1115, nc2230, nc3345, if_true, if_false, Int.reduceToNat, l0, k1, c2']
    simp (disch := omega) only [Lw_law_7, Lw_law_11, Lw_law_15, wr_id, ix_id, okx, if_pos, if_neg, Int.toNat_of_nonneg, bak_v, bak_n, wr_b01, wr_bt, b01_or, b01_0, b01_1, lc_lt0, lc_gt0, lc_eq0, wl_wr, wr_wr, wl_id, true_and, and_true, true_or, or_true, not_true_eq_false, not_false_eq_true, nc0, nc1, nc2, nc3, nc4, nc5, nc6, nc7, nc8, nc9, nc10, nc11, nc12, nc13, nc14, nc15, nc16, nc17, nc18, nc19, nc20, nc21, nc22, nc23, nc35, nc47, nc59, nc60, nc61, nc73, nc74, nc214, nc215, nc1115, nc2230, nc3345, if_true, if_false, Int.reduceToNat, l2, k3, c4']
    exact e5
  · rw [s5, sh_len]
    omega
  · unfold slt
    rw [s5, b.1, sh_sum, sh_sum6]
    omega
