/-! the class: windows and hangings copied and emptied, trays made and written, bits counted -/
def plS : Int → Int := fun k => if k = 3 then 1 else if k = 4 then 5 else if k = 5 then 2 else if k = 8 then 10 else if 61 ≤ k ∧ k < 73 then -1 else 0
theorem c_wTake {d a b : Nat} {h : Hp} (ha : WinAt h a) (hb : WinAt h b) (hd : a + 5 < b ∨ b + 5 < a) : ∃ h', cal (d+1) m_Window_takeFrom [.inr (.inr (a)), .inr (.inr (b))] (h) = some (.inl 0, h') ∧ (∀ j : Nat, 5 ≤ j → j ≤ 14 → hI h' a j = hI h b j) ∧ (∀ k : Nat, k < 12 → hI h' (a + 1) k = hI h (b + 1) k) ∧ (∀ k : Nat, k < 12 → hI h' (a + 2) k = hI h (b + 2) k) ∧ (∀ k : Nat, k < 12 → hI h' (a + 3) k = hI h (b + 3) k) ∧ (∀ k : Nat, k < 12 → hI h' (a + 4) k = hI h (b + 4) k) ∧ (∀ k : Nat, k < 12 → hI h' (a + 5) k = hI h (b + 5) k) ∧ Fr (fun c _ => a ≤ c ∧ c ≤ a + 5) h h' := by
  have f5 : Fr (fun c _ => a ≤ c ∧ c ≤ a + 5) h (cpI (cpI (cpI (cpI (cpI h (b + 1) 0 (a + 1) 0 12) (b + 2) 0 (a + 2) 0 12) (b + 3) 0 (a + 3) 0 12) (b + 4) 0 (a + 4) 0 12) (b + 5) 0 (a + 5) 0 12) := Fr.cpI (Fr.cpI (Fr.cpI (Fr.cpI (Fr.cpI Fr.rf (fun k _ _ => by omega)) (fun k _ _ => by omega)) (fun k _ _ => by omega)) (fun k _ _ => by omega)) (fun k _ _ => by omega)
  have c1 : ∀ k : Nat, k < 12 → ∀ i : Nat, 1 ≤ i → i ≤ 5 → hI (cpI (cpI (cpI (cpI (cpI h (b + 1) 0 (a + 1) 0 12) (b + 2) 0 (a + 2) 0 12) (b + 3) 0 (a + 3) 0 12) (b + 4) 0 (a + 4) 0 12) (b + 5) 0 (a + 5) 0 12) (a + i) k = hI h (b + i) k := by
    intro k hk i i1 i5
    have : i = 1 ∨ i = 2 ∨ i = 3 ∨ i = 4 ∨ i = 5 := by omega
    rcases this with e | e | e | e | e <;> subst e <;> simp (disch := omega) only [hI_cpI, if_pos, if_neg, true_and, Nat.zero_add, Nat.sub_zero]
  generalize hq : cpI (cpI (cpI (cpI (cpI h (b + 1) 0 (a + 1) 0 12) (b + 2) 0 (a + 2) 0 12) (b + 3) 0 (a + 3) 0 12) (b + 4) 0 (a + 4) 0 12) (b + 5) 0 (a + 5) 0 12 = h5 at *
  have fb : ∀ j, hI h5 b j = hI h b j := fun j => f5.I (by omega)
  have kb : sK h5 b = 9 := by rw [f5.K]; exact hb.k
  have ka : sK h5 a = 9 := by rw [f5.K]; exact ha.k
  have st : cal (d+1) m_Window_takeFrom [.inr (.inr (a)), .inr (.inr (b))] (h) = EX (d) m_Window_takeFrom 75 [(0, .inr (.inr (a))), (1, .inr (.inr (b)))] [] (h5) := by
    show EX (d) m_Window_takeFrom 0 [(0, .inr (.inr (a))), (1, .inr (.inr (b)))] [] (h) = _
    simp (disch := omega) only [Window_takeFrom_0, Window_takeFrom_15, Window_takeFrom_30, Window_takeFrom_45, Window_takeFrom_60, wr_id, ix_id, okx, if_pos, if_neg, Int.toNat_of_nonneg, bak_v, bak_n, wr_b01, wr_bt, b01_or, b01_0, b01_1, lc_lt0, lc_gt0, lc_eq0, wl_wr, wr_wr, wl_id, true_and, and_true, true_or, or_true, not_true_eq_false, not_false_eq_true, nc0, nc1, nc2, nc3, nc4, nc5, nc6, nc7, nc8, nc9, nc10, nc11, nc12, nc13, nc14, nc15, nc16, nc17, nc18, nc19, nc20, nc21, nc22, nc23, nc35, nc47, nc59, nc60, nc61, nc73, nc74, nc214, nc215, nc1115, nc2230, nc3345, if_true, if_false, Int.reduceToNat, ha.k, ha.r0, ha.r1, ha.r2, ha.r3, ha.r4, hb.k, hb.r0, hb.r1, hb.r2, hb.r3, hb.r4, sK_cpI, hR_cpI, sN_cpI, ha.k1, ha.k2, ha.k3, ha.k4, ha.k5, hb.k1, hb.k2, hb.k3, hb.k4, hb.k5, ha.n1, ha.n2, ha.n3, ha.n4, ha.n5, hb.n1, hb.n2, hb.n3, hb.n4, hb.n5, hq]
  have fs : Fr (fun c _ => c = a) h5 (pI (pI (pI (pI (pI (pI (pI (pI (pI (pI h5 a 5 (hI h b 5)) a 6 (hI h b 6)) a 7 (hI h b 7)) a 8 (hI h b 8)) a 9 (hI h b 9)) a 10 (hI h b 10)) a 11 (hI h b 11)) a 12 (hI h b 12)) a 13 (hI h b 13)) a 14 (hI h b 14)) := Fr.pI (Fr.pI (Fr.pI (Fr.pI (Fr.pI (Fr.pI (Fr.pI (Fr.pI (Fr.pI (Fr.pI Fr.rf (by rfl)) (by rfl)) (by rfl)) (by rfl)) (by rfl)) (by rfl)) (by rfl)) (by rfl)) (by rfl)) (by rfl)
  refine ⟨pI (pI (pI (pI (pI (pI (pI (pI (pI (pI h5 a 5 (hI h b 5)) a 6 (hI h b 6)) a 7 (hI h b 7)) a 8 (hI h b 8)) a 9 (hI h b 9)) a 10 (hI h b 10)) a 11 (hI h b 11)) a 12 (hI h b 12)) a 13 (hI h b 13)) a 14 (hI h b 14), ?_, fun j j0 j1 => ?_, fun k hk => ?_, fun k hk => ?_, fun k hk => ?_, fun k hk => ?_, fun k hk => ?_, f5.tr (fs.mo (fun c k z => by omega))⟩
  · refine st.trans ?_
    simp (disch := omega) only [Window_takeFrom_75, Window_takeFrom_83, Window_takeFrom_91, Window_takeFrom_99, Window_takeFrom_107, Window_takeFrom_115, Window_takeFrom_123, Window_takeFrom_131, Window_takeFrom_139, Window_takeFrom_147, Window_takeFrom_155, wr_id, ix_id, okx, if_pos, if_neg, Int.toNat_of_nonneg, bak_v, bak_n, wr_b01, wr_bt, b01_or, b01_0, b01_1, lc_lt0, lc_gt0, lc_eq0, wl_wr, wr_wr, wl_id, true_and, and_true, true_or, or_true, not_true_eq_false, not_false_eq_true, nc0, nc1, nc2, nc3, nc4, nc5, nc6, nc7, nc8, nc9, nc10, nc11, nc12, nc13, nc14, nc15, nc16, nc17, nc18, nc19, nc20, nc21, nc22, nc23, nc35, nc47, nc59, nc60, nc61, nc73, nc74, nc214, nc215, nc1115, nc2230, nc3345, if_true, if_false, Int.reduceToNat, sK_pI, ka, kb, hI_pI, fb]
  · have : j = 5 ∨ j = 6 ∨ j = 7 ∨ j = 8 ∨ j = 9 ∨ j = 10 ∨ j = 11 ∨ j = 12 ∨ j = 13 ∨ j = 14 := by omega
    rcases this with e | e | e | e | e | e | e | e | e | e <;> subst e <;> simp [hI_pI]
  · rw [fs.I (by omega)]; exact c1 k hk 1 (by omega) (by omega)
  · rw [fs.I (by omega)]; exact c1 k hk 2 (by omega) (by omega)
  · rw [fs.I (by omega)]; exact c1 k hk 3 (by omega) (by omega)
  · rw [fs.I (by omega)]; exact c1 k hk 4 (by omega) (by omega)
  · rw [fs.I (by omega)]; exact c1 k hk 5 (by omega) (by omega)
theorem c_winTake {d a b : Nat} {h : Hp} {S : Int → Int} (ha : WinAt h a) (wv : WV h b S) (rv : RV h b S) (g : GdW S) (hd : a + 5 < b ∨ b + 5 < a) : ∃ h', cal (d+1) m_Window_takeFrom [.inr (.inr (a)), .inr (.inr (b))] (h) = some (.inl 0, h') ∧ WV h' a S ∧ RV h' a S ∧ Fr (fun c _ => a ≤ c ∧ c ≤ a + 5) h h' := by
  obtain ⟨h', e, k0, k1, k2, k3, k4, k5, f⟩ := c_wTake (d := d) ha wv.1 hd
  have g1 := g.1
  have g2 := g.2.1
  refine ⟨h', e, ⟨ha.fr f, ?_, fun k hk => ?_, fun k hk => ?_, fun k hk => ?_, fun k hk => ?_⟩, fun k hk r r0 r1 => ?_, f⟩
  · unfold WVf
    rw [k0 5 (by omega) (by omega), k0 6 (by omega) (by omega), k0 7 (by omega) (by omega), k0 8 (by omega) (by omega), k0 9 (by omega) (by omega), k0 10 (by omega) (by omega), k0 11 (by omega) (by omega), k0 12 (by omega) (by omega), k0 13 (by omega) (by omega), k0 14 (by omega) (by omega)]
    exact wv.2.1
  · rw [k1 k (by omega)]; exact wv.pk k hk
  · rw [k2 k (by omega)]; exact wv.qk k hk
  · rw [k3 k hk]; exact wv.hk k hk
  · rw [k4 k hk]; exact wv.rk k hk
  · rw [k5 k (by omega)]; exact rv k hk r r0 r1
theorem c_winEmpty {d w : Nat} {h : Hp} (hw : WinAt h w) : ∃ h', cal (d+2) m_Window_empty [.inr (.inr (w))] (h) = some (.inl 0, h') ∧ WV h' w plS ∧ (∀ k : Nat, k < 12 → hI h' (w + 1) k = 0) ∧ (∀ k : Nat, k < 12 → hI h' (w + 2) k = 0) ∧ (∀ k : Nat, k < 12 → hI h' (w + 5) k = 0) ∧ Fr (fun c _ => w ≤ c ∧ c ≤ w + 5) h h' := by
  have f5 : Fr (fun c _ => w ≤ c ∧ c ≤ w + 5) h (flI (flI (flI (flI (flI h (w + 1) 0 12) (w + 2) 0 12) (w + 3) 0 12) (w + 4) 0 12) (w + 5) 0 12) := Fr.flI (Fr.flI (Fr.flI (Fr.flI (Fr.flI Fr.rf (fun k _ => by omega)) (fun k _ => by omega)) (fun k _ => by omega)) (fun k _ => by omega)) (fun k _ => by omega)
  have c1 : ∀ k : Nat, k < 12 → ∀ i : Nat, 1 ≤ i → i ≤ 5 → hI (flI (flI (flI (flI (flI h (w + 1) 0 12) (w + 2) 0 12) (w + 3) 0 12) (w + 4) 0 12) (w + 5) 0 12) (w + i) k = 0 := by
    intro k hk i i1 i5
    have : i = 1 ∨ i = 2 ∨ i = 3 ∨ i = 4 ∨ i = 5 := by omega
    rcases this with e | e | e | e | e <;> subst e <;> simp (disch := omega) only [hI_flI, if_pos, if_neg, true_and]
  have e1 := fill_s d (w + 1) 0 h hw.k1 (by rw [hw.n1]; omega)
  rw [hw.n1] at e1
  have e2 := fill_s d (w + 2) 0 (flI h (w + 1) 0 12) hw.k2 (by rw [sN_flI, hw.n2]; omega)
  rw [sN_flI, hw.n2] at e2
  have e3 := fill_s d (w + 3) 0 (flI (flI h (w + 1) 0 12) (w + 2) 0 12) hw.k3 (by rw [sN_flI, sN_flI, hw.n3]; omega)
  rw [sN_flI, sN_flI, hw.n3] at e3
  have e4 := fill_s d (w + 4) 0 (flI (flI (flI h (w + 1) 0 12) (w + 2) 0 12) (w + 3) 0 12) hw.k4 (by rw [sN_flI, sN_flI, sN_flI, hw.n4]; omega)
  rw [sN_flI, sN_flI, sN_flI, hw.n4] at e4
  have e5 := fill_s d (w + 5) 0 (flI (flI (flI (flI h (w + 1) 0 12) (w + 2) 0 12) (w + 3) 0 12) (w + 4) 0 12) hw.k5 (by rw [sN_flI, sN_flI, sN_flI, sN_flI, hw.n5]; omega)
  rw [sN_flI, sN_flI, sN_flI, sN_flI, hw.n5] at e5
  have st : cal (d+2) m_Window_empty [.inr (.inr (w))] (h) = EX (d+1) m_Window_empty 40 [(0, .inr (.inr (w)))] [] (flI (flI (flI (flI (flI h (w + 1) 0 12) (w + 2) 0 12) (w + 3) 0 12) (w + 4) 0 12) (w + 5) 0 12) := by
    show EX (d+1) m_Window_empty 0 [(0, .inr (.inr (w)))] [] (h) = _
    simp (disch := omega) only [Window_empty_0, Window_empty_8, Window_empty_16, Window_empty_24, Window_empty_32, wr_id, ix_id, okx, if_pos, if_neg, Int.toNat_of_nonneg, bak_v, bak_n, wr_b01, wr_bt, b01_or, b01_0, b01_1, lc_lt0, lc_gt0, lc_eq0, wl_wr, wr_wr, wl_id, true_and, and_true, true_or, or_true, not_true_eq_false, not_false_eq_true, nc0, nc1, nc2, nc3, nc4, nc5, nc6, nc7, nc8, nc9, nc10, nc11, nc12, nc13, nc14, nc15, nc16, nc17, nc18, nc19, nc20, nc21, nc22, nc23, nc35, nc47, nc59, nc60, nc61, nc73, nc74, nc214, nc215, nc1115, nc2230, nc3345, if_true, if_false, Int.reduceToNat, hw.k, hw.r0, hw.r1, hw.r2, hw.r3, hw.r4, sK_flI, hR_flI, e1, e2, e3, e4, e5]
  generalize hq : flI (flI (flI (flI (flI h (w + 1) 0 12) (w + 2) 0 12) (w + 3) 0 12) (w + 4) 0 12) (w + 5) 0 12 = h5 at *
  have ka : sK h5 w = 9 := by rw [f5.K]; exact hw.k
  have fs : Fr (fun c _ => c = w) h5 (pI (pI (pI (pI (pI (pI (pI (pI (pI (pI h5 w 5 0) w 6 0) w 7 0) w 8 1) w 9 5) w 10 2) w 11 0) w 12 0) w 13 10) w 14 0) := Fr.pI (Fr.pI (Fr.pI (Fr.pI (Fr.pI (Fr.pI (Fr.pI (Fr.pI (Fr.pI (Fr.pI Fr.rf (by rfl)) (by rfl)) (by rfl)) (by rfl)) (by rfl)) (by rfl)) (by rfl)) (by rfl)) (by rfl)) (by rfl)
  have ft : Fr (fun c _ => w ≤ c ∧ c ≤ w + 5) h (pI (pI (pI (pI (pI (pI (pI (pI (pI (pI h5 w 5 0) w 6 0) w 7 0) w 8 1) w 9 5) w 10 2) w 11 0) w 12 0) w 13 10) w 14 0) := f5.tr (fs.mo (fun c k z => by omega))
  have cz : ∀ i : Nat, 1 ≤ i → i ≤ 5 → ∀ k : Nat, k < 12 → hI (pI (pI (pI (pI (pI (pI (pI (pI (pI (pI h5 w 5 0) w 6 0) w 7 0) w 8 1) w 9 5) w 10 2) w 11 0) w 12 0) w 13 10) w 14 0) (w + i) k = 0 := fun i i0 i1 k hk => by rw [fs.I (by omega)]; exact c1 k hk i i0 i1
  refine ⟨_, ?_, ⟨hw.fr ft, ?_, fun k hk => ?_, fun k hk => ?_, fun k hk => ?_, fun k hk => ?_⟩, cz 1 (by omega) (by omega), cz 2 (by omega) (by omega), cz 5 (by omega) (by omega), ft⟩
  · refine st.trans ?_
    simp (disch := omega) only [Window_empty_40, Window_empty_45, Window_empty_50, Window_empty_55, Window_empty_60, Window_empty_65, Window_empty_70, Window_empty_75, Window_empty_80, Window_empty_86, Window_empty_91, wr_id, ix_id, okx, if_pos, if_neg, Int.toNat_of_nonneg, bak_v, bak_n, wr_b01, wr_bt, b01_or, b01_0, b01_1, lc_lt0, lc_gt0, lc_eq0, wl_wr, wr_wr, wl_id, true_and, and_true, true_or, or_true, not_true_eq_false, not_false_eq_true, nc0, nc1, nc2, nc3, nc4, nc5, nc6, nc7, nc8, nc9, nc10, nc11, nc12, nc13, nc14, nc15, nc16, nc17, nc18, nc19, nc20, nc21, nc22, nc23, nc35, nc47, nc59, nc60, nc61, nc73, nc74, nc214, nc215, nc1115, nc2230, nc3345, if_true, if_false, Int.reduceToNat, sK_pI, ka]
  · unfold WVf
    simp [hI_pI, plS]
  · have : (k : Int) < 0 := hk
    omega
  · have : (k : Int) < 0 := hk
    omega
  · rw [cz 3 (by omega) (by omega) k hk]
    unfold plS
    simp (disch := omega) only [if_neg]
  · rw [cz 4 (by omega) (by omega) k hk]
    unfold plS
    simp (disch := omega) only [if_neg]
theorem c_hanEmpty {d a : Nat} {h : Hp} (ha : HangAt h a) : ∃ h', cal (d+2) m_Hanging_empty [.inr (.inr (a))] (h) = some (.inl 0, h') ∧ HV h' a plS ∧ Fr (fun c _ => c = a ∨ c = a + 1) h h' := by
  have e1 := fill_s d (a + 1) (-1) h ha.k1 (by rw [ha.n1]; omega)
  rw [ha.n1] at e1
  have f : Fr (fun c _ => c = a ∨ c = a + 1) h (pI (pI (flI h (a + 1) (-1) 12) a 1 0) a 2 0) := Fr.pI (Fr.pI (Fr.flI Fr.rf (fun k _ => Or.inr rfl)) (Or.inl rfl)) (Or.inl rfl)
  refine ⟨pI (pI (flI h (a + 1) (-1) 12) a 1 0) a 2 0, ?_, ⟨ha.fr f, ?_, ?_, fun k hk => ?_⟩, f⟩
  · show EX (d+1) m_Hanging_empty 0 [(0, .inr (.inr (a)))] [] (h) = _
    simp (disch := omega) only [Hanging_empty_0, Hanging_empty_8, Hanging_empty_13, Hanging_empty_18, wr_id, ix_id, okx, if_pos, if_neg, Int.toNat_of_nonneg, bak_v, bak_n, wr_b01, wr_bt, b01_or, b01_0, b01_1, lc_lt0, lc_gt0, lc_eq0, wl_wr, wr_wr, wl_id, true_and, and_true, true_or, or_true, not_true_eq_false, not_false_eq_true, nc0, nc1, nc2, nc3, nc4, nc5, nc6, nc7, nc8, nc9, nc10, nc11, nc12, nc13, nc14, nc15, nc16, nc17, nc18, nc19, nc20, nc21, nc22, nc23, nc35, nc47, nc59, nc60, nc61, nc73, nc74, nc214, nc215, nc1115, nc2230, nc3345, if_true, if_false, Int.reduceToNat, ha.k, ha.r, ha.k1, ha.n1, e1, sK_pI, sK_flI]
  · simp [hI_pI, plS]
  · simp [hI_pI, plS]
  · simp (disch := omega) only [hI_pI, hI_flI, if_neg, if_pos, true_and, plS]
theorem c_rightOut_l {d w : Nat} {h : Hp} {S : Int → Int} (wv : WV h w S) (rv : RV h w S) (g : Gd S) {k e : Int} (hk : -1000 ≤ k ∧ k ≤ 1000) (he : e = 1 ∨ e = -1) : ∀ i, 0 ≤ i → i ≤ 12 → ∀ f, EX (d+2) m_Window_rightOneOut 5 [(0, .inr (.inr (w))), (1, .inl (k)), (2, .inl (e)), (3, .inl (f)), (4, .inl (i))] [] (h) = some (.inl (f + sm (rgO S k e) i (S 1)), h) := by
  have hw := wv.1
  have ga := g.a
  have gb := g.b
  refine up_ind (hi := S 1) ?_ ?_
  · intro i hi h0 h1 f
    rw [Window_rightOneOut_5]
    simp (disch := omega) only [Window_rightOneOut_47, wr_id, ix_id, okx, if_pos, if_neg, Int.toNat_of_nonneg, bak_v, bak_n, wr_b01, wr_bt, b01_or, b01_0, b01_1, lc_lt0, lc_gt0, lc_eq0, wl_wr, wr_wr, wl_id, true_and, and_true, true_or, or_true, not_true_eq_false, not_false_eq_true, nc0, nc1, nc2, nc3, nc4, nc5, nc6, nc7, nc8, nc9, nc10, nc11, nc12, nc13, nc14, nc15, nc16, nc17, nc18, nc19, nc20, nc21, nc22, nc23, nc35, nc47, nc59, nc60, nc61, nc73, nc74, nc214, nc215, nc1115, nc2230, nc3345, if_true, if_false, Int.reduceToNat, hw.k, hw.r0, hw.r1, hw.r2, hw.r3, hw.r4, hw.k1, hw.k2, hw.k3, hw.k4, hw.k5, hw.n1, hw.n2, hw.n3, hw.n4, hw.n5, wv.f5, wv.f6, wv.f7, wv.f8, wv.f9, wv.f10, wv.f11, wv.f12, wv.f13, wv.f14, wv.pk, wv.qk, wv.hk, wv.rk, sm_stop, Int.add_zero]
  · intro i hi ih h0 h1 f
    have er := c_isRight (d := d) wv rv g (x := i) (y := if i < k then i else i + e) (by omega) (by split <;> omega)
    have eb : b01 ((0 ≤ i ∧ i < S 1) ∧ (0 ≤ (if i < k then i else i + e) ∧ (if i < k then i else i + e) < S 2) ∧ lawV S i (if i < k then i else i + e) = 1) = rgO S k e i := by
      unfold rgO b01
      by_cases c : (0 ≤ (if i < k then i else i + e) ∧ (if i < k then i else i + e) < S 2) ∧ lawV S i (if i < k then i else i + e) = 1
      · rw [if_pos c, if_pos ⟨⟨h0, hi⟩, c.1, c.2⟩]
      · rw [if_neg c, if_neg (fun z => c z.2)]
    rw [eb] at er
    have st : EX (d+2) m_Window_rightOneOut 5 [(0, .inr (.inr (w))), (1, .inl (k)), (2, .inl (e)), (3, .inl (f)), (4, .inl (i))] [] (h) = EX (d+2) m_Window_rightOneOut 32 [(0, .inr (.inr (w))), (1, .inl (k)), (2, .inl (e)), (3, .inl (f)), (4, .inl (i))] [.inl (if i < k then i else i + e), .inl (i), .inr (.inr (w))] (h) := by
      rw [Window_rightOneOut_5]
      by_cases c : i < k
      · rw [if_pos c]
        simp (disch := omega) only [Window_rightOneOut_14, Window_rightOneOut_23, wr_id, ix_id, okx, if_pos, if_neg, Int.toNat_of_nonneg, bak_v, bak_n, wr_b01, wr_bt, b01_or, b01_0, b01_1, lc_lt0, lc_gt0, lc_eq0, wl_wr, wr_wr, wl_id, true_and, and_true, true_or, or_true, not_true_eq_false, not_false_eq_true, nc0, nc1, nc2, nc3, nc4, nc5, nc6, nc7, nc8, nc9, nc10, nc11, nc12, nc13, nc14, nc15, nc16, nc17, nc18, nc19, nc20, nc21, nc22, nc23, nc35, nc47, nc59, nc60, nc61, nc73, nc74, nc214, nc215, nc1115, nc2230, nc3345, if_true, if_false, Int.reduceToNat, hw.k, hw.r0, hw.r1, hw.r2, hw.r3, hw.r4, hw.k1, hw.k2, hw.k3, hw.k4, hw.k5, hw.n1, hw.n2, hw.n3, hw.n4, hw.n5, wv.f5, wv.f6, wv.f7, wv.f8, wv.f9, wv.f10, wv.f11, wv.f12, wv.f13, wv.f14, wv.pk, wv.qk, wv.hk, wv.rk]
      · rw [if_neg c]
        simp (disch := omega) only [Window_rightOneOut_14, Window_rightOneOut_28, wr_id, ix_id, okx, if_pos, if_neg, Int.toNat_of_nonneg, bak_v, bak_n, wr_b01, wr_bt, b01_or, b01_0, b01_1, lc_lt0, lc_gt0, lc_eq0, wl_wr, wr_wr, wl_id, true_and, and_true, true_or, or_true, not_true_eq_false, not_false_eq_true, nc0, nc1, nc2, nc3, nc4, nc5, nc6, nc7, nc8, nc9, nc10, nc11, nc12, nc13, nc14, nc15, nc16, nc17, nc18, nc19, nc20, nc21, nc22, nc23, nc35, nc47, nc59, nc60, nc61, nc73, nc74, nc214, nc215, nc1115, nc2230, nc3345, if_true, if_false, Int.reduceToNat, hw.k, hw.r0, hw.r1, hw.r2, hw.r3, hw.r4, hw.k1, hw.k2, hw.k3, hw.k4, hw.k5, hw.n1, hw.n2, hw.n3, hw.n4, hw.n5, wv.f5, wv.f6, wv.f7, wv.f8, wv.f9, wv.f10, wv.f11, wv.f12, wv.f13, wv.f14, wv.pk, wv.qk, wv.hk, wv.rk]
    refine st.trans ?_
    have r01 : rgO S k e i = 0 ∨ rgO S k e i = 1 := of_eq_true (b01_or _)
    rw [sm_step hi]
    rcases r01 with c | c
    · rw [c] at er
      simp (disch := omega) only [Window_rightOneOut_32, Window_rightOneOut_35, Window_rightOneOut_41, wr_id, ix_id, okx, if_pos, if_neg, Int.toNat_of_nonneg, bak_v, bak_n, wr_b01, wr_bt, b01_or, b01_0, b01_1, lc_lt0, lc_gt0, lc_eq0, wl_wr, wr_wr, wl_id, true_and, and_true, true_or, or_true, not_true_eq_false, not_false_eq_true, nc0, nc1, nc2, nc3, nc4, nc5, nc6, nc7, nc8, nc9, nc10, nc11, nc12, nc13, nc14, nc15, nc16, nc17, nc18, nc19, nc20, nc21, nc22, nc23, nc35, nc47, nc59, nc60, nc61, nc73, nc74, nc214, nc215, nc1115, nc2230, nc3345, if_true, if_false, Int.reduceToNat, hw.k, er, c]
      rw [ih (by omega) (by omega), Int.zero_add]
    · rw [c] at er
      simp (disch := omega) only [Window_rightOneOut_32, Window_rightOneOut_35, Window_rightOneOut_38, Window_rightOneOut_41, wr_id, ix_id, okx, if_pos, if_neg, Int.toNat_of_nonneg, bak_v, bak_n, wr_b01, wr_bt, b01_or, b01_0, b01_1, lc_lt0, lc_gt0, lc_eq0, wl_wr, wr_wr, wl_id, true_and, and_true, true_or, or_true, not_true_eq_false, not_false_eq_true, nc0, nc1, nc2, nc3, nc4, nc5, nc6, nc7, nc8, nc9, nc10, nc11, nc12, nc13, nc14, nc15, nc16, nc17, nc18, nc19, nc20, nc21, nc22, nc23, nc35, nc47, nc59, nc60, nc61, nc73, nc74, nc214, nc215, nc1115, nc2230, nc3345, if_true, if_false, Int.reduceToNat, hw.k, er, c]
      rw [ih (by omega) (by omega), Int.add_assoc]
theorem c_rightOut {d w : Nat} {h : Hp} {S : Int → Int} (wv : WV h w S) (rv : RV h w S) (g : Gd S) {k e : Int} (hk : -1000 ≤ k ∧ k ≤ 1000) (he : e = 1 ∨ e = -1) : cal (d+3) m_Window_rightOneOut [.inr (.inr (w)), .inl (k), .inl (e)] (h) = some (.inl (rOut S k e), h) := by
  show EX (d+2) m_Window_rightOneOut 0 [(0, .inr (.inr (w))), (1, .inl (k)), (2, .inl (e))] [] (h) = _
  rw [Window_rightOneOut_0, c_rightOut_l wv rv g hk he 0 (by omega) (by omega), Int.zero_add]
  rfl
/-! how many bits -/
def bc1 (x : Int) : Int := x - bAnd (bUshr x 1) 1431655765
def bc2 (x : Int) : Int := bAnd x 858993459 + bAnd (bUshr x 2) 858993459
def bc3 (x : Int) : Int := bAnd (x + bUshr x 4) 252645135
def bc4 (x : Int) : Int := x + bUshr x 8
def bc5 (x : Int) : Int := bAnd (x + bUshr x 16) 63
def bcF (x : Int) : Int := bc5 (bc4 (bc3 (bc2 (bc1 x))))
def bcS (v : Int) : Int := bt v 0 + bt v 1 + bt v 2 + bt v 3 + bt v 4 + bt v 5 + bt v 6 + bt v 7 + bt v 8 + bt v 9 + bt v 10 + bt v 11
theorem bc_k : ∀ a : Fin 64, ∀ b : Fin 64, bcF ((64 * a.1 + b.1 : Nat) : Int) = bcS ((64 * a.1 + b.1 : Nat) : Int) := by decide +kernel
theorem c_bitCount {d : Nat} {h : Hp} {v : Int} (hv : 0 ≤ v ∧ v < 4096) : cal (d+1) m_Intg_bitCount [.inl (v)] (h) = some (.inl (bcS v), h) := by
  obtain ⟨n, rfl⟩ := Int.eq_ofNat_of_zero_le hv.1
  have e := bc_k ⟨n / 64, by omega⟩ ⟨n % 64, by omega⟩
  rw [show 64 * (n / 64) + n % 64 = n by omega] at e
  show EX (d) m_Intg_bitCount 0 [(0, .inl (n))] [] (h) = _
  rw [Intg_bitCount_0, ← e]
  rfl
theorem brk_eq {S : Int → Int} (g : GdW S) : bcS (S 10) = brk S := by
  have g2 := g.2.1
  have z := g.2.2.2.2.2.2.2.2.2.2.2.2.2
  have e : brk S = sm (fun r => bt (S 10) r) 0 12 := by
    unfold brk
    rw [sm_split (f := fun r => bt (S 10) r) (M := S 2) (N := 12) g2.2 0 g2.1, sm_0 (S 2) (fun j j0 j1 => z j j0 (by omega)), Int.add_zero]
  rw [e]
  simp only [sm_step (show (0 : Int) < 12 by omega), sm_step (show (0 + 1 : Int) < 12 by omega), sm_step (show (0 + 1 + 1 : Int) < 12 by omega), sm_step (show (0 + 1 + 1 + 1 : Int) < 12 by omega), sm_step (show (0 + 1 + 1 + 1 + 1 : Int) < 12 by omega), sm_step (show (0 + 1 + 1 + 1 + 1 + 1 : Int) < 12 by omega), sm_step (show (0 + 1 + 1 + 1 + 1 + 1 + 1 : Int) < 12 by omega), sm_step (show (0 + 1 + 1 + 1 + 1 + 1 + 1 + 1 : Int) < 12 by omega), sm_step (show (0 + 1 + 1 + 1 + 1 + 1 + 1 + 1 + 1 : Int) < 12 by omega), sm_step (show (0 + 1 + 1 + 1 + 1 + 1 + 1 + 1 + 1 + 1 : Int) < 12 by omega), sm_step (show (0 + 1 + 1 + 1 + 1 + 1 + 1 + 1 + 1 + 1 + 1 : Int) < 12 by omega), sm_step (show (0 + 1 + 1 + 1 + 1 + 1 + 1 + 1 + 1 + 1 + 1 + 1 : Int) < 12 by omega), sm_stop (show (12 : Int) ≤ 0 + 1 + 1 + 1 + 1 + 1 + 1 + 1 + 1 + 1 + 1 + 1 + 1 by omega)]
  unfold bcS
  simp only [Int.add_zero, Int.zero_add, Int.reduceAdd, Int.add_assoc]
/-! trays -/
theorem Fr.flL {p : Nat → Nat → Prop} {h h' : Hp} (f : Fr p h h') {a n : Nat} {v : Int} (ha : ∀ k, k < n → p a k) : Fr p h (flL h' a v n) := f.tr ⟨rfl, fun _ _ _ => rfl, fun b j hb => by rw [hL_flL, if_neg (fun c : b = a ∧ j < n => hb (by rw [c.1]; exact ha j c.2))], fun _ _ => rfl⟩
def pTr (t a : Nat) (_k : Nat) : Prop := a = 33 + 2 * t ∨ a = 34 + 2 * t
theorem c_make {d w t : Nat} {h : Hp} {rs rm nb : Int → Int} (hc : CR h w) (tv : TV h rs rm nb) (tg : TG rs rm nb) (ht : t < 4) {s k : Int} (hs : 0 ≤ s ∧ s ≤ 3) (hk : 0 ≤ k ∧ k ≤ 40) : ∃ h', cal (d+2) m_Tray_make [.inr (.inr (33 + 2 * t)), .inl (s), .inl (k)] (h) = some (.inl 0, h') ∧ TV h' (up rs t s) (up rm t k) (zn nb t k) ∧ Fr (pTr t) h h' := by
  have tk := hc.tk ht
  unfold TrAt at tk
  rw [show 33 + 2 * t + 1 = 34 + 2 * t by omega] at tk
  have e1 := fillL_s d (34 + 2 * t) 0 h tk.2.2.1 (by rw [tk.2.2.2]; omega)
  rw [tk.2.2.2] at e1
  have f : Fr (pTr t) h (pI (pI (flL h (34 + 2 * t) 0 40) (33 + 2 * t) 1 s) (33 + 2 * t) 2 k) := Fr.pI (Fr.pI (Fr.flL Fr.rf (fun k _ => Or.inr rfl)) (Or.inl rfl)) (Or.inl rfl)
  refine ⟨pI (pI (flL h (34 + 2 * t) 0 40) (33 + 2 * t) 1 s) (33 + 2 * t) 2 k, ?_, fun t' ht' => ?_, f⟩
  · show EX (d+1) m_Tray_make 0 [(0, .inr (.inr (33 + 2 * t))), (1, .inl (s)), (2, .inl (k))] [] (h) = _
    simp (disch := omega) only [Tray_make_0, Tray_make_8, Tray_make_13, Tray_make_18, wr_id, ix_id, okx, if_pos, if_neg, Int.toNat_of_nonneg, bak_v, bak_n, wr_b01, wr_bt, b01_or, b01_0, b01_1, lc_lt0, lc_gt0, lc_eq0, wl_wr, wr_wr, wl_id, true_and, and_true, true_or, or_true, not_true_eq_false, not_false_eq_true, nc0, nc1, nc2, nc3, nc4, nc5, nc6, nc7, nc8, nc9, nc10, nc11, nc12, nc13, nc14, nc15, nc16, nc17, nc18, nc19, nc20, nc21, nc22, nc23, nc35, nc47, nc59, nc60, nc61, nc73, nc74, nc214, nc215, nc1115, nc2230, nc3345, if_true, if_false, Int.reduceToNat, tk.1, tk.2.1, e1, sK_pI, sK_flL]
  · by_cases c : t' = t
    · subst c
      rw [up_same, up_same]
      refine ⟨fun z => by omega, fun _ => ⟨by simp [hI_pI], by simp [hI_pI], fun j hj => ?_⟩⟩
      rw [hL_pI, hL_pI, hL_flL, if_pos ⟨rfl, by omega⟩]
      unfold zn
      rw [if_pos (by omega)]
    · rw [up_ne (show ¬ (t' : Int) = t by omega), up_ne (show ¬ (t' : Int) = t by omega)]
      have v := tv t' ht'
      rw [f.I (show ¬ pTr t (33 + 2 * t') 2 by unfold pTr; omega), f.I (show ¬ pTr t (33 + 2 * t') 1 by unfold pTr; omega)]
      refine ⟨v.1, fun z => ⟨(v.2 z).1, (v.2 z).2.1, fun j hj => ?_⟩⟩
      rw [f.L (show ¬ pTr t (34 + 2 * t') j by unfold pTr; omega), (v.2 z).2.2 j hj]
      unfold zn
      have g40 := (tg.1 t' (by omega) (by omega)).2.2.2
      rw [if_neg (by omega)]
theorem c_put {d w t : Nat} {h : Hp} {rs rm nb : Int → Int} (y : TY h w t rs rm nb) {i v : Int} (hi : 0 ≤ i ∧ i < rm t) : ∃ h', cal (d+2) m_Tray_put [.inr (.inr (33 + 2 * t)), .inl (i), .inr (.inl (v))] (h) = some (.inr (.inl (cutV (rs t) v)), h') ∧ TV h' rs rm (up nb (40 * t + i) (cutV (rs t) v)) ∧ Fr (pTr t) h h' := by
  obtain ⟨q1, q2, q3, q4, q5, q6⟩ := y.cells
  have ht := y.2.2.2.1
  have gt := y.2.2.1.1 t (by omega) (by omega)
  have v1 := ((y.2.1 t ht).2 y.2.2.2.2).2.1
  have hm := y.2.2.2.2
  have ec := c_cut (d := d) (v := v) q1 v1 (by omega)
  have f : Fr (pTr t) h (pL h (34 + 2 * t) i.toNat (cutV (rs t) v)) := Fr.pL Fr.rf (Or.inr rfl)
  refine ⟨pL h (34 + 2 * t) i.toNat (cutV (rs t) v), ?_, fun t' ht' => ?_, f⟩
  · show EX (d+1) m_Tray_put 0 [(0, .inr (.inr (33 + 2 * t))), (1, .inl (i)), (2, .inr (.inl (v)))] [] (h) = _
    simp (disch := omega) only [Tray_put_0, Tray_put_4, Tray_put_14, Tray_put_24, Tray_put_25, wr_id, ix_id, okx, if_pos, if_neg, Int.toNat_of_nonneg, bak_v, bak_n, wr_b01, wr_bt, b01_or, b01_0, b01_1, lc_lt0, lc_gt0, lc_eq0, wl_wr, wr_wr, wl_id, true_and, and_true, true_or, or_true, not_true_eq_false, not_false_eq_true, nc0, nc1, nc2, nc3, nc4, nc5, nc6, nc7, nc8, nc9, nc10, nc11, nc12, nc13, nc14, nc15, nc16, nc17, nc18, nc19, nc20, nc21, nc22, nc23, nc35, nc47, nc59, nc60, nc61, nc73, nc74, nc214, nc215, nc1115, nc2230, nc3345, if_true, if_false, Int.reduceToNat, q1, q2, q3, q4, q5, ec, sK_pL, sN_pL, hR_pL, hL_pL, and_self]
  · have w' := y.2.1 t' ht'
    refine ⟨fun z => w'.1 z, fun z => ⟨(w'.2 z).1, (w'.2 z).2.1, fun j hj => ?_⟩⟩
    have g40 := (y.2.2.1.1 t' (by omega) (by omega)).2.2.2
    rw [hL_pL]
    unfold up
    by_cases c : t' = t ∧ (j : Int) = i
    · obtain ⟨c1, c2⟩ := c
      subst c1
      rw [if_pos ⟨rfl, by omega⟩, if_pos (by omega)]
    · rw [if_neg (by omega), if_neg (by omega)]
      exact (w'.2 z).2.2 j hj
