/-! the class: tell, mend whole -/
theorem hwG_rng (P : Int → Int → Int → Int → Int → Bool) (R z : Int) : ∀ (m : Nat) (g x r n : Int), -1 ≤ r → hwG P R z m g x r n = -1 ∨ (0 ≤ hwG P R z m g x r n ∧ hwG P R z m g x r n < R) := by
  intro m
  induction m with
  | zero => intro g x r n _; exact Or.inl rfl
  | succ m ih =>
    intro g x r n hr
    have sp := ff_spec (p := P x r n g) (N := R) (r + 1)
    simp only [hwG]
    split
    · omega
    · split
      · exact ih _ _ _ _ hr
      · exact ih _ _ _ _ (by omega)
/-- what each hook brings -/
def brR (S : Int → Int) (f : Int → Int) (z : Int) : Int := if f z = -1 then 0 else kbR S z (f z)
theorem AR_sum {S : Int → Int} (gd : Gd S) : ∀ (m : Nat) (g x r n : Int), g + m = S 1 → (-1 ≤ x ∧ x < g) → (-1 ≤ r ∧ r < S 2) → (AR S x r = 0 ∨ ∃ g' s, g ≤ g' ∧ g' < S 1 ∧ r < s ∧ s < S 2 ∧ PmR S x r n g' s = true) → AR S x r = sm (brR S (fun z => hwG (PmR S) (S 2) z m g x r n)) g (S 1) := by
  have ga := gd.a
  intro m
  induction m with
  | zero =>
    intro g x r n hg hx hr hex
    rw [sm_stop (by omega)]
    rcases hex with h | ⟨g', s, h1, h2, h3, h4, h5⟩
    · exact h
    · omega
  | succ m ih =>
    intro g x r n hg hx hr hex
    have sp := ff_spec (p := PmR S x r n g) (N := S 2) (r + 1)
    rw [sm_step (by omega)]
    have eg : brR S (fun z => hwG (PmR S) (S 2) z (m + 1) g x r n) g = if ff (PmR S x r n g) (r + 1) (S 2) = -1 then 0 else kbR S g (ff (PmR S x r n g) (r + 1) (S 2)) := by
      unfold brR
      simp only [hwG, if_true]
    rw [eg]
    by_cases cq : ff (PmR S x r n g) (r + 1) (S 2) = -1
    · rw [if_pos cq, Int.zero_add]
      rw [ih (g + 1) x r n (by omega) (by omega) hr (by
        rcases hex with h | ⟨g', s, a1, a2, a3, a4, a5⟩
        · exact Or.inl h
        · refine Or.inr ⟨g', s, ?_, a2, a3, a4, a5⟩
          by_cases c : g' = g
          · rw [c] at a5
            rcases sp with q | q
            · rw [q.2 s (by omega) a4] at a5; cases a5
            · omega
          · omega)]
      refine sm_congr _ (fun z z1 z2 => ?_)
      have e : hwG (PmR S) (S 2) z (m + 1) g x r n = hwG (PmR S) (S 2) z m (g + 1) x r n := by
        simp only [hwG]
        rw [if_neg (by omega), if_pos cq]
      unfold brR
      simp only [e]
    · rw [if_neg cq]
      have sq : r + 1 ≤ ff (PmR S x r n g) (r + 1) (S 2) ∧ ff (PmR S x r n g) (r + 1) (S 2) < S 2 ∧ PmR S x r n g (ff (PmR S x r n g) (r + 1) (S 2)) = true := by
        rcases sp with q | q
        · exact absurd q.1 cq
        · exact ⟨q.1, q.2.1, q.2.2.1⟩
      have ek : kbR S g (ff (PmR S x r n g) (r + 1) (S 2)) + AR S g (ff (PmR S x r n g) (r + 1) (S 2)) = AR S x r := by
        have := sq.2.2
        simp only [PmR, decide_eq_true_eq] at this
        exact this.2
      rw [← ek]
      congr 1
      have ar := AR_rng S g (ff (PmR S x r n g) (r + 1) (S 2))
      rw [ih (g + 1) g (ff (PmR S x r n g) (r + 1) (S 2)) (n - 1) (by omega) (by omega) (by omega) (by
        by_cases ca : 0 < AR S g (ff (PmR S x r n g) (r + 1) (S 2))
        · obtain ⟨g', s', a1, a2, a3, a4, a5⟩ := PmR_ex gd (x := g) (r := ff (PmR S x r n g) (r + 1) (S 2)) (by omega) ca (n - 1)
          exact Or.inr ⟨g', s', by omega, a2, a3, a4, a5⟩
        · exact Or.inl (by omega))]
      refine sm_congr _ (fun z z1 z2 => ?_)
      have e : hwG (PmR S) (S 2) z (m + 1) g x r n = hwG (PmR S) (S 2) z m (g + 1) g (ff (PmR S x r n g) (r + 1) (S 2)) (n - 1) := by
        simp only [hwG]
        rw [if_neg (by omega), if_neg cq]
      unfold brR
      simp only [e]
theorem AR_men {S : Int → Int} (gd : Gd S) : AR S (-1) (-1) = sm (brR S (menR S)) 0 (S 1) := by
  have ga := gd.a
  have gb := gd.b
  have ar := AR_rng S (-1) (-1)
  refine (AR_sum gd (S 1).toNat 0 (-1) (-1) 0 (by omega) (by omega) (by omega) ?_)
  by_cases ca : 0 < AR S (-1) (-1)
  · obtain ⟨g', s', a1, a2, a3, a4, a5⟩ := PmR_ex gd (x := -1) (r := -1) (by omega) ca 0
    exact Or.inr ⟨g', s', by omega, a2, a3, a4, a5⟩
  · exact Or.inl (by omega)
theorem sm_add {f g : Int → Int} {N : Int} : ∀ i, sm (fun j => f j + g j) i N = sm f i N + sm g i N := by
  refine up_ind (hi := N) ?_ ?_
  · intro i hi
    rw [sm_stop hi, sm_stop hi, sm_stop hi]
    rfl
  · intro i hi ih
    rw [sm_step hi, sm_step hi, sm_step hi, ih]
    omega
def mJ (S : Int → Int) : Int → Int := fun z => b01 (¬ menR S z = -1)
def mU (S : Int → Int) : Int → Int := fun z => b01 (¬ S (61 + z) = -1 ∧ ¬ S (61 + z) = menR S z)
def mKp (S : Int → Int) : Int → Int := fun z => b01 (¬ menR S z = -1 ∧ S (61 + z) = menR S z)
theorem men_split {S : Int → Int} (gd : Gd S) : AR S (-1) (-1) / 100 = sm (mJ S) 0 (S 1) ∧ jnM S - AR S (-1) (-1) % 100 = sm (mU S) 0 (S 1) := by
  have ga := gd.a
  have e1 : AR S (-1) (-1) = 100 * sm (mJ S) 0 (S 1) + sm (mKp S) 0 (S 1) := by
    rw [AR_men gd, ← sm_mul, ← sm_add]
    refine sm_congr _ (fun z _ _ => ?_)
    unfold brR mJ mKp kbR b01
    by_cases c : menR S z = -1
    · simp [c]
    · by_cases c2 : S (61 + z) = menR S z <;> simp [c, c2]
  have e2 : jnM S = sm (mKp S) 0 (S 1) + sm (mU S) 0 (S 1) := by
    unfold jnM
    rw [← sm_add]
    refine sm_congr _ (fun z _ _ => ?_)
    unfold mKp mU b01
    by_cases c : S (61 + z) = -1
    · by_cases c2 : menR S z = -1
      · simp [c, c2]
      · have c3 : ¬ (-1 : Int) = menR S z := fun q => c2 q.symm
        simp [c, c2, c3]
    · by_cases c2 : S (61 + z) = menR S z
      · rw [c2] at c
        simp [c2, c]
      · simp [c, c2]
  have kr := sm_rng (f := mKp S) (N := S 1) (lo := 0) (hi := 1) (by omega) (by omega) 0 (fun j _ _ => by unfold mKp b01; split <;> omega)
  omega
def p64 (a k : Nat) : Prop := a = 64 ∧ (k = 1 ∨ k = 2)
theorem c_tell_l {d w : Nat} {S : Int → Int} (gd : Gd S) : ∀ i, 0 ≤ i → i ≤ S 1 → ∀ h j u, ME h w S → (∀ z : Nat, (z : Int) < S 1 → hI h 65 z = menR S z) → hI h 64 1 = j → hI h 64 2 = u → ∃ h', EX (d+1) m_Mender_tell 12 [(0, .inr (.inr (64))), (1, .inr (.inr (w))), (2, .inr (.inr (26))), (3, .inl (i))] [] (h) = some (.inl 0, h') ∧ hI h' 64 1 = j + sm (mJ S) i (S 1) ∧ hI h' 64 2 = u + sm (mU S) i (S 1) ∧ Fr p64 h h' := by
  have ga := gd.a
  have gb := gd.b
  refine up_ind (hi := S 1) ?_ ?_
  · intro i hi h0 h1 h j u me vr e1 e2
    have wv := me.2.1
    have hw := wv.1
    refine ⟨h, ?_, by rw [sm_stop hi, Int.add_zero]; exact e1, by rw [sm_stop hi, Int.add_zero]; exact e2, Fr.rf⟩
    rw [Mender_tell_12]
    simp (disch := omega) only [Mender_tell_79, wr_id, ix_id, okx, if_pos, if_neg, Int.toNat_of_nonneg, bak_v, bak_n, wr_b01, wr_bt, b01_or, b01_0, b01_1, lc_lt0, lc_gt0, lc_eq0, wl_wr, wr_wr, wl_id, true_and, and_true, true_or, or_true, not_true_eq_false, not_false_eq_true, nc0, nc1, nc2, nc3, nc4, nc5, nc6, nc7, nc8, nc9, nc10, nc11, nc12, nc13, nc14, nc15, nc16, nc17, nc18, nc19, nc20, nc21, nc22, nc23, nc35, nc47, nc59, nc60, nc61, nc73, nc74, nc214, nc215, nc1115, nc2230, nc3345, if_true, if_false, Int.reduceToNat, hw.k, hw.r0, hw.r1, hw.r2, hw.r3, hw.r4, hw.k1, hw.k2, hw.k3, hw.k4, hw.k5, hw.n1, hw.n2, hw.n3, hw.n4, hw.n5, wv.f5, wv.f6, wv.f7, wv.f8, wv.f9, wv.f10, wv.f11, wv.f12, wv.f13, wv.f14, wv.pk, wv.qk, wv.hk, wv.rk]
  · intro i hi ih h0 h1 h j u me vr e1 e2
    have hc := me.1
    have wv := me.2.1
    have hw := wv.1
    have hv := me.2.2.2
    have ha := hv.1
    have gr := gd.rg h0 (by omega)
    have ei := vr i.toNat (by omega)
    rw [Int.toNat_of_nonneg h0] at ei
    have mr := hwG_rng (PmR S) (S 2) i (S 1).toNat 0 (-1) (-1) 0 (by omega)
    have mr' : menR S i = -1 ∨ (0 ≤ menR S i ∧ menR S i < S 2) := mr
    rw [Mender_tell_12, sm_step hi, sm_step hi]
    have hJ : mJ S i = b01 (¬ menR S i = -1) := rfl
    have hU : mU S i = b01 (¬ S (61 + i) = -1 ∧ ¬ S (61 + i) = menR S i) := rfl
    have f1 : ∀ v, Fr p64 h (pI h 64 1 v) := fun v => Fr.pI Fr.rf ⟨rfl, Or.inl rfl⟩
    -- first: joined
    have stJ : ∃ h1, EX (d+1) m_Mender_tell 20 [(0, .inr (.inr (64))), (1, .inr (.inr (w))), (2, .inr (.inr (26))), (3, .inl (i))] [] (h) = EX (d+1) m_Mender_tell 40 [(0, .inr (.inr (64))), (1, .inr (.inr (w))), (2, .inr (.inr (26))), (3, .inl (i))] [] (h1) ∧ hI h1 64 1 = j + mJ S i ∧ hI h1 64 2 = u ∧ Fr p64 h h1 := by
      by_cases c : menR S i = -1
      · refine ⟨h, ?_, by rw [hJ]; unfold b01; rw [if_neg (fun q => q c), Int.add_zero]; exact e1, e2, Fr.rf⟩
        simp (disch := omega) only [Mender_tell_20, wr_id, ix_id, okx, if_pos, if_neg, Int.toNat_of_nonneg, bak_v, bak_n, wr_b01, wr_bt, b01_or, b01_0, b01_1, lc_lt0, lc_gt0, lc_eq0, wl_wr, wr_wr, wl_id, true_and, and_true, true_or, or_true, not_true_eq_false, not_false_eq_true, nc0, nc1, nc2, nc3, nc4, nc5, nc6, nc7, nc8, nc9, nc10, nc11, nc12, nc13, nc14, nc15, nc16, nc17, nc18, nc19, nc20, nc21, nc22, nc23, nc35, nc47, nc59, nc60, nc61, nc73, nc74, nc214, nc215, nc1115, nc2230, nc3345, if_true, if_false, Int.reduceToNat, hc.k6, hc.r5, hc.r6, hc.r0, hc.r2, hc.r7, hc.r8, hc.r9, hc.r10, hc.r11, hc.r12, hc.r13, hc.r14, hc.r15, hc.r16, hc.r17, hc.r18, hc.r8_0, hc.r8_1, hc.r11_0, hc.r11_1, hc.r60_0, hc.r60_1, hc.r60_4, hc.r64_0, hc.r64_3, hc.r64_4, hc.r68_0, hc.r41_0, hc.r41_1, hc.r42_0, hc.r42_1, hc.k7, hc.k8, hc.k9, hc.k11, hc.k12, hc.k13, hc.k32, hc.k41, hc.k42, hc.k43, hc.k60, hc.k61, hc.k62, hc.k63, hc.k64, hc.k65, hc.k66, hc.k67, hc.k68, hc.k69, hc.k70, hc.k71, hc.n6, hc.n7, hc.n8, hc.n9, hc.n11, hc.n12, hc.n13, hc.n32, hc.n41, hc.n42, hc.n43, hc.n60, hc.n61, hc.n62, hc.n63, hc.n64, hc.n65, hc.n66, hc.n67, hc.n68, hc.n69, hc.n70, hc.n71, ei, c]
      · refine ⟨pI h 64 1 (j + 1), ?_, by rw [hJ]; unfold b01; rw [if_pos c]; simp [hI_pI], by simp [hI_pI, e2], f1 _⟩
        simp (disch := omega) only [Mender_tell_20, Mender_tell_30, wr_id, ix_id, okx, if_pos, if_neg, Int.toNat_of_nonneg, bak_v, bak_n, wr_b01, wr_bt, b01_or, b01_0, b01_1, lc_lt0, lc_gt0, lc_eq0, wl_wr, wr_wr, wl_id, true_and, and_true, true_or, or_true, not_true_eq_false, not_false_eq_true, nc0, nc1, nc2, nc3, nc4, nc5, nc6, nc7, nc8, nc9, nc10, nc11, nc12, nc13, nc14, nc15, nc16, nc17, nc18, nc19, nc20, nc21, nc22, nc23, nc35, nc47, nc59, nc60, nc61, nc73, nc74, nc214, nc215, nc1115, nc2230, nc3345, if_true, if_false, Int.reduceToNat, hc.k6, hc.r5, hc.r6, hc.r0, hc.r2, hc.r7, hc.r8, hc.r9, hc.r10, hc.r11, hc.r12, hc.r13, hc.r14, hc.r15, hc.r16, hc.r17, hc.r18, hc.r8_0, hc.r8_1, hc.r11_0, hc.r11_1, hc.r60_0, hc.r60_1, hc.r60_4, hc.r64_0, hc.r64_3, hc.r64_4, hc.r68_0, hc.r41_0, hc.r41_1, hc.r42_0, hc.r42_1, hc.k7, hc.k8, hc.k9, hc.k11, hc.k12, hc.k13, hc.k32, hc.k41, hc.k42, hc.k43, hc.k60, hc.k61, hc.k62, hc.k63, hc.k64, hc.k65, hc.k66, hc.k67, hc.k68, hc.k69, hc.k70, hc.k71, hc.n6, hc.n7, hc.n8, hc.n9, hc.n11, hc.n12, hc.n13, hc.n32, hc.n41, hc.n42, hc.n43, hc.n60, hc.n61, hc.n62, hc.n63, hc.n64, hc.n65, hc.n66, hc.n67, hc.n68, hc.n69, hc.n70, hc.n71, ei, e1]
    obtain ⟨h1', s1, j1, u1, g1⟩ := stJ
    have me1 := me.fr g1 (fun a k q => by unfold p64 at q; omega)
    have vr1 : ∀ z : Nat, (z : Int) < S 1 → hI h1' 65 z = menR S z := fun z hz => by rw [g1.I (by unfold p64; omega)]; exact vr z hz
    have ei1 := vr1 i.toNat (by omega)
    rw [Int.toNat_of_nonneg h0] at ei1
    have hc1 := me1.1
    have hv1 := me1.2.2.2
    have ha1 := hv1.1
    have stU : ∃ h2, EX (d+1) m_Mender_tell 40 [(0, .inr (.inr (64))), (1, .inr (.inr (w))), (2, .inr (.inr (26))), (3, .inl (i))] [] (h1') = EX (d+1) m_Mender_tell 12 [(0, .inr (.inr (64))), (1, .inr (.inr (w))), (2, .inr (.inr (26))), (3, .inl (i + 1))] [] (h2) ∧ hI h2 64 1 = j + mJ S i ∧ hI h2 64 2 = u + mU S i ∧ Fr p64 h1' h2 := by
      have hc := hc1
      have ha := ha1
      have hv := hv1
      by_cases c : S (61 + i) = -1
      · refine ⟨h1', ?_, j1, by rw [hU]; unfold b01; rw [if_neg (fun q => q.1 c), Int.add_zero]; exact u1, Fr.rf⟩
        simp (disch := omega) only [Mender_tell_40, Mender_tell_45, Mender_tell_73, wr_id, ix_id, okx, if_pos, if_neg, Int.toNat_of_nonneg, bak_v, bak_n, wr_b01, wr_bt, b01_or, b01_0, b01_1, lc_lt0, lc_gt0, lc_eq0, wl_wr, wr_wr, wl_id, true_and, and_true, true_or, or_true, not_true_eq_false, not_false_eq_true, nc0, nc1, nc2, nc3, nc4, nc5, nc6, nc7, nc8, nc9, nc10, nc11, nc12, nc13, nc14, nc15, nc16, nc17, nc18, nc19, nc20, nc21, nc22, nc23, nc35, nc47, nc59, nc60, nc61, nc73, nc74, nc214, nc215, nc1115, nc2230, nc3345, if_true, if_false, Int.reduceToNat, hc.k6, hc.r5, hc.r6, hc.r0, hc.r2, hc.r7, hc.r8, hc.r9, hc.r10, hc.r11, hc.r12, hc.r13, hc.r14, hc.r15, hc.r16, hc.r17, hc.r18, hc.r8_0, hc.r8_1, hc.r11_0, hc.r11_1, hc.r60_0, hc.r60_1, hc.r60_4, hc.r64_0, hc.r64_3, hc.r64_4, hc.r68_0, hc.r41_0, hc.r41_1, hc.r42_0, hc.r42_1, hc.k7, hc.k8, hc.k9, hc.k11, hc.k12, hc.k13, hc.k32, hc.k41, hc.k42, hc.k43, hc.k60, hc.k61, hc.k62, hc.k63, hc.k64, hc.k65, hc.k66, hc.k67, hc.k68, hc.k69, hc.k70, hc.k71, hc.n6, hc.n7, hc.n8, hc.n9, hc.n11, hc.n12, hc.n13, hc.n32, hc.n41, hc.n42, hc.n43, hc.n60, hc.n61, hc.n62, hc.n63, hc.n64, hc.n65, hc.n66, hc.n67, hc.n68, hc.n69, hc.n70, hc.n71, ha.k, ha.r, ha.k1, ha.n1, c_isJoined' hv gd, c]
      · by_cases c2 : S (61 + i) = menR S i
        · refine ⟨h1', ?_, j1, by rw [hU]; unfold b01; rw [if_neg (fun q => q.2 c2), Int.add_zero]; exact u1, Fr.rf⟩
          simp (disch := omega) only [Mender_tell_40, Mender_tell_45, Mender_tell_48, Mender_tell_73, wr_id, ix_id, okx, if_pos, if_neg, Int.toNat_of_nonneg, bak_v, bak_n, wr_b01, wr_bt, b01_or, b01_0, b01_1, lc_lt0, lc_gt0, lc_eq0, wl_wr, wr_wr, wl_id, true_and, and_true, true_or, or_true, not_true_eq_false, not_false_eq_true, nc0, nc1, nc2, nc3, nc4, nc5, nc6, nc7, nc8, nc9, nc10, nc11, nc12, nc13, nc14, nc15, nc16, nc17, nc18, nc19, nc20, nc21, nc22, nc23, nc35, nc47, nc59, nc60, nc61, nc73, nc74, nc214, nc215, nc1115, nc2230, nc3345, if_true, if_false, Int.reduceToNat, hc.k6, hc.r5, hc.r6, hc.r0, hc.r2, hc.r7, hc.r8, hc.r9, hc.r10, hc.r11, hc.r12, hc.r13, hc.r14, hc.r15, hc.r16, hc.r17, hc.r18, hc.r8_0, hc.r8_1, hc.r11_0, hc.r11_1, hc.r60_0, hc.r60_1, hc.r60_4, hc.r64_0, hc.r64_3, hc.r64_4, hc.r68_0, hc.r41_0, hc.r41_1, hc.r42_0, hc.r42_1, hc.k7, hc.k8, hc.k9, hc.k11, hc.k12, hc.k13, hc.k32, hc.k41, hc.k42, hc.k43, hc.k60, hc.k61, hc.k62, hc.k63, hc.k64, hc.k65, hc.k66, hc.k67, hc.k68, hc.k69, hc.k70, hc.k71, hc.n6, hc.n7, hc.n8, hc.n9, hc.n11, hc.n12, hc.n13, hc.n32, hc.n41, hc.n42, hc.n43, hc.n60, hc.n61, hc.n62, hc.n63, hc.n64, hc.n65, hc.n66, hc.n67, hc.n68, hc.n69, hc.n70, hc.n71, ha.k, ha.r, ha.k1, ha.n1, hv.f1, hv.f2, hv.rk, c_isJoined' hv gd, ei1]
        · refine ⟨pI h1' 64 2 (u + 1), ?_, by simp [hI_pI, j1], by rw [hU]; unfold b01; rw [if_pos ⟨c, c2⟩]; simp [hI_pI], Fr.pI Fr.rf ⟨rfl, Or.inr rfl⟩⟩
          simp (disch := omega) only [Mender_tell_40, Mender_tell_45, Mender_tell_48, Mender_tell_63, Mender_tell_73, wr_id, ix_id, okx, if_pos, if_neg, Int.toNat_of_nonneg, bak_v, bak_n, wr_b01, wr_bt, b01_or, b01_0, b01_1, lc_lt0, lc_gt0, lc_eq0, wl_wr, wr_wr, wl_id, true_and, and_true, true_or, or_true, not_true_eq_false, not_false_eq_true, nc0, nc1, nc2, nc3, nc4, nc5, nc6, nc7, nc8, nc9, nc10, nc11, nc12, nc13, nc14, nc15, nc16, nc17, nc18, nc19, nc20, nc21, nc22, nc23, nc35, nc47, nc59, nc60, nc61, nc73, nc74, nc214, nc215, nc1115, nc2230, nc3345, if_true, if_false, Int.reduceToNat, hc.k6, hc.r5, hc.r6, hc.r0, hc.r2, hc.r7, hc.r8, hc.r9, hc.r10, hc.r11, hc.r12, hc.r13, hc.r14, hc.r15, hc.r16, hc.r17, hc.r18, hc.r8_0, hc.r8_1, hc.r11_0, hc.r11_1, hc.r60_0, hc.r60_1, hc.r60_4, hc.r64_0, hc.r64_3, hc.r64_4, hc.r68_0, hc.r41_0, hc.r41_1, hc.r42_0, hc.r42_1, hc.k7, hc.k8, hc.k9, hc.k11, hc.k12, hc.k13, hc.k32, hc.k41, hc.k42, hc.k43, hc.k60, hc.k61, hc.k62, hc.k63, hc.k64, hc.k65, hc.k66, hc.k67, hc.k68, hc.k69, hc.k70, hc.k71, hc.n6, hc.n7, hc.n8, hc.n9, hc.n11, hc.n12, hc.n13, hc.n32, hc.n41, hc.n42, hc.n43, hc.n60, hc.n61, hc.n62, hc.n63, hc.n64, hc.n65, hc.n66, hc.n67, hc.n68, hc.n69, hc.n70, hc.n71, ha.k, ha.r, ha.k1, ha.n1, hv.f1, hv.f2, hv.rk, c_isJoined' hv gd, ei1, u1]
    obtain ⟨h2, s2, j2, u2, g2⟩ := stU
    obtain ⟨h3, s3, j3, u3, g3⟩ := ih (by omega) (by omega) h2 _ _ (me1.fr g2 (fun a k q => by unfold p64 at q; omega)) (fun z hz => by rw [g2.I (by unfold p64; omega)]; exact vr1 z hz) j2 u2
    refine ⟨h3, ?_, by rw [j3]; omega, by rw [u3]; omega, g1.tr (g2.tr g3)⟩
    rw [show m_Mender_tell = 199 from rfl] at s1
    simp (disch := omega) only [wr_id, ix_id, okx, if_pos, if_neg, Int.toNat_of_nonneg, bak_v, bak_n, wr_b01, wr_bt, b01_or, b01_0, b01_1, lc_lt0, lc_gt0, lc_eq0, wl_wr, wr_wr, wl_id, true_and, and_true, true_or, or_true, not_true_eq_false, not_false_eq_true, nc0, nc1, nc2, nc3, nc4, nc5, nc6, nc7, nc8, nc9, nc10, nc11, nc12, nc13, nc14, nc15, nc16, nc17, nc18, nc19, nc20, nc21, nc22, nc23, nc35, nc47, nc59, nc60, nc61, nc73, nc74, nc214, nc215, nc1115, nc2230, nc3345, if_true, if_false, Int.reduceToNat, hw.k, hw.r0, hw.r1, hw.r2, hw.r3, hw.r4, hw.k1, hw.k2, hw.k3, hw.k4, hw.k5, hw.n1, hw.n2, hw.n3, hw.n4, hw.n5, wv.f5, wv.f6, wv.f7, wv.f8, wv.f9, wv.f10, wv.f11, wv.f12, wv.f13, wv.f14, wv.pk, wv.qk, wv.hk, wv.rk]
    exact s1.trans (s2.trans s3)
/-- what mend writes -/
def pMn (a k : Nat) : Prop := a = 65 ∨ a = 66 ∨ (a = 67 ∧ 1 ≤ k) ∨ (a = 64 ∧ (k = 1 ∨ k = 2))
theorem c_mend {d w : Nat} {h : Hp} {S : Int → Int} (gd : Gd S) (me : ME h w S) (j0 : hI h 67 0 = 0) : ∃ h', cal (d+6) m_Mender_mend [.inr (.inr (64)), .inr (.inr (w)), .inr (.inr (26))] (h) = some (.inl 0, h') ∧ hI h' 64 1 = AR S (-1) (-1) / 100 ∧ hI h' 64 2 = jnM S - AR S (-1) (-1) % 100 ∧ (∀ z : Nat, (z : Int) < S 1 → hI h' 65 z = menR S z) ∧ Fr pMn h h' := by
  have ga := gd.a
  have gb := gd.b
  have hc := me.1
  have hw := me.2.1.1
  have f1 : Fr pMn h (flI h 65 (-1) 12) := Fr.flI Fr.rf (fun k _ => Or.inl rfl)
  have me1 := me.fr f1 (fun a k q => by unfold pMn at q; omega)
  obtain ⟨h2, e2, ja2, f2⟩ := c_mend_1 (d := d + 4) (w := w) gd 0 (by omega) (by omega) _ me1 (fun j a b => by
    rw [show j = 0 by omega, hI_flI, if_neg (by omega)]
    exact j0)
  have me2 := me1.fr f2 (fun a k q => by omega)
  obtain ⟨h3, e3, wt3, f3⟩ := c_mend_3 (d := d) (w := w) gd (S 1 - 1) (by omega) (by omega) h2 me2 ja2 (fun g s z1 z2 _ _ _ => by omega)
  have me3 := me2.fr f3 (fun a k q => by omega)
  have ja3 : JAv h3 S := fun j a b => by rw [f3.I (by omega)]; exact ja2 j a b
  have eb := c_bestBehind (d := d) me3 gd ja3 (x := -1) (r := -1) (by omega) (by omega) (by omega) (fun g s _ z2 z3 z4 z5 => wt3 g s (by omega) z2 z3 z4 z5)
  have v3 : ∀ j, (0 : Int) ≤ j → j < 12 → hI h3 65 j.toNat = -1 := fun j a b => by
    rw [f3.I (by omega), f2.I (by omega), hI_flI, if_pos ⟨rfl, by omega⟩]
  obtain ⟨h4, e4, v4, f4⟩ := c_ch_2 (d := d) (w := w) gd (S 1).toNat 0 (-1) (-1) 0 h3 (by omega) (by omega) (by omega) (by omega) me3 wt3 v3
  have me4 := me3.fr f4 (fun a k q => by omega)
  have v4' : ∀ z : Nat, (z : Int) < S 1 → hI h4 65 z = menR S z := fun z hz => by rw [v4 z hz, if_neg (by omega)]; rfl
  have f5 : Fr p64 h4 (pI (pI h4 64 1 0) 64 2 0) := Fr.pI (Fr.pI Fr.rf ⟨rfl, Or.inl rfl⟩) ⟨rfl, Or.inr rfl⟩
  have me5 := me4.fr f5 (fun a k q => by unfold p64 at q; omega)
  obtain ⟨h6, e6, j6, u6, f6⟩ := c_tell_l (d := d + 3) (w := w) gd 0 (by omega) (by omega) _ 0 0 me5 (fun z hz => by rw [f5.I (by unfold p64; omega)]; exact v4' z hz) (by simp [hI_pI]) (by simp [hI_pI])
  have ms := men_split gd
  have fa : Fr pMn h h4 := f1.tr ((f2.mo (fun a k q => Or.inr (Or.inr (Or.inl q)))).tr ((f3.mo (fun a k q => Or.inr (Or.inl q))).tr (f4.mo (fun a k q => Or.inl q))))
  have fb : Fr pMn h4 h6 := (f5.tr f6).mo (fun a k q => Or.inr (Or.inr (Or.inr q)))
  refine ⟨h6, ?_, by rw [j6, ms.1, Int.zero_add], by rw [u6, ms.2, Int.zero_add], fun z hz => by rw [f6.I (by unfold p64; omega), f5.I (by unfold p64; omega)]; exact v4' z hz, fa.tr fb⟩
  show EX (d+5) m_Mender_mend 0 [(0, .inr (.inr (64))), (1, .inr (.inr (w))), (2, .inr (.inr (26)))] [] (h) = _
  have eA := fill_s (d + 4) 65 (-1) h hc.k65 (by rw [hc.n65]; omega)
  rw [hc.n65] at eA
  have hk1 := me1.1.k64
  have hk3 := me3.1.k64
  have hk4 := me4.1.k64
  have hk0 := me.1.k64
  have w2 := me2.2.1.1.k
  have w5 := me2.2.1.f5
  have ec : cal (d+5) m_Mender_choose [.inr (.inr (64)), .inr (.inr (w)), .inr (.inr (26)), .inl (AR S (-1) (-1) - (jnM S - jA S (-1 + 1)))] (h3) = some (.inl 0, h4) := by
    show EX (d+4) m_Mender_choose 0 [(0, .inr (.inr (64))), (1, .inr (.inr (w))), (2, .inr (.inr (26))), (3, .inl (AR S (-1) (-1) - (jnM S - jA S (-1 + 1))))] [] (h3) = _
    rw [Mender_choose_0]
    exact e4
  have et : cal (d+5) m_Mender_tell [.inr (.inr (64)), .inr (.inr (w)), .inr (.inr (26))] (h4) = some (.inl 0, h6) := by
    show EX (d+4) m_Mender_tell 0 [(0, .inr (.inr (64))), (1, .inr (.inr (w))), (2, .inr (.inr (26)))] [] (h4) = _
    simp (disch := omega) only [Mender_tell_0, Mender_tell_5, Mender_tell_10, wr_id, ix_id, okx, if_pos, if_neg, Int.toNat_of_nonneg, bak_v, bak_n, wr_b01, wr_bt, b01_or, b01_0, b01_1, lc_lt0, lc_gt0, lc_eq0, wl_wr, wr_wr, wl_id, true_and, and_true, true_or, or_true, not_true_eq_false, not_false_eq_true, nc0, nc1, nc2, nc3, nc4, nc5, nc6, nc7, nc8, nc9, nc10, nc11, nc12, nc13, nc14, nc15, nc16, nc17, nc18, nc19, nc20, nc21, nc22, nc23, nc35, nc47, nc59, nc60, nc61, nc73, nc74, nc214, nc215, nc1115, nc2230, nc3345, if_true, if_false, Int.reduceToNat, hk4, sK_pI]
    exact e6
  simp (disch := omega) only [Mender_mend_0, Mender_mend_8, wr_id, ix_id, okx, if_pos, if_neg, Int.toNat_of_nonneg, bak_v, bak_n, wr_b01, wr_bt, b01_or, b01_0, b01_1, lc_lt0, lc_gt0, lc_eq0, wl_wr, wr_wr, wl_id, true_and, and_true, true_or, or_true, not_true_eq_false, not_false_eq_true, nc0, nc1, nc2, nc3, nc4, nc5, nc6, nc7, nc8, nc9, nc10, nc11, nc12, nc13, nc14, nc15, nc16, nc17, nc18, nc19, nc20, nc21, nc22, nc23, nc35, nc47, nc59, nc60, nc61, nc73, nc74, nc214, nc215, nc1115, nc2230, nc3345, if_true, if_false, Int.reduceToNat, hc.k64, hc.r64_0, eA]
  refine e2.trans ?_
  rw [Mender_mend_52, if_pos w2, w5]
  refine e3.trans ?_
  simp (disch := omega) only [Mender_mend_119, Mender_mend_130, Mender_mend_133, Mender_mend_139, wr_id, ix_id, okx, if_pos, if_neg, Int.toNat_of_nonneg, bak_v, bak_n, wr_b01, wr_bt, b01_or, b01_0, b01_1, lc_lt0, lc_gt0, lc_eq0, wl_wr, wr_wr, wl_id, true_and, and_true, true_or, or_true, not_true_eq_false, not_false_eq_true, nc0, nc1, nc2, nc3, nc4, nc5, nc6, nc7, nc8, nc9, nc10, nc11, nc12, nc13, nc14, nc15, nc16, nc17, nc18, nc19, nc20, nc21, nc22, nc23, nc35, nc47, nc59, nc60, nc61, nc73, nc74, nc214, nc215, nc1115, nc2230, nc3345, if_true, if_false, Int.reduceToNat, hk3, eb, ec, hk4, et]
