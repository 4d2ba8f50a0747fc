/-! the model: next -/
def pTk (a k : Nat) : Prop := a = 72 ∧ (k = 6 ∨ k = 7 ∨ k = 9 ∨ k = 10)
theorem MX.k {h h' : Hp} {T : Int → Int} {n : Int} (x : MX h T n) {p : Nat → Nat → Prop} (f : Fr p h h') (hp : ∀ a k, p a k → pTk a k) : MX h' T n := x.fr f (fun a k q => by have := hp a k q; unfold pTk at this; omega) (fun k q => by have := hp _ _ q; unfold pTk at this; omega) (fun q => by have := hp _ _ q; unfold pTk at this; omega)
theorem m_nx_1 {d : Nat} {T : Int → Int} {n : Int} : ∀ p, 0 ≤ p → p ≤ n → ∀ h, MX h T n → hI h 72 6 = p → ∃ h', EX (d+1) m_Mod_next 8 [(0, .inr (.inr (72)))] [] (h) = EX (d+1) m_Mod_next 47 [(0, .inr (.inr (72)))] [] (h') ∧ hI h' 72 6 = adv (qB T) p n ∧ Fr (fun a k => a = 72 ∧ k = 6) h h' := by
  refine up_ind (hi := n) ?_ ?_
  · intro p hp p0 p1 h x h6
    have es := m_see (d := d) x (k := p) (by have := x.2.2.2.2.2; omega)
    have hm := x.1
    rw [if_neg (show ¬ p < n by omega)] at es
    refine ⟨h, ?_, by rw [adv_stop hp, h6], Fr.rf⟩
    rw [Mod_next_8]
    simp (disch := omega) only [Mod_next_16, Mod_next_21, Mod_next_29, wr_id, ix_id, okx, if_pos, if_neg, Int.toNat_of_nonneg, bak_v, bak_n, wr_b01, wr_bt, b01_or, b01_0, b01_1, lc_lt0, lc_gt0, lc_eq0, wl_wr, wr_wr, wl_id, true_and, and_true, true_or, or_true, not_true_eq_false, not_false_eq_true, nc0, nc1, nc2, nc3, nc4, nc5, nc6, nc7, nc8, nc9, nc10, nc11, nc12, nc13, nc14, nc15, nc16, nc17, nc18, nc19, nc20, nc21, nc22, nc23, nc35, nc47, nc59, nc60, nc61, nc73, nc74, nc214, nc215, nc1115, nc2230, nc3345, if_true, if_false, Int.reduceToNat, hm.k, h6, es]
  · intro p hp ih p0 p1 h x h6
    have nr := x.2.2.2.2.2
    have es := m_see (d := d) x (k := p) (by omega)
    have hm := x.1
    have tr := x.2.2.2.1 p
    rw [if_pos hp] at es
    by_cases c : T p = 10 ∨ T p = 32
    · have qc : qB T p = true := by unfold qB; simp only [decide_eq_true_eq]; exact c
      have f0 : Fr (fun a k => a = 72 ∧ k = 6) h (pI h 72 6 (p + 1)) := Fr.pI Fr.rf ⟨rfl, rfl⟩
      obtain ⟨h2, e2, k2, f2⟩ := ih (by omega) (by omega) _ (x.k f0 (fun a k z => by unfold pTk; omega)) (by rw [hI_pI, if_pos ⟨rfl, rfl⟩])
      refine ⟨h2, ?_, by rw [adv_go hp qc]; exact k2, f0.tr f2⟩
      rw [Mod_next_8]
      by_cases c1 : T p = 10
      · rw [c1] at es
        simp (disch := omega) only [Mod_next_16, Mod_next_34, Mod_next_44, wr_id, ix_id, okx, if_pos, if_neg, Int.toNat_of_nonneg, bak_v, bak_n, wr_b01, wr_bt, b01_or, b01_0, b01_1, lc_lt0, lc_gt0, lc_eq0, wl_wr, wr_wr, wl_id, true_and, and_true, true_or, or_true, not_true_eq_false, not_false_eq_true, nc0, nc1, nc2, nc3, nc4, nc5, nc6, nc7, nc8, nc9, nc10, nc11, nc12, nc13, nc14, nc15, nc16, nc17, nc18, nc19, nc20, nc21, nc22, nc23, nc35, nc47, nc59, nc60, nc61, nc73, nc74, nc214, nc215, nc1115, nc2230, nc3345, if_true, if_false, Int.reduceToNat, hm.k, h6, es]
        exact e2
      · have c2 : T p = 32 := by omega
        rw [c2] at es
        simp (disch := omega) only [Mod_next_16, Mod_next_21, Mod_next_29, Mod_next_34, Mod_next_44, wr_id, ix_id, okx, if_pos, if_neg, Int.toNat_of_nonneg, bak_v, bak_n, wr_b01, wr_bt, b01_or, b01_0, b01_1, lc_lt0, lc_gt0, lc_eq0, wl_wr, wr_wr, wl_id, true_and, and_true, true_or, or_true, not_true_eq_false, not_false_eq_true, nc0, nc1, nc2, nc3, nc4, nc5, nc6, nc7, nc8, nc9, nc10, nc11, nc12, nc13, nc14, nc15, nc16, nc17, nc18, nc19, nc20, nc21, nc22, nc23, nc35, nc47, nc59, nc60, nc61, nc73, nc74, nc214, nc215, nc1115, nc2230, nc3345, if_true, if_false, Int.reduceToNat, hm.k, h6, es]
        exact e2
    · have qc : ¬ qB T p = true := by unfold qB; simp only [decide_eq_true_eq]; exact c
      refine ⟨h, ?_, by rw [adv_no hp qc, h6], Fr.rf⟩
      rw [Mod_next_8]
      simp (disch := omega) only [Mod_next_16, Mod_next_21, Mod_next_29, wr_id, ix_id, okx, if_pos, if_neg, Int.toNat_of_nonneg, bak_v, bak_n, wr_b01, wr_bt, b01_or, b01_0, b01_1, lc_lt0, lc_gt0, lc_eq0, wl_wr, wr_wr, wl_id, true_and, and_true, true_or, or_true, not_true_eq_false, not_false_eq_true, nc0, nc1, nc2, nc3, nc4, nc5, nc6, nc7, nc8, nc9, nc10, nc11, nc12, nc13, nc14, nc15, nc16, nc17, nc18, nc19, nc20, nc21, nc22, nc23, nc35, nc47, nc59, nc60, nc61, nc73, nc74, nc214, nc215, nc1115, nc2230, nc3345, if_true, if_false, Int.reduceToNat, hm.k, h6, es]
theorem m_nx_2 {d : Nat} {T : Int → Int} {n : Int} : ∀ p, 0 ≤ p → p ≤ n → ∀ h, MX h T n → hI h 72 7 = p → ∃ h', EX (d+1) m_Mod_next 89 [(0, .inr (.inr (72)))] [] (h) = EX (d+1) m_Mod_next 116 [(0, .inr (.inr (72)))] [] (h') ∧ hI h' 72 7 = adv (qL T) p n ∧ Fr (fun a k => a = 72 ∧ k = 7) h h' := by
  refine up_ind (hi := n) ?_ ?_
  · intro p hp p0 p1 h x h6
    have es := m_see (d := d) x (k := p) (by have := x.2.2.2.2.2; omega)
    have hm := x.1
    rw [if_neg (show ¬ p < n by omega)] at es
    have e2 := m_small (d := d) (h := h) (c := -1) (by omega)
    rw [show b01 ((97 : Int) ≤ -1 ∧ (-1 : Int) ≤ 122) = 0 from rfl] at e2
    refine ⟨h, ?_, by rw [adv_stop hp, h6], Fr.rf⟩
    rw [Mod_next_89]
    simp (disch := omega) only [Mod_next_97, Mod_next_100, wr_id, ix_id, okx, if_pos, if_neg, Int.toNat_of_nonneg, bak_v, bak_n, wr_b01, wr_bt, b01_or, b01_0, b01_1, lc_lt0, lc_gt0, lc_eq0, wl_wr, wr_wr, wl_id, true_and, and_true, true_or, or_true, not_true_eq_false, not_false_eq_true, nc0, nc1, nc2, nc3, nc4, nc5, nc6, nc7, nc8, nc9, nc10, nc11, nc12, nc13, nc14, nc15, nc16, nc17, nc18, nc19, nc20, nc21, nc22, nc23, nc35, nc47, nc59, nc60, nc61, nc73, nc74, nc214, nc215, nc1115, nc2230, nc3345, if_true, if_false, Int.reduceToNat, hm.k, h6, es, e2]
  · intro p hp ih p0 p1 h x h6
    have nr := x.2.2.2.2.2
    have es := m_see (d := d) x (k := p) (by omega)
    have hm := x.1
    have tr := x.2.2.2.1 p
    rw [if_pos hp] at es
    have e2 := m_small (d := d) (h := h) (c := T p) (by omega)
    by_cases c : 97 ≤ T p ∧ T p ≤ 122
    · have qc : qL T p = true := by unfold qL; simp only [decide_eq_true_eq]; exact c
      have b1 : b01 (97 ≤ T p ∧ T p ≤ 122) = 1 := by unfold b01; rw [if_pos c]
      rw [b1] at e2
      have f0 : Fr (fun a k => a = 72 ∧ k = 7) h (pI h 72 7 (p + 1)) := Fr.pI Fr.rf ⟨rfl, rfl⟩
      obtain ⟨h2, e3, k2, f2⟩ := ih (by omega) (by omega) _ (x.k f0 (fun a k z => by unfold pTk; omega)) (by rw [hI_pI, if_pos ⟨rfl, rfl⟩])
      refine ⟨h2, ?_, by rw [adv_go hp qc]; exact k2, f0.tr f2⟩
      rw [Mod_next_89]
      simp (disch := omega) only [Mod_next_97, Mod_next_100, Mod_next_103, Mod_next_113, wr_id, ix_id, okx, if_pos, if_neg, Int.toNat_of_nonneg, bak_v, bak_n, wr_b01, wr_bt, b01_or, b01_0, b01_1, lc_lt0, lc_gt0, lc_eq0, wl_wr, wr_wr, wl_id, true_and, and_true, true_or, or_true, not_true_eq_false, not_false_eq_true, nc0, nc1, nc2, nc3, nc4, nc5, nc6, nc7, nc8, nc9, nc10, nc11, nc12, nc13, nc14, nc15, nc16, nc17, nc18, nc19, nc20, nc21, nc22, nc23, nc35, nc47, nc59, nc60, nc61, nc73, nc74, nc214, nc215, nc1115, nc2230, nc3345, if_true, if_false, Int.reduceToNat, hm.k, h6, es, e2]
      exact e3
    · have qc : ¬ qL T p = true := by unfold qL; simp only [decide_eq_true_eq]; exact c
      have b1 : b01 (97 ≤ T p ∧ T p ≤ 122) = 0 := by unfold b01; rw [if_neg c]
      rw [b1] at e2
      refine ⟨h, ?_, by rw [adv_no hp qc, h6], Fr.rf⟩
      rw [Mod_next_89]
      simp (disch := omega) only [Mod_next_97, Mod_next_100, wr_id, ix_id, okx, if_pos, if_neg, Int.toNat_of_nonneg, bak_v, bak_n, wr_b01, wr_bt, b01_or, b01_0, b01_1, lc_lt0, lc_gt0, lc_eq0, wl_wr, wr_wr, wl_id, true_and, and_true, true_or, or_true, not_true_eq_false, not_false_eq_true, nc0, nc1, nc2, nc3, nc4, nc5, nc6, nc7, nc8, nc9, nc10, nc11, nc12, nc13, nc14, nc15, nc16, nc17, nc18, nc19, nc20, nc21, nc22, nc23, nc35, nc47, nc59, nc60, nc61, nc73, nc74, nc214, nc215, nc1115, nc2230, nc3345, if_true, if_false, Int.reduceToNat, hm.k, h6, es, e2]
theorem m_nx_3 {d : Nat} {T : Int → Int} {n a : Int} (a0 : 0 ≤ a) : ∀ p, a ≤ p → p ≤ n → ∀ h v, MX h T n → hI h 72 6 = a → hI h 72 7 = p → hI h 72 10 = v → ∃ h', EX (d+1) m_Mod_next 146 [(0, .inr (.inr (72)))] [] (h) = EX (d+1) m_Mod_next 209 [(0, .inr (.inr (72)))] [] (h') ∧ hI h' 72 7 = adv (qD T) p n ∧ hI h' 72 10 = fo (nuF T a) p (adv (qD T) p n) v ∧ Fr (fun a k => a = 72 ∧ (k = 7 ∨ k = 10)) h h' := by
  refine up_ind (hi := n) ?_ ?_
  · intro p hp p0 p1 h v x h6 h7 h10
    have es := m_see (d := d) x (k := p) (by have := x.2.2.2.2.2; omega)
    have hm := x.1
    rw [if_neg (show ¬ p < n by omega)] at es
    have e2 := m_digit (d := d) (h := h) (c := -1) (by omega)
    rw [show b01 ((48 : Int) ≤ -1 ∧ (-1 : Int) ≤ 57) = 0 from rfl] at e2
    refine ⟨h, ?_, by rw [adv_stop hp, h7], by rw [adv_stop hp, fo_stop (Int.le_refl _), h10], Fr.rf⟩
    rw [Mod_next_146]
    simp (disch := omega) only [Mod_next_154, Mod_next_157, wr_id, ix_id, okx, if_pos, if_neg, Int.toNat_of_nonneg, bak_v, bak_n, wr_b01, wr_bt, b01_or, b01_0, b01_1, lc_lt0, lc_gt0, lc_eq0, wl_wr, wr_wr, wl_id, true_and, and_true, true_or, or_true, not_true_eq_false, not_false_eq_true, nc0, nc1, nc2, nc3, nc4, nc5, nc6, nc7, nc8, nc9, nc10, nc11, nc12, nc13, nc14, nc15, nc16, nc17, nc18, nc19, nc20, nc21, nc22, nc23, nc35, nc47, nc59, nc60, nc61, nc73, nc74, nc214, nc215, nc1115, nc2230, nc3345, if_true, if_false, Int.reduceToNat, hm.k, h7, es, e2]
  · intro p hp ih p0 p1 h v x h6 h7 h10
    have nr := x.2.2.2.2.2
    have es := m_see (d := d) x (k := p) (by omega)
    have hm := x.1
    have tr := x.2.2.2.1 p
    rw [if_pos hp] at es
    have e2 := m_digit (d := d) (h := h) (c := T p) (by omega)
    by_cases c : 48 ≤ T p ∧ T p ≤ 57
    · have qc : qD T p = true := by unfold qD; simp only [decide_eq_true_eq]; exact c
      have ap := adv_pos hp qc
      have b1 : b01 (48 ≤ T p ∧ T p ≤ 57) = 1 := by unfold b01; rw [if_pos c]
      rw [b1] at e2
      by_cases c3 : p - a < 3
      · have f0 : Fr (fun a k => a = 72 ∧ (k = 7 ∨ k = 10)) h (pI (pI h 72 10 (10 * v + T p - 48)) 72 7 (p + 1)) := Fr.pI (Fr.pI Fr.rf ⟨rfl, Or.inr rfl⟩) ⟨rfl, Or.inl rfl⟩
        obtain ⟨h2, e3, k2, l2, f2⟩ := ih (by omega) (by omega) _ (10 * v + T p - 48) (x.k f0 (fun a k z => by unfold pTk; omega)) (by rw [f0.I (by omega)]; exact h6) (by rw [hI_pI, if_pos ⟨rfl, rfl⟩]) (by simp [hI_pI])
        refine ⟨h2, ?_, by rw [adv_go hp qc]; exact k2, ?_, f0.tr f2⟩
        · rw [Mod_next_146]
          simp (disch := omega) only [Mod_next_154, Mod_next_157, Mod_next_160, Mod_next_173, Mod_next_189, Mod_next_196, Mod_next_206, wr_id, ix_id, okx, if_pos, if_neg, Int.toNat_of_nonneg, bak_v, bak_n, wr_b01, wr_bt, b01_or, b01_0, b01_1, lc_lt0, lc_gt0, lc_eq0, wl_wr, wr_wr, wl_id, true_and, and_true, true_or, or_true, not_true_eq_false, not_false_eq_true, nc0, nc1, nc2, nc3, nc4, nc5, nc6, nc7, nc8, nc9, nc10, nc11, nc12, nc13, nc14, nc15, nc16, nc17, nc18, nc19, nc20, nc21, nc22, nc23, nc35, nc47, nc59, nc60, nc61, nc73, nc74, nc214, nc215, nc1115, nc2230, nc3345, if_true, if_false, Int.reduceToNat, hm.k, h6, h7, h10, es, e2, sK_pI, hI_pI]
          exact e3
        · rw [l2, fo_step (show p < adv (qD T) p n by omega), ← adv_go hp qc]
          have : nuF T a p v = 10 * v + T p - 48 := by unfold nuF; rw [if_pos c3]
          rw [this]
      · have f0 : Fr (fun a k => a = 72 ∧ (k = 7 ∨ k = 10)) h (pI h 72 7 (p + 1)) := Fr.pI Fr.rf ⟨rfl, Or.inl rfl⟩
        obtain ⟨h2, e3, k2, l2, f2⟩ := ih (by omega) (by omega) _ v (x.k f0 (fun a k z => by unfold pTk; omega)) (by rw [f0.I (by omega)]; exact h6) (by rw [hI_pI, if_pos ⟨rfl, rfl⟩]) (by rw [hI_pI, if_neg (by omega)]; exact h10)
        refine ⟨h2, ?_, by rw [adv_go hp qc]; exact k2, ?_, f0.tr f2⟩
        · rw [Mod_next_146]
          simp (disch := omega) only [Mod_next_154, Mod_next_157, Mod_next_160, Mod_next_196, Mod_next_206, wr_id, ix_id, okx, if_pos, if_neg, Int.toNat_of_nonneg, bak_v, bak_n, wr_b01, wr_bt, b01_or, b01_0, b01_1, lc_lt0, lc_gt0, lc_eq0, wl_wr, wr_wr, wl_id, true_and, and_true, true_or, or_true, not_true_eq_false, not_false_eq_true, nc0, nc1, nc2, nc3, nc4, nc5, nc6, nc7, nc8, nc9, nc10, nc11, nc12, nc13, nc14, nc15, nc16, nc17, nc18, nc19, nc20, nc21, nc22, nc23, nc35, nc47, nc59, nc60, nc61, nc73, nc74, nc214, nc215, nc1115, nc2230, nc3345, if_true, if_false, Int.reduceToNat, hm.k, h6, h7, h10, es, e2, sK_pI, hI_pI]
          exact e3
        · rw [l2, fo_step (show p < adv (qD T) p n by omega), ← adv_go hp qc]
          have : nuF T a p v = v := by unfold nuF; rw [if_neg c3]
          rw [this]
    · have qc : ¬ qD T p = true := by unfold qD; simp only [decide_eq_true_eq]; exact c
      have b1 : b01 (48 ≤ T p ∧ T p ≤ 57) = 0 := by unfold b01; rw [if_neg c]
      rw [b1] at e2
      refine ⟨h, ?_, by rw [adv_no hp qc, h7], by rw [adv_no hp qc, fo_stop (Int.le_refl _), h10], Fr.rf⟩
      rw [Mod_next_146]
      simp (disch := omega) only [Mod_next_154, Mod_next_157, wr_id, ix_id, okx, if_pos, if_neg, Int.toNat_of_nonneg, bak_v, bak_n, wr_b01, wr_bt, b01_or, b01_0, b01_1, lc_lt0, lc_gt0, lc_eq0, wl_wr, wr_wr, wl_id, true_and, and_true, true_or, or_true, not_true_eq_false, not_false_eq_true, nc0, nc1, nc2, nc3, nc4, nc5, nc6, nc7, nc8, nc9, nc10, nc11, nc12, nc13, nc14, nc15, nc16, nc17, nc18, nc19, nc20, nc21, nc22, nc23, nc35, nc47, nc59, nc60, nc61, nc73, nc74, nc214, nc215, nc1115, nc2230, nc3345, if_true, if_false, Int.reduceToNat, hm.k, h7, es, e2]
def sgF (c : Int) : Int → Int → Int := fun k m => if c = txF 1 k then 25 + k else m
theorem tx1_rng : ∀ k : Fin 12, 0 ≤ txF 1 (k.1 : Int) ∧ txF 1 (k.1 : Int) ≤ 255 := by decide +kernel
theorem m_nx_4 {d : Nat} {T : Int → Int} {n a : Int} (a0 : 0 ≤ a) (a1 : a < n) : ∀ k, 0 ≤ k → k ≤ 12 → ∀ h v, MX h T n → hI h 72 6 = a → hI h 72 9 = v → ∃ h', EX (d+1) m_Mod_next 254 [(0, .inr (.inr (72))), (1, .inl (k))] [] (h) = some (.inl 0, h') ∧ hI h' 72 9 = fo (sgF (T a)) k 12 v ∧ Fr (fun a k => a = 72 ∧ k = 9) h h' := by
  refine up_ind (hi := 12) ?_ ?_
  · intro k hk k0 k1 h v x h6 h9
    have st := x.2.1
    have sl3 : sL h 3 = 12 := by rw [sL_eq, st.2.1.2.1]; rfl
    refine ⟨h, ?_, by rw [fo_stop hk, h9], Fr.rf⟩
    rw [Mod_next_254]
    simp (disch := omega) only [Mod_next_294, wr_id, ix_id, okx, if_pos, if_neg, Int.toNat_of_nonneg, bak_v, bak_n, wr_b01, wr_bt, b01_or, b01_0, b01_1, lc_lt0, lc_gt0, lc_eq0, wl_wr, wr_wr, wl_id, true_and, and_true, true_or, or_true, not_true_eq_false, not_false_eq_true, nc0, nc1, nc2, nc3, nc4, nc5, nc6, nc7, nc8, nc9, nc10, nc11, nc12, nc13, nc14, nc15, nc16, nc17, nc18, nc19, nc20, nc21, nc22, nc23, nc35, nc47, nc59, nc60, nc61, nc73, nc74, nc214, nc215, nc1115, nc2230, nc3345, if_true, if_false, Int.reduceToNat, cs1, st.1.2.1, sl3]
  · intro k hk ih k0 k1 h v x h6 h9
    have nr := x.2.2.2.2.2
    have st := x.2.1
    have sl3 : sL h 3 = 12 := by rw [sL_eq, st.2.1.2.1]; rfl
    have es := m_see (d := d) x (k := a) (by omega)
    have hm := x.1
    have tr := x.2.2.2.1 a
    rw [if_pos a1] at es
    have e3 := st.2.2.2.1 k.toNat
    rw [Int.toNat_of_nonneg k0] at e3
    have xr := tx1_rng ⟨k.toNat, by omega⟩
    have xr' : 0 ≤ txF 1 k ∧ txF 1 k ≤ 255 := by
      rw [show ((⟨k.toNat, by omega⟩ : Fin 12).1 : Int) = k by show ((k.toNat : Nat) : Int) = k; omega] at xr
      exact xr
    rw [fo_step hk]
    by_cases c : T a = txF 1 k
    · have f0 : Fr (fun a k => a = 72 ∧ k = 9) h (pI h 72 9 (25 + k)) := Fr.pI Fr.rf ⟨rfl, rfl⟩
      obtain ⟨h2, e2, k2, f2⟩ := ih (by omega) (by omega) _ (25 + k) (x.k f0 (fun a k z => by unfold pTk; omega)) (by rw [f0.I (by omega)]; exact h6) (by rw [hI_pI, if_pos ⟨rfl, rfl⟩])
      refine ⟨h2, ?_, ?_, f0.tr f2⟩
      · rw [Mod_next_254]
        simp (disch := omega) only [Mod_next_263, Mod_next_271, Mod_next_280, Mod_next_288, wr_id, ix_id, okx, if_pos, if_neg, Int.toNat_of_nonneg, bak_v, bak_n, wr_b01, wr_bt, b01_or, b01_0, b01_1, lc_lt0, lc_gt0, lc_eq0, wl_wr, wr_wr, wl_id, true_and, and_true, true_or, or_true, not_true_eq_false, not_false_eq_true, nc0, nc1, nc2, nc3, nc4, nc5, nc6, nc7, nc8, nc9, nc10, nc11, nc12, nc13, nc14, nc15, nc16, nc17, nc18, nc19, nc20, nc21, nc22, nc23, nc35, nc47, nc59, nc60, nc61, nc73, nc74, nc214, nc215, nc1115, nc2230, nc3345, if_true, if_false, Int.reduceToNat, cs1, cs0, st.1.2.1, st.2.1.2.1, sl3, hm.k, h6, es, e3]
        exact e2
      · rw [k2]; unfold sgF; rw [if_pos c]
    · obtain ⟨h2, e2, k2, f2⟩ := ih (by omega) (by omega) h v x h6 h9
      refine ⟨h2, ?_, ?_, f2⟩
      · rw [Mod_next_254]
        simp (disch := omega) only [Mod_next_263, Mod_next_271, Mod_next_288, wr_id, ix_id, okx, if_pos, if_neg, Int.toNat_of_nonneg, bak_v, bak_n, wr_b01, wr_bt, b01_or, b01_0, b01_1, lc_lt0, lc_gt0, lc_eq0, wl_wr, wr_wr, wl_id, true_and, and_true, true_or, or_true, not_true_eq_false, not_false_eq_true, nc0, nc1, nc2, nc3, nc4, nc5, nc6, nc7, nc8, nc9, nc10, nc11, nc12, nc13, nc14, nc15, nc16, nc17, nc18, nc19, nc20, nc21, nc22, nc23, nc35, nc47, nc59, nc60, nc61, nc73, nc74, nc214, nc215, nc1115, nc2230, nc3345, if_true, if_false, Int.reduceToNat, cs1, cs0, st.1.2.1, st.2.1.2.1, sl3, hm.k, h6, es, e3]
        exact e2
      · rw [k2]; unfold sgF; rw [if_neg c]
theorem sg_eq (c : Int) : fo (sgF c) 0 12 23 = sgK c := by
  have t0 : txF 1 0 = 59 := rfl
  have t1 : txF 1 1 = 58 := rfl
  have t2 : txF 1 2 = 43 := rfl
  have t3 : txF 1 3 = 45 := rfl
  have t4 : txF 1 4 = 42 := rfl
  have t5 : txF 1 5 = 40 := rfl
  have t6 : txF 1 6 = 41 := rfl
  have t7 : txF 1 7 = 91 := rfl
  have t8 : txF 1 8 = 93 := rfl
  have t9 : txF 1 9 = 61 := rfl
  have t10 : txF 1 10 = 60 := rfl
  have t11 : txF 1 11 = 62 := rfl
  rw [fo_step (show (0 : Int) < 12 by omega), show (0 : Int) + 1 = 1 from rfl, fo_step (show (1 : Int) < 12 by omega), show (1 : Int) + 1 = 2 from rfl, fo_step (show (2 : Int) < 12 by omega), show (2 : Int) + 1 = 3 from rfl, fo_step (show (3 : Int) < 12 by omega), show (3 : Int) + 1 = 4 from rfl, fo_step (show (4 : Int) < 12 by omega), show (4 : Int) + 1 = 5 from rfl, fo_step (show (5 : Int) < 12 by omega), show (5 : Int) + 1 = 6 from rfl, fo_step (show (6 : Int) < 12 by omega), show (6 : Int) + 1 = 7 from rfl, fo_step (show (7 : Int) < 12 by omega), show (7 : Int) + 1 = 8 from rfl, fo_step (show (8 : Int) < 12 by omega), show (8 : Int) + 1 = 9 from rfl, fo_step (show (9 : Int) < 12 by omega), show (9 : Int) + 1 = 10 from rfl, fo_step (show (10 : Int) < 12 by omega), show (10 : Int) + 1 = 11 from rfl, fo_step (show (11 : Int) < 12 by omega), show (11 : Int) + 1 = 12 from rfl, fo_stop (show (12 : Int) ≤ 12 by omega)]
  unfold sgF sgK
  rw [t0, t1, t2, t3, t4, t5, t6, t7, t8, t9, t10, t11]
  by_cases c59 : c = 59
  · subst c59; rfl
  by_cases c58 : c = 58
  · subst c58; rfl
  by_cases c43 : c = 43
  · subst c43; rfl
  by_cases c45 : c = 45
  · subst c45; rfl
  by_cases c42 : c = 42
  · subst c42; rfl
  by_cases c40 : c = 40
  · subst c40; rfl
  by_cases c41 : c = 41
  · subst c41; rfl
  by_cases c91 : c = 91
  · subst c91; rfl
  by_cases c93 : c = 93
  · subst c93; rfl
  by_cases c61 : c = 61
  · subst c61; rfl
  by_cases c60 : c = 60
  · subst c60; rfl
  by_cases c62 : c = 62
  · subst c62; rfl
  simp only [c59, c58, c43, c45, c42, c40, c41, c91, c93, c61, c60, c62, if_false]
theorem m_next {d : Nat} {h : Hp} {T : Int → Int} {n p : Int} (x : MX h T n) (h7 : hI h 72 7 = p) (hp : 0 ≤ p ∧ p ≤ n) : ∃ h', cal (d+2) m_Mod_next [.inr (.inr (72))] (h) = some (.inl 0, h') ∧ MK h' T n (sk T n p) ∧ Fr pTk h h' := by
  have hm := x.1
  have f0 : Fr pTk h (pI h 72 6 p) := Fr.pI Fr.rf ⟨rfl, Or.inl rfl⟩
  obtain ⟨h1, e1, k1, f1⟩ := m_nx_1 (d := d) p hp.1 hp.2 _ (x.k f0 (fun _ _ z => z)) (by rw [hI_pI, if_pos ⟨rfl, rfl⟩])
  have g1 : Fr pTk (pI h 72 6 p) h1 := f1.mo (fun a k z => by unfold pTk; omega)
  have x1 := (x.k f0 (fun _ _ z => z)).k g1 (fun _ _ z => z)
  have sr := sk_rng (T := T) hp.2
  change hI h1 72 6 = sk T n p at k1
  generalize sk T n p = a at *
  have hm1 := x1.1
  have f2 : Fr pTk h1 (pI h1 72 7 a) := Fr.pI Fr.rf ⟨rfl, Or.inr (Or.inl rfl)⟩
  have x2 := x1.k f2 (fun _ _ z => z)
  have hm2 := x2.1
  have i6 : hI (pI h1 72 7 a) 72 6 = a := by rw [hI_pI, if_neg (by omega)]; exact k1
  have i7 : hI (pI h1 72 7 a) 72 7 = a := by rw [hI_pI, if_pos ⟨rfl, rfl⟩]
  have st : cal (d+2) m_Mod_next [.inr (.inr (72))] (h) = EX (d+1) m_Mod_next 55 [(0, .inr (.inr (72)))] [] (pI h1 72 7 a) := by
    show EX (d+1) m_Mod_next 0 [(0, .inr (.inr (72)))] [] (h) = _
    simp (disch := omega) only [Mod_next_0, wr_id, ix_id, okx, if_pos, if_neg, Int.toNat_of_nonneg, bak_v, bak_n, wr_b01, wr_bt, b01_or, b01_0, b01_1, lc_lt0, lc_gt0, lc_eq0, wl_wr, wr_wr, wl_id, true_and, and_true, true_or, or_true, not_true_eq_false, not_false_eq_true, nc0, nc1, nc2, nc3, nc4, nc5, nc6, nc7, nc8, nc9, nc10, nc11, nc12, nc13, nc14, nc15, nc16, nc17, nc18, nc19, nc20, nc21, nc22, nc23, nc35, nc47, nc59, nc60, nc61, nc73, nc74, nc214, nc215, nc1115, nc2230, nc3345, if_true, if_false, Int.reduceToNat, hm.k, h7]
    refine e1.trans ?_
    simp (disch := omega) only [Mod_next_47, wr_id, ix_id, okx, if_pos, if_neg, Int.toNat_of_nonneg, bak_v, bak_n, wr_b01, wr_bt, b01_or, b01_0, b01_1, lc_lt0, lc_gt0, lc_eq0, wl_wr, wr_wr, wl_id, true_and, and_true, true_or, or_true, not_true_eq_false, not_false_eq_true, nc0, nc1, nc2, nc3, nc4, nc5, nc6, nc7, nc8, nc9, nc10, nc11, nc12, nc13, nc14, nc15, nc16, nc17, nc18, nc19, nc20, nc21, nc22, nc23, nc35, nc47, nc59, nc60, nc61, nc73, nc74, nc214, nc215, nc1115, nc2230, nc3345, if_true, if_false, Int.reduceToNat, hm1.k, k1]
  have ff := (f0.tr g1).tr f2
  generalize hq : pI h1 72 7 a = h2 at *
  obtain ⟨-, st2, tp2, to, e8, nr⟩ := id x2
  by_cases c0 : a < n
  · have es := m_see (d := d) x2 (k := a) (by omega)
    rw [if_pos c0] at es
    have tr := to a
    have em := m_small (d := d) (h := h2) (c := T a) (by omega)
    by_cases cl : 97 ≤ T a ∧ T a ≤ 122
    · have ql : qL T a = true := by unfold qL; simp only [decide_eq_true_eq]; exact cl
      have b1 : b01 (97 ≤ T a ∧ T a ≤ 122) = 1 := by unfold b01; rw [if_pos cl]
      rw [b1] at em
      obtain ⟨h3, e3, k3, f3⟩ := m_nx_2 (d := d) a (by omega) (by omega) h2 x2 i7
      have g3 : Fr pTk h2 h3 := f3.mo (fun a k z => by unfold pTk; omega)
      have x3 := x2.k g3 (fun _ _ z => z)
      have ar := adv_rng (q := qL T) (n := n) a (by omega)
      have i63 : hI h3 72 6 = a := by rw [f3.I (by omega)]; exact i6
      have ek := m_keyAt (d := d) x3 i63 k3 (by omega)
      have f4 : Fr pTk h3 (pI h3 72 9 (kwL Wm 0 20 (txt T a (adv (qL T) a n)))) := Fr.pI Fr.rf ⟨rfl, Or.inr (Or.inr (Or.inl rfl))⟩
      have hm3 := x3.1
      have kk : tkK T n a = kwL Wm 0 20 (txt T a (adv (qL T) a n)) := by unfold tkK; rw [if_neg (by omega), if_pos ql]
      refine ⟨_, ?_, ⟨?_, ?_, ?_, fun z => ?_⟩, (ff.tr g3).tr f4⟩
      · refine st.trans ?_
        simp (disch := omega) only [Mod_next_55, Mod_next_75, Mod_next_83, Mod_next_86, wr_id, ix_id, okx, if_pos, if_neg, Int.toNat_of_nonneg, bak_v, bak_n, wr_b01, wr_bt, b01_or, b01_0, b01_1, lc_lt0, lc_gt0, lc_eq0, wl_wr, wr_wr, wl_id, true_and, and_true, true_or, or_true, not_true_eq_false, not_false_eq_true, nc0, nc1, nc2, nc3, nc4, nc5, nc6, nc7, nc8, nc9, nc10, nc11, nc12, nc13, nc14, nc15, nc16, nc17, nc18, nc19, nc20, nc21, nc22, nc23, nc35, nc47, nc59, nc60, nc61, nc73, nc74, nc214, nc215, nc1115, nc2230, nc3345, if_true, if_false, Int.reduceToNat, hm2.k, i6, e8, es, em]
        refine e3.trans ?_
        simp (disch := omega) only [Mod_next_116, Mod_next_121, Mod_next_124, Mod_next_294, wr_id, ix_id, okx, if_pos, if_neg, Int.toNat_of_nonneg, bak_v, bak_n, wr_b01, wr_bt, b01_or, b01_0, b01_1, lc_lt0, lc_gt0, lc_eq0, wl_wr, wr_wr, wl_id, true_and, and_true, true_or, or_true, not_true_eq_false, not_false_eq_true, nc0, nc1, nc2, nc3, nc4, nc5, nc6, nc7, nc8, nc9, nc10, nc11, nc12, nc13, nc14, nc15, nc16, nc17, nc18, nc19, nc20, nc21, nc22, nc23, nc35, nc47, nc59, nc60, nc61, nc73, nc74, nc214, nc215, nc1115, nc2230, nc3345, if_true, if_false, Int.reduceToNat, hm3.k, ek]
      · rw [hI_pI, if_neg (by omega)]; exact i63
      · rw [hI_pI, if_neg (by omega), k3]
        unfold tkE
        rw [if_neg (by omega), if_pos ql]
      · rw [hI_pI, if_pos ⟨rfl, rfl⟩, kk]
      · exact absurd ql (tkK_21 z).2.1
    · have ql : ¬ qL T a = true := by unfold qL; simp only [decide_eq_true_eq]; exact cl
      have b1 : b01 (97 ≤ T a ∧ T a ≤ 122) = 0 := by unfold b01; rw [if_neg cl]
      rw [b1] at em
      have ed := m_digit (d := d) (h := h2) (c := T a) (by omega)
      by_cases cd : 48 ≤ T a ∧ T a ≤ 57
      · have qd : qD T a = true := by unfold qD; simp only [decide_eq_true_eq]; exact cd
        have b2 : b01 (48 ≤ T a ∧ T a ≤ 57) = 1 := by unfold b01; rw [if_pos cd]
        rw [b2] at ed
        have f3 : Fr pTk h2 (pI h2 72 10 0) := Fr.pI Fr.rf ⟨rfl, Or.inr (Or.inr (Or.inr rfl))⟩
        obtain ⟨h4, e4, k4, l4, f4⟩ := m_nx_3 (d := d) (a := a) (by omega) a (by omega) (by omega) (pI h2 72 10 0) 0 (x2.k f3 (fun _ _ z => z)) (by rw [hI_pI, if_neg (by omega)]; exact i6) (by rw [hI_pI, if_neg (by omega)]; exact i7) (by rw [hI_pI, if_pos ⟨rfl, rfl⟩])
        have g4 : Fr pTk (pI h2 72 10 0) h4 := f4.mo (fun a k z => by unfold pTk; omega)
        have x4 := (x2.k f3 (fun _ _ z => z)).k g4 (fun _ _ z => z)
        have hm4 := x4.1
        have ar := adv_rng (q := qD T) (n := n) a (by omega)
        have i64 : hI h4 72 6 = a := by rw [f4.I (by omega), hI_pI, if_neg (by omega)]; exact i6
        have kk : tkK T n a = if 3 < adv (qD T) a n - a then 23 else 21 := by unfold tkK; rw [if_neg (by omega), if_neg ql, if_pos qd]
        have ee : tkE T n a = adv (qD T) a n := by unfold tkE; rw [if_neg (by omega), if_neg ql, if_pos qd]
        have f5 : Fr pTk h4 (pI h4 72 9 (tkK T n a)) := Fr.pI Fr.rf ⟨rfl, Or.inr (Or.inr (Or.inl rfl))⟩
        refine ⟨pI h4 72 9 (tkK T n a), ?_, ⟨?_, ?_, ?_, fun z => ?_⟩, (ff.tr f3).tr (g4.tr f5)⟩
        · refine st.trans ?_
          simp (disch := omega) only [Mod_next_55, Mod_next_75, Mod_next_83, Mod_next_86, Mod_next_127, Mod_next_135, Mod_next_138, Mod_next_141, wr_id, ix_id, okx, if_pos, if_neg, Int.toNat_of_nonneg, bak_v, bak_n, wr_b01, wr_bt, b01_or, b01_0, b01_1, lc_lt0, lc_gt0, lc_eq0, wl_wr, wr_wr, wl_id, true_and, and_true, true_or, or_true, not_true_eq_false, not_false_eq_true, nc0, nc1, nc2, nc3, nc4, nc5, nc6, nc7, nc8, nc9, nc10, nc11, nc12, nc13, nc14, nc15, nc16, nc17, nc18, nc19, nc20, nc21, nc22, nc23, nc35, nc47, nc59, nc60, nc61, nc73, nc74, nc214, nc215, nc1115, nc2230, nc3345, if_true, if_false, Int.reduceToNat, hm2.k, i6, e8, es, em, ed]
          refine e4.trans ?_
          rw [kk]
          by_cases c3 : 3 < adv (qD T) a n - a
          · rw [if_pos c3]
            simp (disch := omega) only [Mod_next_209, Mod_next_223, Mod_next_230, Mod_next_233, Mod_next_294, wr_id, ix_id, okx, if_pos, if_neg, Int.toNat_of_nonneg, bak_v, bak_n, wr_b01, wr_bt, b01_or, b01_0, b01_1, lc_lt0, lc_gt0, lc_eq0, wl_wr, wr_wr, wl_id, true_and, and_true, true_or, or_true, not_true_eq_false, not_false_eq_true, nc0, nc1, nc2, nc3, nc4, nc5, nc6, nc7, nc8, nc9, nc10, nc11, nc12, nc13, nc14, nc15, nc16, nc17, nc18, nc19, nc20, nc21, nc22, nc23, nc35, nc47, nc59, nc60, nc61, nc73, nc74, nc214, nc215, nc1115, nc2230, nc3345, if_true, if_false, Int.reduceToNat, hm4.k, i64, k4]
          · rw [if_neg c3]
            simp (disch := omega) only [Mod_next_209, Mod_next_228, Mod_next_230, Mod_next_233, Mod_next_294, wr_id, ix_id, okx, if_pos, if_neg, Int.toNat_of_nonneg, bak_v, bak_n, wr_b01, wr_bt, b01_or, b01_0, b01_1, lc_lt0, lc_gt0, lc_eq0, wl_wr, wr_wr, wl_id, true_and, and_true, true_or, or_true, not_true_eq_false, not_false_eq_true, nc0, nc1, nc2, nc3, nc4, nc5, nc6, nc7, nc8, nc9, nc10, nc11, nc12, nc13, nc14, nc15, nc16, nc17, nc18, nc19, nc20, nc21, nc22, nc23, nc35, nc47, nc59, nc60, nc61, nc73, nc74, nc214, nc215, nc1115, nc2230, nc3345, if_true, if_false, Int.reduceToNat, hm4.k, i64, k4]
        · rw [hI_pI, if_neg (by omega)]; exact i64
        · rw [hI_pI, if_neg (by omega), k4, ee]
        · rw [hI_pI, if_pos ⟨rfl, rfl⟩]
        · rw [hI_pI, if_neg (by omega), l4]
          rfl
      · have qd : ¬ qD T a = true := by unfold qD; simp only [decide_eq_true_eq]; exact cd
        have b2 : b01 (48 ≤ T a ∧ T a ≤ 57) = 0 := by unfold b01; rw [if_neg cd]
        rw [b2] at ed
        have f3 : Fr pTk h2 (pI (pI h2 72 7 (a + 1)) 72 9 23) := Fr.pI (Fr.pI Fr.rf ⟨rfl, Or.inr (Or.inl rfl)⟩) ⟨rfl, Or.inr (Or.inr (Or.inl rfl))⟩
        obtain ⟨h4, e4, k4, f4⟩ := m_nx_4 (d := d) (a := a) (by omega) c0 0 (by omega) (by omega) (pI (pI h2 72 7 (a + 1)) 72 9 23) 23 (x2.k f3 (fun _ _ z => z)) (by rw [hI_pI, if_neg (by omega), hI_pI, if_neg (by omega)]; exact i6) (by rw [hI_pI, if_pos ⟨rfl, rfl⟩])
        have g4 : Fr pTk (pI (pI h2 72 7 (a + 1)) 72 9 23) h4 := f4.mo (fun a k z => by unfold pTk; omega)
        rw [sg_eq] at k4
        have kk : tkK T n a = sgK (T a) := by unfold tkK; rw [if_neg (by omega), if_neg ql, if_neg qd]
        refine ⟨h4, ?_, ⟨?_, ?_, ?_, fun z => ?_⟩, (ff.tr f3).tr g4⟩
        · refine st.trans ?_
          simp (disch := omega) only [Mod_next_55, Mod_next_75, Mod_next_83, Mod_next_86, Mod_next_127, Mod_next_135, Mod_next_138, Mod_next_236, Mod_next_246, Mod_next_252, wr_id, ix_id, okx, if_pos, if_neg, Int.toNat_of_nonneg, bak_v, bak_n, wr_b01, wr_bt, b01_or, b01_0, b01_1, lc_lt0, lc_gt0, lc_eq0, wl_wr, wr_wr, wl_id, true_and, and_true, true_or, or_true, not_true_eq_false, not_false_eq_true, nc0, nc1, nc2, nc3, nc4, nc5, nc6, nc7, nc8, nc9, nc10, nc11, nc12, nc13, nc14, nc15, nc16, nc17, nc18, nc19, nc20, nc21, nc22, nc23, nc35, nc47, nc59, nc60, nc61, nc73, nc74, nc214, nc215, nc1115, nc2230, nc3345, if_true, if_false, Int.reduceToNat, hm2.k, i6, i7, e8, es, em, ed, sK_pI]
          exact e4
        · rw [f4.I (by omega), hI_pI, if_neg (by omega), hI_pI, if_neg (by omega)]; exact i6
        · rw [f4.I (by omega), hI_pI, if_neg (by omega), hI_pI, if_pos ⟨rfl, rfl⟩]
          unfold tkE
          rw [if_neg (by omega), if_neg ql, if_neg qd]
        · rw [k4, kk]
        · exact absurd (tkK_21 z).2.2 qd
  · have f3 : Fr pTk h2 (pI h2 72 9 22) := Fr.pI Fr.rf ⟨rfl, Or.inr (Or.inr (Or.inl rfl))⟩
    have kk : tkK T n a = 22 := by unfold tkK; rw [if_pos (by omega)]
    refine ⟨pI h2 72 9 22, ?_, ⟨?_, ?_, ?_, fun z => ?_⟩, ff.tr f3⟩
    · refine st.trans ?_
      simp (disch := omega) only [Mod_next_55, Mod_next_66, Mod_next_72, Mod_next_294, wr_id, ix_id, okx, if_pos, if_neg, Int.toNat_of_nonneg, bak_v, bak_n, wr_b01, wr_bt, b01_or, b01_0, b01_1, lc_lt0, lc_gt0, lc_eq0, wl_wr, wr_wr, wl_id, true_and, and_true, true_or, or_true, not_true_eq_false, not_false_eq_true, nc0, nc1, nc2, nc3, nc4, nc5, nc6, nc7, nc8, nc9, nc10, nc11, nc12, nc13, nc14, nc15, nc16, nc17, nc18, nc19, nc20, nc21, nc22, nc23, nc35, nc47, nc59, nc60, nc61, nc73, nc74, nc214, nc215, nc1115, nc2230, nc3345, if_true, if_false, Int.reduceToNat, hm2.k, i6, e8]
    · rw [hI_pI, if_neg (by omega)]; exact i6
    · rw [hI_pI, if_neg (by omega), i7]
      unfold tkE
      rw [if_pos (by omega)]
    · rw [hI_pI, if_pos ⟨rfl, rfl⟩, kk]
    · omega
