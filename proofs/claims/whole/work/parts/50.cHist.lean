/-! the class: push and pop -/
theorem bRem_e {a b : Int} (ha : 0 ≤ a ∧ a ≤ 2147483647) (hb : 0 < b ∧ b ≤ 2147483647) : bRem a b = a % b := by
  unfold bRem
  rw [wr_id (by omega) (by omega), wr_id (by omega) (by omega), Int.tmod_eq_emod_of_nonneg ha.1]
theorem bDiv_e {a b : Int} (ha : 0 ≤ a ∧ a ≤ 2147483647) (hb : 0 < b ∧ b ≤ 2147483647) : bDiv a b = a / b := by
  unfold bDiv
  rw [wr_id (by omega) (by omega), wr_id (by omega) (by omega), Int.tdiv_eq_ediv_of_nonneg ha.1]
theorem HisV.cg {h : Hp} {S S' : Int → Int} (v : HisV h S) (e : ∀ k, 73 ≤ k → k < 214 → S' k = S k) : HisV h S' := by
  obtain ⟨v1, v2, v3, v4, v5⟩ := v
  have e1 := e 73 (by omega) (by omega)
  refine ⟨v1, by rw [e1]; exact v2, by rw [e1]; exact v3, v4, fun j h0 h1 => ?_⟩
  rw [e1] at h1 ⊢
  obtain ⟨a, b, c⟩ := v5 j h0 h1
  refine ⟨fun k hk => ?_, ?_, ?_⟩
  · rw [e _ (by omega) (by omega)]; exact a k hk
  · rw [e _ (by omega) (by omega)]; exact b
  · rw [e _ (by omega) (by omega)]; exact c
theorem HisAt.fr {h h' : Hp} (q : HisAt h) {p : Nat → Nat → Prop} (f : Fr p h h') : HisAt h' := by
  unfold HisAt at *
  simp only [f.K, f.N, f.R]
  exact q
theorem HisV.fr {h h' : Hp} {S : Int → Int} (v : HisV h S) {p : Nat → Nat → Prop} (f : Fr p h h') (hp : ∀ k, ¬ p 30 k) (hp2 : ∀ k, ¬ p 31 k) : HisV h' S := by
  obtain ⟨v1, v2, v3, v4, v5⟩ := v
  have e1 : hI h' 30 1 = hI h 30 1 := f.I (hp 1)
  refine ⟨v1.fr f, by rw [f.I (hp 2)]; exact v2, v3, by rw [e1]; exact v4, fun j h0 h1 => ?_⟩
  rw [e1]
  obtain ⟨a, b, c⟩ := v5 j h0 h1
  exact ⟨fun k hk => by rw [f.I (hp2 _)]; exact a k hk, by rw [f.I (hp2 _)]; exact b, by rw [f.I (hp2 _)]; exact c⟩
theorem c_push {d b : Nat} {h : Hp} {S W : Int → Int} (v : HisV h S) (hv : HV h b W) (hd : b + 1 < 30 ∨ 31 < b) : ∃ h', cal (d+2) m_History_push [.inr (.inr (30)), .inr (.inr (b))] (h) = some (.inl 0, h') ∧ HisV h' (ntS W S) ∧ Fr (fun c _ => c = 30 ∨ c = 31) h h' := by
  obtain ⟨⟨k1, k2, k3, k4⟩, v2, v3, v4, v5⟩ := v
  have ha := hv.1
  obtain ⟨n, hn⟩ : ∃ n, n = hI h 30 1 := ⟨_, rfl⟩
  rw [← hn] at v4 v5
  refine ⟨pI (pI (pI (pI (cpI h (b + 1) 0 31 (n * 14).toNat 12) 31 (n * 14 + 12).toNat (W 59)) 31 (n * 14 + 13).toNat (W 60)) 30 1 ((n + 1) % 10)) 30 2 (if 10 < S 73 + 1 then 10 else S 73 + 1), ?_, ?_, ?_⟩
  · show EX (d+1) m_History_push 0 [(0, .inr (.inr (30))), (1, .inr (.inr (b)))] [] (h) = _
    simp (disch := omega) only [History_push_0, History_push_23, History_push_36, History_push_49, History_push_62, History_push_74, History_push_77, wr_id, ix_id, okx, if_pos, if_neg, Int.toNat_of_nonneg, bak_v, bak_n, wr_b01, wr_bt, b01_or, b01_0, b01_1, lc_lt0, lc_gt0, lc_eq0, wl_wr, wr_wr, wl_id, true_and, and_true, true_or, or_true, not_true_eq_false, not_false_eq_true, nc0, nc1, nc2, nc3, nc4, nc5, nc6, nc7, nc8, nc9, nc10, nc11, nc12, nc13, nc14, nc15, nc16, nc17, nc18, nc19, nc20, nc21, nc22, nc23, nc35, nc47, nc59, nc60, nc61, nc73, nc74, nc214, nc215, nc1115, nc2230, nc3345, if_true, if_false, Int.reduceToNat, ha.k, ha.r, ha.k1, ha.n1, k1, k2, k3, k4, ← hn, v2, sK_pI, sN_pI, sK_cpI, sN_cpI, hI_pI, hI_cpI, hR_pI, hR_cpI, hv.f1, hv.f2, min_s, bRem_e]
  · have e73 : ntS W S 73 = if 10 < S 73 + 1 then 10 else S 73 + 1 := by
      unfold ntS
      by_cases c : S 73 = 10
      · rw [if_pos c, if_pos rfl, if_pos (by omega)]
      · rw [if_neg c, if_pos rfl, if_neg (by omega)]
    refine ⟨⟨k1, k2, k3, k4⟩, ?_, ?_, ?_, fun j h0 h1 => ?_⟩
    · rw [e73]; simp [hI_pI]
    · rw [e73]; split <;> omega
    · simp [hI_pI]; omega
    · have f1 : hI (pI (pI (pI (pI (cpI h (b + 1) 0 31 (n * 14).toNat 12) 31 (n * 14 + 12).toNat (W 59)) 31 (n * 14 + 13).toNat (W 60)) 30 1 ((n + 1) % 10)) 30 2 (if 10 < S 73 + 1 then 10 else S 73 + 1)) 30 1 = (n + 1) % 10 := by simp [hI_pI]
      rw [f1, e73]
      rw [e73] at h1
      by_cases c : S 73 = 10
      · rw [if_pos (by omega)] at h1 ⊢
        by_cases cj : j = 9
        · have e : ((n + 1) % 10 - 10 + j) % 10 = n := by omega
          rw [e]
          refine ⟨fun k hk => ?_, ?_, ?_⟩
          · have q : ntS W S (76 + 14 * j + k) = W (61 + k) := by
              unfold ntS
              rw [if_pos c, if_neg (by omega), if_neg (by omega), if_pos (by omega)]
              congr 1; omega
            rw [q]
            simp (disch := omega) only [hI_pI, hI_cpI, if_neg, if_pos, true_and]
            rw [show 0 + ((14 * n + (k : Int)).toNat - (n * 14).toNat) = k by omega]
            exact hv.rk k hk
          · have q : ntS W S (74 + 14 * j) = W 59 := by
              unfold ntS
              rw [if_pos c, if_neg (by omega), if_neg (by omega), if_pos (by omega)]
              congr 1; omega
            rw [q]
            simp (disch := omega) only [hI_pI, hI_cpI, if_neg, if_pos, true_and]
          · have q : ntS W S (75 + 14 * j) = W 60 := by
              unfold ntS
              rw [if_pos c, if_neg (by omega), if_neg (by omega), if_pos (by omega)]
              congr 1; omega
            rw [q]
            simp (disch := omega) only [hI_pI, hI_cpI, if_neg, if_pos, true_and]
        · have e : ((n + 1) % 10 - 10 + j) % 10 = (n - S 73 + (j + 1)) % 10 := by omega
          have ne : ¬ (n - S 73 + (j + 1)) % 10 = n := by omega
          obtain ⟨a1, a2, a3⟩ := v5 (j + 1) (by omega) (by omega)
          rw [e]
          generalize hm : (n - S 73 + (j + 1)) % 10 = m at *
          have m1 : 0 ≤ m ∧ m < 10 := by omega
          refine ⟨fun k hk => ?_, ?_, ?_⟩
          · have q : ntS W S (76 + 14 * j + k) = S (76 + 14 * (j + 1) + k) := by
              unfold ntS
              rw [if_pos c, if_neg (by omega), if_pos (by omega)]
              congr 1; omega
            rw [q, ← a1 k hk]
            simp (disch := omega) only [hI_pI, hI_cpI, if_neg]
          · have q : ntS W S (74 + 14 * j) = S (74 + 14 * (j + 1)) := by
              unfold ntS
              rw [if_pos c, if_neg (by omega), if_pos (by omega)]
              congr 1; omega
            rw [q, ← a2]
            simp (disch := omega) only [hI_pI, hI_cpI, if_neg]
          · have q : ntS W S (75 + 14 * j) = S (75 + 14 * (j + 1)) := by
              unfold ntS
              rw [if_pos c, if_neg (by omega), if_pos (by omega)]
              congr 1; omega
            rw [q, ← a3]
            simp (disch := omega) only [hI_pI, hI_cpI, if_neg]
      · rw [if_neg (by omega)] at h1 ⊢
        by_cases cj : j = S 73
        · have e : ((n + 1) % 10 - (S 73 + 1) + j) % 10 = n := by omega
          rw [e]
          refine ⟨fun k hk => ?_, ?_, ?_⟩
          · have q : ntS W S (76 + 14 * j + k) = W (61 + k) := by
              unfold ntS
              rw [if_neg c, if_neg (by omega), if_pos (by omega)]
              congr 1; omega
            rw [q]
            simp (disch := omega) only [hI_pI, hI_cpI, if_neg, if_pos, true_and]
            rw [show 0 + ((14 * n + (k : Int)).toNat - (n * 14).toNat) = k by omega]
            exact hv.rk k hk
          · have q : ntS W S (74 + 14 * j) = W 59 := by
              unfold ntS
              rw [if_neg c, if_neg (by omega), if_pos (by omega)]
              congr 1; omega
            rw [q]
            simp (disch := omega) only [hI_pI, hI_cpI, if_neg, if_pos, true_and]
          · have q : ntS W S (75 + 14 * j) = W 60 := by
              unfold ntS
              rw [if_neg c, if_neg (by omega), if_pos (by omega)]
              congr 1; omega
            rw [q]
            simp (disch := omega) only [hI_pI, hI_cpI, if_neg, if_pos, true_and]
        · have e : ((n + 1) % 10 - (S 73 + 1) + j) % 10 = (n - S 73 + j) % 10 := by omega
          have ne : ¬ (n - S 73 + j) % 10 = n := by omega
          obtain ⟨a1, a2, a3⟩ := v5 j (by omega) (by omega)
          rw [e]
          generalize hm : (n - S 73 + j) % 10 = m at *
          have m1 : 0 ≤ m ∧ m < 10 := by omega
          refine ⟨fun k hk => ?_, ?_, ?_⟩
          · have q : ntS W S (76 + 14 * j + k) = S (76 + 14 * j + k) := by
              unfold ntS
              rw [if_neg c, if_neg (by omega), if_neg (by omega)]
            rw [q, ← a1 k hk]
            simp (disch := omega) only [hI_pI, hI_cpI, if_neg]
          · have q : ntS W S (74 + 14 * j) = S (74 + 14 * j) := by
              unfold ntS
              rw [if_neg c, if_neg (by omega), if_neg (by omega)]
            rw [q, ← a2]
            simp (disch := omega) only [hI_pI, hI_cpI, if_neg]
          · have q : ntS W S (75 + 14 * j) = S (75 + 14 * j) := by
              unfold ntS
              rw [if_neg c, if_neg (by omega), if_neg (by omega)]
            rw [q, ← a3]
            simp (disch := omega) only [hI_pI, hI_cpI, if_neg]
  · exact Fr.pI (Fr.pI (Fr.pI (Fr.pI (Fr.cpI Fr.rf (fun k _ _ => Or.inr rfl)) (Or.inr rfl)) (Or.inr rfl)) (Or.inl rfl)) (Or.inl rfl)
/-- n calls are undone -/
def unS (S : Int → Int) (n : Int) : Int → Int := fun k => if k = 73 then S 73 - n else if 59 ≤ k ∧ k < 73 then S (74 + 14 * (S 73 - n) + (k - 59)) else S k
theorem c_pop {d a : Nat} {h : Hp} {S : Int → Int} (v : HisV h S) (ha : HangAt h a) (hd : a + 1 < 30 ∨ 31 < a) {n : Int} (hn : 1 ≤ n ∧ n ≤ S 73) : ∃ h', cal (d+2) m_History_pop [.inr (.inr (30)), .inl (n), .inr (.inr (a))] (h) = some (.inl 0, h') ∧ HV h' a (unS S n) ∧ HisV h' (unS S n) ∧ Fr (fun c _ => c = 30 ∨ c = a ∨ c = a + 1) h h' := by
  obtain ⟨⟨k1, k2, k3, k4⟩, v2, v3, v4, v5⟩ := v
  obtain ⟨m, hm⟩ : ∃ m, m = hI h 30 1 := ⟨_, rfl⟩
  rw [← hm] at v4 v5
  obtain ⟨q, hq⟩ : ∃ q, q = (m - n) % 10 := ⟨_, rfl⟩
  have hq1 : 0 ≤ q ∧ q < 10 := by omega
  obtain ⟨a1, a2, a3⟩ := v5 (S 73 - n) (by omega) (by omega)
  rw [show m - S 73 + (S 73 - n) = m - n by omega, ← hq] at a1 a2 a3
  refine ⟨pI (pI (cpI (pI (pI h 30 2 (S 73 - n)) 30 1 q) 31 (q * 14).toNat (a + 1) 0 12) a 1 (S (74 + 14 * (S 73 - n)))) a 2 (S (75 + 14 * (S 73 - n))), ?_, ⟨ha, ?_, ?_, fun k hk => ?_⟩, ⟨⟨k1, k2, k3, k4⟩, ?_, ?_, ?_, fun j h0 h1 => ?_⟩, ?_⟩
  · show EX (d+1) m_History_pop 0 [(0, .inr (.inr (30))), (1, .inl (n)), (2, .inr (.inr (a)))] [] (h) = _
    rw [show 14 * q + 12 = q * 14 + 12 by omega] at a2
    rw [show 14 * q + 13 = q * 14 + 13 by omega] at a3
    simp (disch := omega) only [History_pop_0, History_pop_10, History_pop_22, History_pop_25, History_pop_48, History_pop_61, History_pop_74, wr_id, ix_id, okx, if_pos, if_neg, Int.toNat_of_nonneg, bak_v, bak_n, wr_b01, wr_bt, b01_or, b01_0, b01_1, lc_lt0, lc_gt0, lc_eq0, wl_wr, wr_wr, wl_id, true_and, and_true, true_or, or_true, not_true_eq_false, not_false_eq_true, nc0, nc1, nc2, nc3, nc4, nc5, nc6, nc7, nc8, nc9, nc10, nc11, nc12, nc13, nc14, nc15, nc16, nc17, nc18, nc19, nc20, nc21, nc22, nc23, nc35, nc47, nc59, nc60, nc61, nc73, nc74, nc214, nc215, nc1115, nc2230, nc3345, if_true, if_false, Int.reduceToNat, ha.k, ha.r, ha.k1, ha.n1, k1, k2, k3, k4, ← hm, v2, sK_pI, sN_pI, sK_cpI, sN_cpI, hI_pI, hI_cpI, hR_pI, hR_cpI, c_floorMod, ← hq, a2, a3]
  · simp [hI_pI, unS]
  · simp [hI_pI, unS]
    congr 1
    omega
  · simp (disch := omega) only [hI_pI, hI_cpI, if_neg, if_pos, true_and]
    have := a1 k hk
    unfold unS
    rw [if_neg (by omega), if_pos (by omega), show (74 : Int) + 14 * (S 73 - n) + (61 + (k : Int) - 59) = 76 + 14 * (S 73 - n) + k by omega, ← this]
    congr 1
    omega
  · simp (disch := omega) only [hI_pI, hI_cpI, if_neg, unS]
    simp
  · simp only [unS]; simp; omega
  · simp (disch := omega) only [hI_pI, hI_cpI, if_neg]
    simp; omega
  · have e73 : unS S n 73 = S 73 - n := by simp [unS]
    have f1 : hI (pI (pI (cpI (pI (pI h 30 2 (S 73 - n)) 30 1 q) 31 (q * 14).toNat (a + 1) 0 12) a 1 (S (74 + 14 * (S 73 - n)))) a 2 (S (75 + 14 * (S 73 - n)))) 30 1 = q := by
      simp (disch := omega) only [hI_pI, hI_cpI, if_neg]
      simp
    rw [e73] at h1 ⊢
    rw [f1, show (q - (S 73 - n) + j) % 10 = (m - S 73 + j) % 10 by omega]
    obtain ⟨b1, b2, b3⟩ := v5 j h0 (by omega)
    refine ⟨fun k hk => ?_, ?_, ?_⟩
    · rw [show unS S n (76 + 14 * j + k) = S (76 + 14 * j + k) by unfold unS; rw [if_neg (by omega), if_neg (by omega)], ← b1 k hk]
      simp (disch := omega) only [hI_pI, hI_cpI, if_neg]
    · rw [show unS S n (74 + 14 * j) = S (74 + 14 * j) by unfold unS; rw [if_neg (by omega), if_neg (by omega)], ← b2]
      simp (disch := omega) only [hI_pI, hI_cpI, if_neg]
    · rw [show unS S n (75 + 14 * j) = S (75 + 14 * j) by unfold unS; rw [if_neg (by omega), if_neg (by omega)], ← b3]
      simp (disch := omega) only [hI_pI, hI_cpI, if_neg]
  · exact Fr.pI (Fr.pI (Fr.cpI (Fr.pI (Fr.pI Fr.rf (Or.inl rfl)) (Or.inl rfl)) (fun k _ _ => Or.inr (Or.inr rfl))) (Or.inr (Or.inl rfl))) (Or.inr (Or.inl rfl))
