/-! the class reads a law -/
def ccd (c : Int) : Int := if c < 1000 then 1000 + c else if c = 1000 then 130 else if c = 1001 then 131 else if c = 1002 then 142 else if c = 1003 then 143 else if c = 1004 then 144 else if c = 1005 then 145 else if c = 3000 then 43 else if c = 3001 then 45 else if c = 3002 then 42 else if c = 3003 then 61 else if c = 3004 then 60 else if c = 3005 then 62 else if c = 3006 then 140 else if c = 3007 then 139 else 141
def cdL (h : Hp) (l : List Int) : Prop := hI h 11 2 = l.length ∧ ∀ i : Nat, i < l.length → hI h 12 i = ccd (l.getD i 0)
def CP (h : Hp) (w : Nat) (T : Int → Int) (n a : Int) (l : List Int) : Prop := CX h w T n ∧ CK h T n a ∧ hI h 9 6 = 0 ∧ hI h 9 7 = -1 ∧ cdL h l ∧ (0 ≤ a ∧ a ≤ n)
def CF (h : Hp) (w : Nat) (T : Int → Int) (n : Int) (e : Int × Int) : Prop := CX h w T n ∧ (hI h 9 6 = e.1 ∧ hI h 9 7 = e.2 ∧ (1 ≤ e.1 ∧ e.1 ≤ 4)) ∧ (∃ a, CK h T n a ∧ (0 ≤ a ∧ a ≤ n)) ∧ (0 ≤ hI h 11 2 ∧ hI h 11 2 ≤ 900)
def pLw (a k : Nat) : Prop := (a = 9 ∧ 2 ≤ k ∧ k ≤ 7) ∨ a = 12 ∨ (a = 11 ∧ k = 2)
theorem pLw.x : ∀ a k, pLw a k → 8 ≤ a ∧ ¬ (a = 9 ∧ k = 1) := fun a k q => by unfold pLw at q; omega
theorem pCk.lw {a k : Nat} (q : pCk a k) : pLw a k := by unfold pCk at q; unfold pLw; omega
theorem cdL.fr {h h' : Hp} {l : List Int} (c : cdL h l) {p : Nat → Nat → Prop} (f : Fr p h h') (h1 : ¬ p 11 2) (h2 : ∀ k, ¬ p 12 k) : cdL h' l := ⟨by rw [f.I h1]; exact c.1, fun i hi => by rw [f.I (h2 i)]; exact c.2 i hi⟩
theorem CP.rng {h : Hp} {w : Nat} {T : Int → Int} {n a : Int} {l : List Int} (m : CP h w T n a l) : 0 ≤ a ∧ a ≤ n ∧ n ≤ 900 := ⟨m.2.2.2.2.2.1, m.2.2.2.2.2.2, m.1.2.2.2.2.2.2.2⟩
theorem CP.k {h : Hp} {w : Nat} {T : Int → Int} {n a : Int} {l : List Int} (m : CP h w T n a l) : hI h 9 3 = kc (tkK T n a) ∧ (0 ≤ kc (tkK T n a) ∧ kc (tkK T n a) ≤ 145) := ⟨m.2.1.2.2.1, kc_rng (tkK_ok T n a)⟩
theorem c_stepP {d w : Nat} {h : Hp} {T : Int → Int} {n a : Int} {l : List Int} (m : CP h w T n a l) : ∃ h', cal (d+3) m_Tokens_step [.inr (.inr (9))] (h) = some (.inl 0, h') ∧ CP h' w T n (nx T n a) l ∧ Fr pCk h h' := by
  have rg := m.rng
  obtain ⟨x, ⟨k5, k2, k3, k4⟩, h6, h7, cd, ar⟩ := m
  have er := tkE_rng (T := T) ar.2
  have nr := nx_rng (T := T) ar.2
  obtain ⟨h', e, mk, f⟩ := c_step (d := d) x k2 ⟨by omega, er.2.1⟩
  exact ⟨h', e, ⟨x.k f (fun _ _ z => z), mk, by rw [f.I (by unfold pCk; omega)]; exact h6, by rw [f.I (by unfold pCk; omega)]; exact h7, cd.fr f (by unfold pCk; omega) (fun k => by unfold pCk; omega), by omega⟩, f⟩
theorem c_stepF {d w : Nat} {h : Hp} {T : Int → Int} {n : Int} {e : Int × Int} (m : CF h w T n e) : ∃ h', cal (d+3) m_Tokens_step [.inr (.inr (9))] (h) = some (.inl 0, h') ∧ CF h' w T n e ∧ Fr pCk h h' := by
  obtain ⟨x, ⟨e1, e2, e3⟩, ⟨a, ⟨k5, k2, k3, k4⟩, ar⟩, sz⟩ := m
  have er := tkE_rng (T := T) ar.2
  have nr := nx_rng (T := T) ar.2
  obtain ⟨h', ee, mk, f⟩ := c_step (d := d) x k2 ⟨by omega, er.2.1⟩
  exact ⟨h', ee, ⟨x.k f (fun _ _ z => z), ⟨by rw [f.I (by unfold pCk; omega)]; exact e1, by rw [f.I (by unfold pCk; omega)]; exact e2, e3⟩, ⟨_, mk, by show 0 ≤ nx T n a ∧ nx T n a ≤ n; omega⟩, by rw [f.I (by unfold pCk; omega)]; exact sz⟩, f⟩
theorem c_sound {d w : Nat} {h : Hp} {T : Int → Int} {n a : Int} {l : List Int} (m : CP h w T n a l) : cal (d+1) m_Tokens_isSound [.inr (.inr (9))] (h) = some (.inl 1, h) := by
  have hc := m.1.1
  have h6 := m.2.2.1
  show EX (d) m_Tokens_isSound 0 [(0, .inr (.inr (9)))] [] (h) = _
  simp (disch := omega) only [Tokens_isSound_0, Tokens_isSound_7, Tokens_isSound_12, wr_id, ix_id, okx, if_pos, if_neg, Int.toNat_of_nonneg, bak_v, bak_n, wr_b01, wr_bt, b01_or, b01_0, b01_1, lc_lt0, lc_gt0, lc_eq0, wl_wr, wr_wr, wl_id, true_and, and_true, true_or, or_true, not_true_eq_false, not_false_eq_true, nc0, nc1, nc2, nc3, nc4, nc5, nc6, nc7, nc8, nc9, nc10, nc11, nc12, nc13, nc14, nc15, nc16, nc17, nc18, nc19, nc20, nc21, nc22, nc23, nc35, nc47, nc59, nc60, nc61, nc73, nc74, nc214, nc215, nc1115, nc2230, nc3345, if_true, if_false, Int.reduceToNat, hc.k9, h6]
theorem c_soundF {d w : Nat} {h : Hp} {T : Int → Int} {n : Int} {e : Int × Int} (m : CF h w T n e) : cal (d+1) m_Tokens_isSound [.inr (.inr (9))] (h) = some (.inl 0, h) := by
  have hc := m.1.1
  obtain ⟨h6, -, h8⟩ := m.2.1
  show EX (d) m_Tokens_isSound 0 [(0, .inr (.inr (9)))] [] (h) = _
  simp (disch := omega) only [Tokens_isSound_0, Tokens_isSound_11, Tokens_isSound_12, wr_id, ix_id, okx, if_pos, if_neg, Int.toNat_of_nonneg, bak_v, bak_n, wr_b01, wr_bt, b01_or, b01_0, b01_1, lc_lt0, lc_gt0, lc_eq0, wl_wr, wr_wr, wl_id, true_and, and_true, true_or, or_true, not_true_eq_false, not_false_eq_true, nc0, nc1, nc2, nc3, nc4, nc5, nc6, nc7, nc8, nc9, nc10, nc11, nc12, nc13, nc14, nc15, nc16, nc17, nc18, nc19, nc20, nc21, nc22, nc23, nc35, nc47, nc59, nc60, nc61, nc73, nc74, nc214, nc215, nc1115, nc2230, nc3345, if_true, if_false, Int.reduceToNat, hc.k9, h6]
theorem c_failAt {d w : Nat} {h : Hp} {T : Int → Int} {n a p f : Int} {l : List Int} (m : CP h w T n a l) (hl : l.length ≤ 900) (hf : 1 ≤ f ∧ f ≤ 4) : ∃ h', cal (d+1) m_Tokens_failAt [.inr (.inr (9)), .inl (p), .inl (f)] (h) = some (.inl 0, h') ∧ CF h' w T n (f, p) ∧ Fr pLw h h' := by
  obtain ⟨x, ⟨k5, k2, k3, k4⟩, h6, h7, cd, ar⟩ := m
  have hc := x.1
  have fr : Fr pLw h (pI (pI h 9 6 f) 9 7 p) := Fr.pI (Fr.pI Fr.rf (by unfold pLw; omega)) (by unfold pLw; omega)
  refine ⟨pI (pI h 9 6 f) 9 7 p, ?_, ⟨x.fr fr pLw.x, ⟨by simp [hI_pI], by simp [hI_pI], hf⟩, ⟨a, ⟨?_, ?_, ?_, fun z => ?_⟩, ar⟩, ?_⟩, fr⟩
  · show EX (d) m_Tokens_failAt 0 [(0, .inr (.inr (9))), (1, .inl (p)), (2, .inl (f))] [] (h) = _
    simp (disch := omega) only [Tokens_failAt_0, Tokens_failAt_7, Tokens_failAt_12, Tokens_failAt_17, wr_id, ix_id, okx, if_pos, if_neg, Int.toNat_of_nonneg, bak_v, bak_n, wr_b01, wr_bt, b01_or, b01_0, b01_1, lc_lt0, lc_gt0, lc_eq0, wl_wr, wr_wr, wl_id, true_and, and_true, true_or, or_true, not_true_eq_false, not_false_eq_true, nc0, nc1, nc2, nc3, nc4, nc5, nc6, nc7, nc8, nc9, nc10, nc11, nc12, nc13, nc14, nc15, nc16, nc17, nc18, nc19, nc20, nc21, nc22, nc23, nc35, nc47, nc59, nc60, nc61, nc73, nc74, nc214, nc215, nc1115, nc2230, nc3345, if_true, if_false, Int.reduceToNat, hc.k9, h6, sK_pI]
  · rw [hI_pI, if_neg (by omega), hI_pI, if_neg (by omega)]; exact k5
  · rw [hI_pI, if_neg (by omega), hI_pI, if_neg (by omega)]; exact k2
  · rw [hI_pI, if_neg (by omega), hI_pI, if_neg (by omega)]; exact k3
  · rw [hI_pI, if_neg (by omega), hI_pI, if_neg (by omega)]; exact k4 z
  · rw [hI_pI, if_neg (by omega), hI_pI, if_neg (by omega), cd.1]; omega
theorem c_failAtF {d w : Nat} {h : Hp} {T : Int → Int} {n : Int} {e : Int × Int} (m : CF h w T n e) (p f : Int) : cal (d+1) m_Tokens_failAt [.inr (.inr (9)), .inl (p), .inl (f)] (h) = some (.inl 0, h) := by
  have hc := m.1.1
  obtain ⟨h6, -, h8⟩ := m.2.1
  show EX (d) m_Tokens_failAt 0 [(0, .inr (.inr (9))), (1, .inl (p)), (2, .inl (f))] [] (h) = _
  simp (disch := omega) only [Tokens_failAt_0, Tokens_failAt_17, wr_id, ix_id, okx, if_pos, if_neg, Int.toNat_of_nonneg, bak_v, bak_n, wr_b01, wr_bt, b01_or, b01_0, b01_1, lc_lt0, lc_gt0, lc_eq0, wl_wr, wr_wr, wl_id, true_and, and_true, true_or, or_true, not_true_eq_false, not_false_eq_true, nc0, nc1, nc2, nc3, nc4, nc5, nc6, nc7, nc8, nc9, nc10, nc11, nc12, nc13, nc14, nc15, nc16, nc17, nc18, nc19, nc20, nc21, nc22, nc23, nc35, nc47, nc59, nc60, nc61, nc73, nc74, nc214, nc215, nc1115, nc2230, nc3345, if_true, if_false, Int.reduceToNat, hc.k9, h6]
theorem c_refuse {d w : Nat} {h : Hp} {T : Int → Int} {n a : Int} {l : List Int} (m : CP h w T n a l) (hl : l.length ≤ 900) : ∃ h', cal (d+2) m_Tokens_refuse [.inr (.inr (9))] (h) = some (.inl 0, h') ∧ CF h' w T n (bd2 T n a) ∧ Fr pLw h h' := by
  have hc := m.1.1
  obtain ⟨k3, kr⟩ := m.k
  have k5 := m.2.1.1
  have ki := kc_iff (c := 1) (tkK_ok T n a) (b := 23) (by unfold kdO; omega) rfl
  unfold bd2
  by_cases c : tkK T n a = 23
  · rw [if_pos c]
    have kk := ki.mpr c
    obtain ⟨h', e, m', f⟩ := c_failAt (d := d) (p := a) (f := 1) m hl (by omega)
    refine ⟨h', ?_, m', f⟩
    show EX (d+1) m_Tokens_refuse 0 [(0, .inr (.inr (9)))] [] (h) = _
    rw [kk] at k3
    simp (disch := omega) only [Tokens_refuse_0, Tokens_refuse_13, Tokens_refuse_18, Tokens_refuse_21, wr_id, ix_id, okx, if_pos, if_neg, Int.toNat_of_nonneg, bak_v, bak_n, wr_b01, wr_bt, b01_or, b01_0, b01_1, lc_lt0, lc_gt0, lc_eq0, wl_wr, wr_wr, wl_id, true_and, and_true, true_or, or_true, not_true_eq_false, not_false_eq_true, nc0, nc1, nc2, nc3, nc4, nc5, nc6, nc7, nc8, nc9, nc10, nc11, nc12, nc13, nc14, nc15, nc16, nc17, nc18, nc19, nc20, nc21, nc22, nc23, nc35, nc47, nc59, nc60, nc61, nc73, nc74, nc214, nc215, nc1115, nc2230, nc3345, if_true, if_false, Int.reduceToNat, hc.k9, k3, k5, e]
  · rw [if_neg c]
    have kk : ¬ kc (tkK T n a) = 1 := fun z => c (ki.mp z)
    obtain ⟨h', e, m', f⟩ := c_failAt (d := d) (p := a) (f := 2) m hl (by omega)
    refine ⟨h', ?_, m', f⟩
    show EX (d+1) m_Tokens_refuse 0 [(0, .inr (.inr (9)))] [] (h) = _
    simp (disch := omega) only [Tokens_refuse_0, Tokens_refuse_17, Tokens_refuse_18, Tokens_refuse_21, wr_id, ix_id, okx, if_pos, if_neg, Int.toNat_of_nonneg, bak_v, bak_n, wr_b01, wr_bt, b01_or, b01_0, b01_1, lc_lt0, lc_gt0, lc_eq0, wl_wr, wr_wr, wl_id, true_and, and_true, true_or, or_true, not_true_eq_false, not_false_eq_true, nc0, nc1, nc2, nc3, nc4, nc5, nc6, nc7, nc8, nc9, nc10, nc11, nc12, nc13, nc14, nc15, nc16, nc17, nc18, nc19, nc20, nc21, nc22, nc23, nc35, nc47, nc59, nc60, nc61, nc73, nc74, nc214, nc215, nc1115, nc2230, nc3345, if_true, if_false, Int.reduceToNat, hc.k9, k3, k5, e]
theorem c_refuseF {d w : Nat} {h : Hp} {T : Int → Int} {n : Int} {e : Int × Int} (m : CF h w T n e) : cal (d+2) m_Tokens_refuse [.inr (.inr (9))] (h) = some (.inl 0, h) := by
  have hc := m.1.1
  obtain ⟨-, -, ⟨a, ⟨k5, k2, k3, k4⟩, ar⟩, -⟩ := id m
  have kr := kc_rng (tkK_ok T n a)
  have e1 := fun p f => c_failAtF (d := d) m p f
  show EX (d+1) m_Tokens_refuse 0 [(0, .inr (.inr (9)))] [] (h) = _
  by_cases c : kc (tkK T n a) = 1
  · rw [c] at k3
    simp (disch := omega) only [Tokens_refuse_0, Tokens_refuse_13, Tokens_refuse_18, Tokens_refuse_21, wr_id, ix_id, okx, if_pos, if_neg, Int.toNat_of_nonneg, bak_v, bak_n, wr_b01, wr_bt, b01_or, b01_0, b01_1, lc_lt0, lc_gt0, lc_eq0, wl_wr, wr_wr, wl_id, true_and, and_true, true_or, or_true, not_true_eq_false, not_false_eq_true, nc0, nc1, nc2, nc3, nc4, nc5, nc6, nc7, nc8, nc9, nc10, nc11, nc12, nc13, nc14, nc15, nc16, nc17, nc18, nc19, nc20, nc21, nc22, nc23, nc35, nc47, nc59, nc60, nc61, nc73, nc74, nc214, nc215, nc1115, nc2230, nc3345, if_true, if_false, Int.reduceToNat, hc.k9, k3, e1]
  · simp (disch := omega) only [Tokens_refuse_0, Tokens_refuse_17, Tokens_refuse_18, Tokens_refuse_21, wr_id, ix_id, okx, if_pos, if_neg, Int.toNat_of_nonneg, bak_v, bak_n, wr_b01, wr_bt, b01_or, b01_0, b01_1, lc_lt0, lc_gt0, lc_eq0, wl_wr, wr_wr, wl_id, true_and, and_true, true_or, or_true, not_true_eq_false, not_false_eq_true, nc0, nc1, nc2, nc3, nc4, nc5, nc6, nc7, nc8, nc9, nc10, nc11, nc12, nc13, nc14, nc15, nc16, nc17, nc18, nc19, nc20, nc21, nc22, nc23, nc35, nc47, nc59, nc60, nc61, nc73, nc74, nc214, nc215, nc1115, nc2230, nc3345, if_true, if_false, Int.reduceToNat, hc.k9, k3, e1]
theorem c_pass {d w : Nat} {h : Hp} {T : Int → Int} {n a k c : Int} {l : List Int} (m : CP h w T n a l) (hk : kdO k) (hc' : kc k = c) (ck : tkK T n a = k) : ∃ h', cal (d+4) m_Tokens_pass [.inr (.inr (9)), .inl (c)] (h) = some (.inl 0, h') ∧ CP h' w T n (nx T n a) l ∧ Fr pLw h h' := by
  have hc := m.1.1
  obtain ⟨k3, kr⟩ := m.k
  obtain ⟨h', e, m', f⟩ := c_stepP (d := d) m
  refine ⟨h', ?_, m', f.mo (fun a k z => z.lw)⟩
  show EX (d+3) m_Tokens_pass 0 [(0, .inr (.inr (9))), (1, .inl (c))] [] (h) = _
  rw [ck, hc'] at k3 kr
  simp (disch := omega) only [Tokens_pass_0, Tokens_pass_8, Tokens_pass_12, Tokens_pass_19, wr_id, ix_id, okx, if_pos, if_neg, Int.toNat_of_nonneg, bak_v, bak_n, wr_b01, wr_bt, b01_or, b01_0, b01_1, lc_lt0, lc_gt0, lc_eq0, wl_wr, wr_wr, wl_id, true_and, and_true, true_or, or_true, not_true_eq_false, not_false_eq_true, nc0, nc1, nc2, nc3, nc4, nc5, nc6, nc7, nc8, nc9, nc10, nc11, nc12, nc13, nc14, nc15, nc16, nc17, nc18, nc19, nc20, nc21, nc22, nc23, nc35, nc47, nc59, nc60, nc61, nc73, nc74, nc214, nc215, nc1115, nc2230, nc3345, if_true, if_false, Int.reduceToNat, hc.k9, k3, e]
theorem c_passN {d w : Nat} {h : Hp} {T : Int → Int} {n a k c : Int} {l : List Int} (m : CP h w T n a l) (hl : l.length ≤ 900) (hk : kdO k) (hc' : kc k = c) (ck : ¬ tkK T n a = k) : ∃ h', cal (d+4) m_Tokens_pass [.inr (.inr (9)), .inl (c)] (h) = some (.inl 0, h') ∧ CF h' w T n (bd2 T n a) ∧ Fr pLw h h' := by
  have hc := m.1.1
  obtain ⟨k3, kr⟩ := m.k
  have cr := kc_rng hk
  rw [hc'] at cr
  have kk : ¬ kc (tkK T n a) = c := fun z => ck ((kc_iff (tkK_ok T n a) hk hc').mp z)
  obtain ⟨h', e, m', f⟩ := c_refuse (d := d + 1) m hl
  refine ⟨h', ?_, m', f⟩
  show EX (d+3) m_Tokens_pass 0 [(0, .inr (.inr (9))), (1, .inl (c))] [] (h) = _
  simp (disch := omega) only [Tokens_pass_0, Tokens_pass_15, Tokens_pass_19, wr_id, ix_id, okx, if_pos, if_neg, Int.toNat_of_nonneg, bak_v, bak_n, wr_b01, wr_bt, b01_or, b01_0, b01_1, lc_lt0, lc_gt0, lc_eq0, wl_wr, wr_wr, wl_id, true_and, and_true, true_or, or_true, not_true_eq_false, not_false_eq_true, nc0, nc1, nc2, nc3, nc4, nc5, nc6, nc7, nc8, nc9, nc10, nc11, nc12, nc13, nc14, nc15, nc16, nc17, nc18, nc19, nc20, nc21, nc22, nc23, nc35, nc47, nc59, nc60, nc61, nc73, nc74, nc214, nc215, nc1115, nc2230, nc3345, if_true, if_false, Int.reduceToNat, hc.k9, k3, e]
theorem c_passF {d w : Nat} {h : Hp} {T : Int → Int} {n : Int} {e : Int × Int} (m : CF h w T n e) (c : Int) : ∃ h', cal (d+4) m_Tokens_pass [.inr (.inr (9)), .inl (c)] (h) = some (.inl 0, h') ∧ CF h' w T n e ∧ Fr pLw h h' := by
  have hc := m.1.1
  by_cases q : wr (hI h 9 3) = wr c
  · obtain ⟨h', e1, m', f⟩ := c_stepF (d := d) m
    refine ⟨h', ?_, m', f.mo (fun a k z => z.lw)⟩
    show EX (d+3) m_Tokens_pass 0 [(0, .inr (.inr (9))), (1, .inl (c))] [] (h) = _
    rw [Tokens_pass_0, if_pos hc.k9, if_pos q]
    simp (disch := omega) only [Tokens_pass_8, Tokens_pass_12, Tokens_pass_19, wr_id, ix_id, okx, if_pos, if_neg, Int.toNat_of_nonneg, bak_v, bak_n, wr_b01, wr_bt, b01_or, b01_0, b01_1, lc_lt0, lc_gt0, lc_eq0, wl_wr, wr_wr, wl_id, true_and, and_true, true_or, or_true, not_true_eq_false, not_false_eq_true, nc0, nc1, nc2, nc3, nc4, nc5, nc6, nc7, nc8, nc9, nc10, nc11, nc12, nc13, nc14, nc15, nc16, nc17, nc18, nc19, nc20, nc21, nc22, nc23, nc35, nc47, nc59, nc60, nc61, nc73, nc74, nc214, nc215, nc1115, nc2230, nc3345, if_true, if_false, Int.reduceToNat, hc.k9, e1]
  · have e1 := c_refuseF (d := d + 1) m
    refine ⟨h, ?_, m, Fr.rf⟩
    show EX (d+3) m_Tokens_pass 0 [(0, .inr (.inr (9))), (1, .inl (c))] [] (h) = _
    rw [Tokens_pass_0, if_pos hc.k9, if_neg q]
    simp (disch := omega) only [Tokens_pass_15, Tokens_pass_19, wr_id, ix_id, okx, if_pos, if_neg, Int.toNat_of_nonneg, bak_v, bak_n, wr_b01, wr_bt, b01_or, b01_0, b01_1, lc_lt0, lc_gt0, lc_eq0, wl_wr, wr_wr, wl_id, true_and, and_true, true_or, or_true, not_true_eq_false, not_false_eq_true, nc0, nc1, nc2, nc3, nc4, nc5, nc6, nc7, nc8, nc9, nc10, nc11, nc12, nc13, nc14, nc15, nc16, nc17, nc18, nc19, nc20, nc21, nc22, nc23, nc35, nc47, nc59, nc60, nc61, nc73, nc74, nc214, nc215, nc1115, nc2230, nc3345, if_true, if_false, Int.reduceToNat, hc.k9, e1]
theorem c_emit {d w : Nat} {h : Hp} {T : Int → Int} {n a c : Int} {l : List Int} (m : CP h w T n a l) (hl : l.length < 900) {v : Int} (hv : v = ccd c) : ∃ h', cal (d+1) m_Law_emit [.inr (.inr (11)), .inl (v)] (h) = some (.inl 0, h') ∧ CP h' w T n a (l ++ [c]) ∧ Fr pLw h h' := by
  obtain ⟨x, ⟨k5, k2, k3, k4⟩, h6, h7, cd, ar⟩ := m
  have hc := x.1
  have s12 : sL h 12 = 900 := by rw [sL_eq, hc.n12]; rfl
  have fr : Fr pLw h (pI (pI h 12 l.length v) 11 2 (l.length + 1)) := Fr.pI (Fr.pI Fr.rf (by unfold pLw; omega)) (by unfold pLw; omega)
  refine ⟨pI (pI h 12 l.length v) 11 2 (l.length + 1), ?_, ⟨x.fr fr pLw.x, ⟨?_, ?_, ?_, fun z => ?_⟩, ?_, ?_, ⟨?_, fun i hi => ?_⟩, ar⟩, fr⟩
  · show EX (d) m_Law_emit 0 [(0, .inr (.inr (11))), (1, .inl (v))] [] (h) = _
    have tn : ((l.length : Nat) : Int).toNat = l.length := by omega
    simp (disch := omega) only [Law_emit_0, Law_emit_12, Law_emit_22, Law_emit_32, wr_id, ix_id, okx, if_pos, if_neg, Int.toNat_of_nonneg, bak_v, bak_n, wr_b01, wr_bt, b01_or, b01_0, b01_1, lc_lt0, lc_gt0, lc_eq0, wl_wr, wr_wr, wl_id, true_and, and_true, true_or, or_true, not_true_eq_false, not_false_eq_true, nc0, nc1, nc2, nc3, nc4, nc5, nc6, nc7, nc8, nc9, nc10, nc11, nc12, nc13, nc14, nc15, nc16, nc17, nc18, nc19, nc20, nc21, nc22, nc23, nc35, nc47, nc59, nc60, nc61, nc73, nc74, nc214, nc215, nc1115, nc2230, nc3345, if_true, if_false, Int.reduceToNat, hc.k6, hc.r5, hc.r6, hc.r0, hc.r2, hc.r7, hc.r8, hc.r9, hc.r10, hc.r11, hc.r12, hc.r13, hc.r14, hc.r15, hc.r16, hc.r17, hc.r18, hc.r8_0, hc.r8_1, hc.r11_0, hc.r11_1, hc.r60_0, hc.r60_1, hc.r60_4, hc.r64_0, hc.r64_3, hc.r64_4, hc.r68_0, hc.r41_0, hc.r41_1, hc.r42_0, hc.r42_1, hc.k7, hc.k8, hc.k9, hc.k11, hc.k12, hc.k13, hc.k32, hc.k41, hc.k42, hc.k43, hc.k60, hc.k61, hc.k62, hc.k63, hc.k64, hc.k65, hc.k66, hc.k67, hc.k68, hc.k69, hc.k70, hc.k71, hc.n6, hc.n7, hc.n8, hc.n9, hc.n11, hc.n12, hc.n13, hc.n32, hc.n41, hc.n42, hc.n43, hc.n60, hc.n61, hc.n62, hc.n63, hc.n64, hc.n65, hc.n66, hc.n67, hc.n68, hc.n69, hc.n70, hc.n71, s12, cd.1, tn, sK_pI, hI_pI]
  · rw [hI_pI, if_neg (by omega), hI_pI, if_neg (by omega)]; exact k5
  · rw [hI_pI, if_neg (by omega), hI_pI, if_neg (by omega)]; exact k2
  · rw [hI_pI, if_neg (by omega), hI_pI, if_neg (by omega)]; exact k3
  · rw [hI_pI, if_neg (by omega), hI_pI, if_neg (by omega)]; exact k4 z
  · rw [hI_pI, if_neg (by omega), hI_pI, if_neg (by omega)]; exact h6
  · rw [hI_pI, if_neg (by omega), hI_pI, if_neg (by omega)]; exact h7
  · rw [hI_pI, if_pos ⟨rfl, rfl⟩]; simp
  · simp only [List.length_append, List.length_cons, List.length_nil] at hi
    rw [hI_pI, if_neg (by omega), hI_pI]
    by_cases ci : i = l.length
    · rw [if_pos ⟨rfl, ci⟩, hv, ci]
      simp [List.getD_eq_getElem?_getD]
    · rw [if_neg (fun z => ci z.2), cd.2 i (by omega)]
      congr 1
      simp only [List.getD_eq_getElem?_getD]
      rw [List.getElem?_append_left (by omega)]
theorem c_emitF {d w : Nat} {h : Hp} {T : Int → Int} {n : Int} {e : Int × Int} (m : CF h w T n e) (v : Int) : ∃ h', cal (d+1) m_Law_emit [.inr (.inr (11)), .inl (v)] (h) = some (.inl 0, h') ∧ CF h' w T n e ∧ Fr pLw h h' := by
  obtain ⟨x, ⟨e1, e2, e3⟩, ⟨a, ⟨k5, k2, k3, k4⟩, ar⟩, sz⟩ := id m
  have hc := x.1
  have s12 : sL h 12 = 900 := by rw [sL_eq, hc.n12]; rfl
  by_cases c : hI h 11 2 < 900
  · have fr : Fr pLw h (pI (pI h 12 (hI h 11 2).toNat v) 11 2 (hI h 11 2 + 1)) := Fr.pI (Fr.pI Fr.rf (by unfold pLw; omega)) (by unfold pLw; omega)
    refine ⟨pI (pI h 12 (hI h 11 2).toNat v) 11 2 (hI h 11 2 + 1), ?_, ⟨x.fr fr pLw.x, ⟨?_, ?_, e3⟩, ⟨a, ⟨?_, ?_, ?_, fun z => ?_⟩, ar⟩, ?_⟩, fr⟩
    · show EX (d) m_Law_emit 0 [(0, .inr (.inr (11))), (1, .inl (v))] [] (h) = _
      simp (disch := omega) only [Law_emit_0, Law_emit_12, Law_emit_22, Law_emit_32, wr_id, ix_id, okx, if_pos, if_neg, Int.toNat_of_nonneg, bak_v, bak_n, wr_b01, wr_bt, b01_or, b01_0, b01_1, lc_lt0, lc_gt0, lc_eq0, wl_wr, wr_wr, wl_id, true_and, and_true, true_or, or_true, not_true_eq_false, not_false_eq_true, nc0, nc1, nc2, nc3, nc4, nc5, nc6, nc7, nc8, nc9, nc10, nc11, nc12, nc13, nc14, nc15, nc16, nc17, nc18, nc19, nc20, nc21, nc22, nc23, nc35, nc47, nc59, nc60, nc61, nc73, nc74, nc214, nc215, nc1115, nc2230, nc3345, if_true, if_false, Int.reduceToNat, hc.k6, hc.r5, hc.r6, hc.r0, hc.r2, hc.r7, hc.r8, hc.r9, hc.r10, hc.r11, hc.r12, hc.r13, hc.r14, hc.r15, hc.r16, hc.r17, hc.r18, hc.r8_0, hc.r8_1, hc.r11_0, hc.r11_1, hc.r60_0, hc.r60_1, hc.r60_4, hc.r64_0, hc.r64_3, hc.r64_4, hc.r68_0, hc.r41_0, hc.r41_1, hc.r42_0, hc.r42_1, hc.k7, hc.k8, hc.k9, hc.k11, hc.k12, hc.k13, hc.k32, hc.k41, hc.k42, hc.k43, hc.k60, hc.k61, hc.k62, hc.k63, hc.k64, hc.k65, hc.k66, hc.k67, hc.k68, hc.k69, hc.k70, hc.k71, hc.n6, hc.n7, hc.n8, hc.n9, hc.n11, hc.n12, hc.n13, hc.n32, hc.n41, hc.n42, hc.n43, hc.n60, hc.n61, hc.n62, hc.n63, hc.n64, hc.n65, hc.n66, hc.n67, hc.n68, hc.n69, hc.n70, hc.n71, s12, sK_pI, hI_pI]
    · rw [hI_pI, if_neg (by omega), hI_pI, if_neg (by omega)]; exact e1
    · rw [hI_pI, if_neg (by omega), hI_pI, if_neg (by omega)]; exact e2
    · rw [hI_pI, if_neg (by omega), hI_pI, if_neg (by omega)]; exact k5
    · rw [hI_pI, if_neg (by omega), hI_pI, if_neg (by omega)]; exact k2
    · rw [hI_pI, if_neg (by omega), hI_pI, if_neg (by omega)]; exact k3
    · rw [hI_pI, if_neg (by omega), hI_pI, if_neg (by omega)]; exact k4 z
    · rw [hI_pI, if_pos ⟨rfl, rfl⟩]; omega
  · refine ⟨h, ?_, m, Fr.rf⟩
    show EX (d) m_Law_emit 0 [(0, .inr (.inr (11))), (1, .inl (v))] [] (h) = _
    simp (disch := omega) only [Law_emit_0, Law_emit_32, wr_id, ix_id, okx, if_pos, if_neg, Int.toNat_of_nonneg, bak_v, bak_n, wr_b01, wr_bt, b01_or, b01_0, b01_1, lc_lt0, lc_gt0, lc_eq0, wl_wr, wr_wr, wl_id, true_and, and_true, true_or, or_true, not_true_eq_false, not_false_eq_true, nc0, nc1, nc2, nc3, nc4, nc5, nc6, nc7, nc8, nc9, nc10, nc11, nc12, nc13, nc14, nc15, nc16, nc17, nc18, nc19, nc20, nc21, nc22, nc23, nc35, nc47, nc59, nc60, nc61, nc73, nc74, nc214, nc215, nc1115, nc2230, nc3345, if_true, if_false, Int.reduceToNat, hc.k6, hc.r5, hc.r6, hc.r0, hc.r2, hc.r7, hc.r8, hc.r9, hc.r10, hc.r11, hc.r12, hc.r13, hc.r14, hc.r15, hc.r16, hc.r17, hc.r18, hc.r8_0, hc.r8_1, hc.r11_0, hc.r11_1, hc.r60_0, hc.r60_1, hc.r60_4, hc.r64_0, hc.r64_3, hc.r64_4, hc.r68_0, hc.r41_0, hc.r41_1, hc.r42_0, hc.r42_1, hc.k7, hc.k8, hc.k9, hc.k11, hc.k12, hc.k13, hc.k32, hc.k41, hc.k42, hc.k43, hc.k60, hc.k61, hc.k62, hc.k63, hc.k64, hc.k65, hc.k66, hc.k67, hc.k68, hc.k69, hc.k70, hc.k71, hc.n6, hc.n7, hc.n8, hc.n9, hc.n11, hc.n12, hc.n13, hc.n32, hc.n41, hc.n42, hc.n43, hc.n60, hc.n61, hc.n62, hc.n63, hc.n64, hc.n65, hc.n66, hc.n67, hc.n68, hc.n69, hc.n70, hc.n71, s12]
theorem c_mayEnter {d w : Nat} {h : Hp} {T : Int → Int} {n a : Int} {l : List Int} (m : CP h w T n a l) (hl : l.length ≤ 900) {dp : Int} (hd : 0 ≤ dp ∧ dp ≤ 6) : ∃ h', cal (d+2) m_Law_mayEnter [.inr (.inr (9)), .inl (dp)] (h) = some (.inl (if dp = 6 then 0 else 1), h') ∧ (if dp = 6 then CF h' w T n (4, a) else h' = h) ∧ Fr pLw h h' := by
  have hc := m.1.1
  have k5 := m.2.1.1
  by_cases c : dp = 6
  · obtain ⟨h', e, m', f⟩ := c_failAt (d := d) (p := a) (f := 4) m hl (by omega)
    refine ⟨h', ?_, ?_, f⟩
    · rw [if_pos c]
      show EX (d+1) m_Law_mayEnter 0 [(0, .inr (.inr (9))), (1, .inl (dp))] [] (h) = _
      simp (disch := omega) only [Law_mayEnter_0, Law_mayEnter_6, Law_mayEnter_15, wr_id, ix_id, okx, if_pos, if_neg, Int.toNat_of_nonneg, bak_v, bak_n, wr_b01, wr_bt, b01_or, b01_0, b01_1, lc_lt0, lc_gt0, lc_eq0, wl_wr, wr_wr, wl_id, true_and, and_true, true_or, or_true, not_true_eq_false, not_false_eq_true, nc0, nc1, nc2, nc3, nc4, nc5, nc6, nc7, nc8, nc9, nc10, nc11, nc12, nc13, nc14, nc15, nc16, nc17, nc18, nc19, nc20, nc21, nc22, nc23, nc35, nc47, nc59, nc60, nc61, nc73, nc74, nc214, nc215, nc1115, nc2230, nc3345, if_true, if_false, Int.reduceToNat, hc.k9, k5, e]
    · rw [if_pos c]; exact m'
  · refine ⟨h, ?_, ?_, Fr.rf⟩
    · rw [if_neg c]
      show EX (d+1) m_Law_mayEnter 0 [(0, .inr (.inr (9))), (1, .inl (dp))] [] (h) = _
      simp (disch := omega) only [Law_mayEnter_0, Law_mayEnter_17, wr_id, ix_id, okx, if_pos, if_neg, Int.toNat_of_nonneg, bak_v, bak_n, wr_b01, wr_bt, b01_or, b01_0, b01_1, lc_lt0, lc_gt0, lc_eq0, wl_wr, wr_wr, wl_id, true_and, and_true, true_or, or_true, not_true_eq_false, not_false_eq_true, nc0, nc1, nc2, nc3, nc4, nc5, nc6, nc7, nc8, nc9, nc10, nc11, nc12, nc13, nc14, nc15, nc16, nc17, nc18, nc19, nc20, nc21, nc22, nc23, nc35, nc47, nc59, nc60, nc61, nc73, nc74, nc214, nc215, nc1115, nc2230, nc3345, if_true, if_false, Int.reduceToNat]
    · rw [if_neg c]
/-! parts -/
def crL (h' : Hp) (w : Nat) (T : Int → Int) (n : Int) (l : List Int) (r : RL) : Prop := match r with
  | .inl e => CF h' w T n e
  | .inr q => CP h' w T n q.1 (l ++ q.2)
def cPt (D : Nat) (w : Nat) (T : Int → Int) (n lv dp : Int) (F : Int → RL) : Prop := ∀ (a : Int) (h : Hp) (l : List Int), CP h w T n a l → l.length ≤ a → ∃ h', cal (D) m_Law_readPart [.inr (.inr (11)), .inr (.inr (9)), .inl (lv), .inl (dp)] (h) = some (.inl 0, h') ∧ crL h' w T n l (F a) ∧ Fr pLw h h'
theorem c_partF {d w : Nat} {h : Hp} {T : Int → Int} {n : Int} {e : Int × Int} (m : CF h w T n e) {lv dp : Int} (hd : 0 ≤ dp ∧ dp ≤ 7) : cal (d+2) m_Law_readPart [.inr (.inr (11)), .inr (.inr (9)), .inl (lv), .inl (dp)] (h) = some (.inl 0, h) := by
  have hc := m.1.1
  have e1 := c_soundF (d := d) m
  show EX (d+1) m_Law_readPart 0 [(0, .inr (.inr (11))), (1, .inr (.inr (9))), (2, .inl (lv)), (3, .inl (dp))] [] (h) = _
  by_cases c : 6 < dp
  · simp (disch := omega) only [Law_readPart_0, Law_readPart_13, wr_id, ix_id, okx, if_pos, if_neg, Int.toNat_of_nonneg, bak_v, bak_n, wr_b01, wr_bt, b01_or, b01_0, b01_1, lc_lt0, lc_gt0, lc_eq0, wl_wr, wr_wr, wl_id, true_and, and_true, true_or, or_true, not_true_eq_false, not_false_eq_true, nc0, nc1, nc2, nc3, nc4, nc5, nc6, nc7, nc8, nc9, nc10, nc11, nc12, nc13, nc14, nc15, nc16, nc17, nc18, nc19, nc20, nc21, nc22, nc23, nc35, nc47, nc59, nc60, nc61, nc73, nc74, nc214, nc215, nc1115, nc2230, nc3345, if_true, if_false, Int.reduceToNat]
  · simp (disch := omega) only [Law_readPart_0, Law_readPart_6, Law_readPart_10, Law_readPart_13, wr_id, ix_id, okx, if_pos, if_neg, Int.toNat_of_nonneg, bak_v, bak_n, wr_b01, wr_bt, b01_or, b01_0, b01_1, lc_lt0, lc_gt0, lc_eq0, wl_wr, wr_wr, wl_id, true_and, and_true, true_or, or_true, not_true_eq_false, not_false_eq_true, nc0, nc1, nc2, nc3, nc4, nc5, nc6, nc7, nc8, nc9, nc10, nc11, nc12, nc13, nc14, nc15, nc16, nc17, nc18, nc19, nc20, nc21, nc22, nc23, nc35, nc47, nc59, nc60, nc61, nc73, nc74, nc214, nc215, nc1115, nc2230, nc3345, if_true, if_false, Int.reduceToNat, hc.k9, e1]
theorem c_isBtw {d : Nat} {h : Hp} {lv k : Int} (hl : lv = 0 ∨ lv = 1 ∨ lv = 3 ∨ lv = 4) (hk : kdO k) : cal (d+1) m_Law_isBetween [.inl (lv), .inl (kc k)] (h) = some (.inl (b01 (¬ opL lv k = -1)), h) := by
  have kr := kc_rng hk
  show EX (d) m_Law_isBetween 0 [(0, .inl (lv)), (1, .inl (kc k))] [] (h) = _
  have fin : ∀ (p : Prop) [Decidable p], (p ↔ ¬ opL lv k = -1) → b01 (¬ opL lv k = -1) = b01 p := fun p _ q => by
    unfold b01
    by_cases c : p
    · rw [if_pos c, if_pos (q.mp c)]
    · rw [if_neg c, if_neg (fun z => c (q.mpr z))]
  rcases hl with e | e | e | e <;> subst e
  · have ki := kc_iff (c := 139) hk (b := 11) (by unfold kdO; omega) rfl
    rw [fin (k = 11) (by unfold opL; by_cases c : k = 11 <;> simp [c])]
    unfold b01
    by_cases c : k = 11
    · have kk := ki.mpr c
      rw [if_pos c]
      simp (disch := omega) only [Law_isBetween_0, Law_isBetween_36, Law_isBetween_43, Law_isBetween_48, wr_id, ix_id, okx, if_pos, if_neg, Int.toNat_of_nonneg, bak_v, bak_n, wr_b01, wr_bt, b01_or, b01_0, b01_1, lc_lt0, lc_gt0, lc_eq0, wl_wr, wr_wr, wl_id, true_and, and_true, true_or, or_true, not_true_eq_false, not_false_eq_true, nc0, nc1, nc2, nc3, nc4, nc5, nc6, nc7, nc8, nc9, nc10, nc11, nc12, nc13, nc14, nc15, nc16, nc17, nc18, nc19, nc20, nc21, nc22, nc23, nc35, nc47, nc59, nc60, nc61, nc73, nc74, nc214, nc215, nc1115, nc2230, nc3345, if_true, if_false, Int.reduceToNat]
    · have kk : ¬ kc k = 139 := fun z => c (ki.mp z)
      rw [if_neg c]
      simp (disch := omega) only [Law_isBetween_0, Law_isBetween_36, Law_isBetween_47, Law_isBetween_48, wr_id, ix_id, okx, if_pos, if_neg, Int.toNat_of_nonneg, bak_v, bak_n, wr_b01, wr_bt, b01_or, b01_0, b01_1, lc_lt0, lc_gt0, lc_eq0, wl_wr, wr_wr, wl_id, true_and, and_true, true_or, or_true, not_true_eq_false, not_false_eq_true, nc0, nc1, nc2, nc3, nc4, nc5, nc6, nc7, nc8, nc9, nc10, nc11, nc12, nc13, nc14, nc15, nc16, nc17, nc18, nc19, nc20, nc21, nc22, nc23, nc35, nc47, nc59, nc60, nc61, nc73, nc74, nc214, nc215, nc1115, nc2230, nc3345, if_true, if_false, Int.reduceToNat]
  · have ki := kc_iff (c := 140) hk (b := 12) (by unfold kdO; omega) rfl
    rw [fin (k = 12) (by unfold opL; by_cases c : k = 12 <;> simp [c])]
    unfold b01
    by_cases c : k = 12
    · have kk := ki.mpr c
      rw [if_pos c]
      simp (disch := omega) only [Law_isBetween_0, Law_isBetween_49, Law_isBetween_56, Law_isBetween_61, wr_id, ix_id, okx, if_pos, if_neg, Int.toNat_of_nonneg, bak_v, bak_n, wr_b01, wr_bt, b01_or, b01_0, b01_1, lc_lt0, lc_gt0, lc_eq0, wl_wr, wr_wr, wl_id, true_and, and_true, true_or, or_true, not_true_eq_false, not_false_eq_true, nc0, nc1, nc2, nc3, nc4, nc5, nc6, nc7, nc8, nc9, nc10, nc11, nc12, nc13, nc14, nc15, nc16, nc17, nc18, nc19, nc20, nc21, nc22, nc23, nc35, nc47, nc59, nc60, nc61, nc73, nc74, nc214, nc215, nc1115, nc2230, nc3345, if_true, if_false, Int.reduceToNat]
    · have kk : ¬ kc k = 140 := fun z => c (ki.mp z)
      rw [if_neg c]
      simp (disch := omega) only [Law_isBetween_0, Law_isBetween_49, Law_isBetween_60, Law_isBetween_61, wr_id, ix_id, okx, if_pos, if_neg, Int.toNat_of_nonneg, bak_v, bak_n, wr_b01, wr_bt, b01_or, b01_0, b01_1, lc_lt0, lc_gt0, lc_eq0, wl_wr, wr_wr, wl_id, true_and, and_true, true_or, or_true, not_true_eq_false, not_false_eq_true, nc0, nc1, nc2, nc3, nc4, nc5, nc6, nc7, nc8, nc9, nc10, nc11, nc12, nc13, nc14, nc15, nc16, nc17, nc18, nc19, nc20, nc21, nc22, nc23, nc35, nc47, nc59, nc60, nc61, nc73, nc74, nc214, nc215, nc1115, nc2230, nc3345, if_true, if_false, Int.reduceToNat]
  · have k1 := kc_iff (c := 43) hk (b := 27) (by unfold kdO; omega) rfl
    have k2 := kc_iff (c := 45) hk (b := 28) (by unfold kdO; omega) rfl
    rw [fin (k = 27 ∨ k = 28) (by unfold opL; by_cases c : k = 27 <;> by_cases c2 : k = 28 <;> simp [c, c2])]
    unfold b01
    by_cases c : k = 27
    · have kk := k1.mpr c
      rw [if_pos (Or.inl c)]
      simp (disch := omega) only [Law_isBetween_0, Law_isBetween_62, Law_isBetween_74, Law_isBetween_79, wr_id, ix_id, okx, if_pos, if_neg, Int.toNat_of_nonneg, bak_v, bak_n, wr_b01, wr_bt, b01_or, b01_0, b01_1, lc_lt0, lc_gt0, lc_eq0, wl_wr, wr_wr, wl_id, true_and, and_true, true_or, or_true, not_true_eq_false, not_false_eq_true, nc0, nc1, nc2, nc3, nc4, nc5, nc6, nc7, nc8, nc9, nc10, nc11, nc12, nc13, nc14, nc15, nc16, nc17, nc18, nc19, nc20, nc21, nc22, nc23, nc35, nc47, nc59, nc60, nc61, nc73, nc74, nc214, nc215, nc1115, nc2230, nc3345, if_true, if_false, Int.reduceToNat]
    · have kk : ¬ kc k = 43 := fun z => c (k1.mp z)
      by_cases c2 : k = 28
      · have kk2 := k2.mpr c2
        rw [if_pos (Or.inr c2)]
        simp (disch := omega) only [Law_isBetween_0, Law_isBetween_62, Law_isBetween_68, Law_isBetween_74, Law_isBetween_79, wr_id, ix_id, okx, if_pos, if_neg, Int.toNat_of_nonneg, bak_v, bak_n, wr_b01, wr_bt, b01_or, b01_0, b01_1, lc_lt0, lc_gt0, lc_eq0, wl_wr, wr_wr, wl_id, true_and, and_true, true_or, or_true, not_true_eq_false, not_false_eq_true, nc0, nc1, nc2, nc3, nc4, nc5, nc6, nc7, nc8, nc9, nc10, nc11, nc12, nc13, nc14, nc15, nc16, nc17, nc18, nc19, nc20, nc21, nc22, nc23, nc35, nc47, nc59, nc60, nc61, nc73, nc74, nc214, nc215, nc1115, nc2230, nc3345, if_true, if_false, Int.reduceToNat]
      · have kk2 : ¬ kc k = 45 := fun z => c2 (k2.mp z)
        rw [if_neg (by omega)]
        simp (disch := omega) only [Law_isBetween_0, Law_isBetween_62, Law_isBetween_68, Law_isBetween_78, Law_isBetween_79, wr_id, ix_id, okx, if_pos, if_neg, Int.toNat_of_nonneg, bak_v, bak_n, wr_b01, wr_bt, b01_or, b01_0, b01_1, lc_lt0, lc_gt0, lc_eq0, wl_wr, wr_wr, wl_id, true_and, and_true, true_or, or_true, not_true_eq_false, not_false_eq_true, nc0, nc1, nc2, nc3, nc4, nc5, nc6, nc7, nc8, nc9, nc10, nc11, nc12, nc13, nc14, nc15, nc16, nc17, nc18, nc19, nc20, nc21, nc22, nc23, nc35, nc47, nc59, nc60, nc61, nc73, nc74, nc214, nc215, nc1115, nc2230, nc3345, if_true, if_false, Int.reduceToNat]
  · have ki := kc_iff (c := 42) hk (b := 29) (by unfold kdO; omega) rfl
    rw [fin (k = 29) (by unfold opL; by_cases c : k = 29 <;> simp [c])]
    unfold b01
    by_cases c : k = 29
    · have kk := ki.mpr c
      rw [if_pos c]
      simp (disch := omega) only [Law_isBetween_0, Law_isBetween_80, Law_isBetween_86, Law_isBetween_91, wr_id, ix_id, okx, if_pos, if_neg, Int.toNat_of_nonneg, bak_v, bak_n, wr_b01, wr_bt, b01_or, b01_0, b01_1, lc_lt0, lc_gt0, lc_eq0, wl_wr, wr_wr, wl_id, true_and, and_true, true_or, or_true, not_true_eq_false, not_false_eq_true, nc0, nc1, nc2, nc3, nc4, nc5, nc6, nc7, nc8, nc9, nc10, nc11, nc12, nc13, nc14, nc15, nc16, nc17, nc18, nc19, nc20, nc21, nc22, nc23, nc35, nc47, nc59, nc60, nc61, nc73, nc74, nc214, nc215, nc1115, nc2230, nc3345, if_true, if_false, Int.reduceToNat]
    · have kk : ¬ kc k = 42 := fun z => c (ki.mp z)
      rw [if_neg c]
      simp (disch := omega) only [Law_isBetween_0, Law_isBetween_80, Law_isBetween_90, Law_isBetween_91, wr_id, ix_id, okx, if_pos, if_neg, Int.toNat_of_nonneg, bak_v, bak_n, wr_b01, wr_bt, b01_or, b01_0, b01_1, lc_lt0, lc_gt0, lc_eq0, wl_wr, wr_wr, wl_id, true_and, and_true, true_or, or_true, not_true_eq_false, not_false_eq_true, nc0, nc1, nc2, nc3, nc4, nc5, nc6, nc7, nc8, nc9, nc10, nc11, nc12, nc13, nc14, nc15, nc16, nc17, nc18, nc19, nc20, nc21, nc22, nc23, nc35, nc47, nc59, nc60, nc61, nc73, nc74, nc214, nc215, nc1115, nc2230, nc3345, if_true, if_false, Int.reduceToNat]
theorem op_cc {lv k : Int} (hl : lv = 0 ∨ lv = 1 ∨ lv = 3 ∨ lv = 4) (h : ¬ opL lv k = -1) : kc k = ccd (opL lv k) := by
  rcases hl with e | e | e | e <;> subst e
  · by_cases c : k = 11
    · subst c; rfl
    · exact absurd (by unfold opL; simp [c]) h
  · by_cases c : k = 12
    · subst c; rfl
    · exact absurd (by unfold opL; simp [c]) h
  · by_cases c : k = 27
    · subst c; rfl
    · by_cases c2 : k = 28
      · subst c2; rfl
      · exact absurd (by unfold opL; simp [c, c2]) h
  · by_cases c : k = 29
    · subst c; rfl
    · exact absurd (by unfold opL; simp [c]) h
theorem c_lp {d w : Nat} {T : Int → Int} {n lv dp : Int} {F : Int → RL} (hl : lv = 0 ∨ lv = 1 ∨ lv = 3 ∨ lv = 4) (hd : 0 ≤ dp ∧ dp ≤ 6) (hF : cPt (d + 4) w T n (lv + 1) dp F) (hok : ∀ a, a ≤ n → okL n a (F a)) : ∀ (c : Nat) (a i : Int) (l0 l : List Int) (h : Hp), n - a < c → CP h w T n a (l0 ++ l) → l0.length + l.length ≤ a → 0 ≤ i → i ≤ a → ∃ h', EX (d+4) m_Law_readPart 50 [(0, .inr (.inr (11))), (1, .inr (.inr (9))), (2, .inl (lv)), (3, .inl (dp)), (4, .inl (i))] [] (h) = some (.inl 0, h') ∧ crL h' w T n l0 (prL T n F lv c a l) ∧ Fr pLw h h' := by
  intro c
  induction c with
  | zero => intro a i l0 l h hc m; have := m.rng; omega
  | succ c ih =>
    intro a i l0 l h hc m s1 i0 i1
    have hcr := m.1.1
    have rg := m.rng
    obtain ⟨k3, kr⟩ := m.k
    have nr := nx_rng (T := T) (n := n) (a := a) (by omega)
    have es := c_sound (d := d + 3) m
    have eb := c_isBtw (d := d + 3) (h := h) hl (tkK_ok T n a)
    simp only [prL]
    by_cases co : opL lv (tkK T n a) = -1
    · rw [if_pos co]
      have b : b01 (¬ opL lv (tkK T n a) = -1) = 0 := by unfold b01; rw [if_neg (fun z => z co)]
      rw [b] at eb
      refine ⟨h, ?_, m, Fr.rf⟩
      rw [Law_readPart_50]
      by_cases c9 : i < 900
      · simp (disch := omega) only [Law_readPart_58, Law_readPart_62, Law_readPart_65, Law_readPart_73, Law_readPart_107, wr_id, ix_id, okx, if_pos, if_neg, Int.toNat_of_nonneg, bak_v, bak_n, wr_b01, wr_bt, b01_or, b01_0, b01_1, lc_lt0, lc_gt0, lc_eq0, wl_wr, wr_wr, wl_id, true_and, and_true, true_or, or_true, not_true_eq_false, not_false_eq_true, nc0, nc1, nc2, nc3, nc4, nc5, nc6, nc7, nc8, nc9, nc10, nc11, nc12, nc13, nc14, nc15, nc16, nc17, nc18, nc19, nc20, nc21, nc22, nc23, nc35, nc47, nc59, nc60, nc61, nc73, nc74, nc214, nc215, nc1115, nc2230, nc3345, if_true, if_false, Int.reduceToNat, hcr.k9, es, k3, eb]
      · simp (disch := omega) only [Law_readPart_107, wr_id, ix_id, okx, if_pos, if_neg, Int.toNat_of_nonneg, bak_v, bak_n, wr_b01, wr_bt, b01_or, b01_0, b01_1, lc_lt0, lc_gt0, lc_eq0, wl_wr, wr_wr, wl_id, true_and, and_true, true_or, or_true, not_true_eq_false, not_false_eq_true, nc0, nc1, nc2, nc3, nc4, nc5, nc6, nc7, nc8, nc9, nc10, nc11, nc12, nc13, nc14, nc15, nc16, nc17, nc18, nc19, nc20, nc21, nc22, nc23, nc35, nc47, nc59, nc60, nc61, nc73, nc74, nc214, nc215, nc1115, nc2230, nc3345, if_true, if_false, Int.reduceToNat]
    · rw [if_neg co]
      have b : b01 (¬ opL lv (tkK T n a) = -1) = 1 := by unfold b01; rw [if_pos co]
      rw [b] at eb
      have la : a < n := tkK_22 (T := T) (fun z => co (by rw [z]; unfold opL; repeat' split; all_goals omega))
      have := nr.2.2 la
      have oc := op_cc hl co
      obtain ⟨h1, e1, m1, f1⟩ := c_stepP (d := d + 1) m
      have hc1 := m1.1.1
      obtain ⟨h2, e2, r2, f2⟩ := hF (nx T n a) h1 (l0 ++ l) m1 (by simp only [List.length_append]; omega)
      have g1 : Fr pLw h h1 := f1.mo (fun a k z => z.lw)
      have hc2 := (hcr.fr g1).fr f2
      have st : ∀ h3, cal (d + 4) m_Law_emit [.inr (.inr 11), .inl (kc (tkK T n a))] h2 = some (.inl 0, h3) → EX (d+4) m_Law_readPart 50 [(0, .inr (.inr (11))), (1, .inr (.inr (9))), (2, .inl (lv)), (3, .inl (dp)), (4, .inl (i))] [] (h) = EX (d+4) m_Law_readPart 50 [(0, .inr (.inr (11))), (1, .inr (.inr (9))), (2, .inl (lv)), (3, .inl (dp)), (4, .inl (i + 1))] [] (h3) := fun h3 e3 => by
        rw [Law_readPart_50]
        simp (disch := omega) only [Law_readPart_58, Law_readPart_62, Law_readPart_65, Law_readPart_73, Law_readPart_76, wr_id, ix_id, okx, if_pos, if_neg, Int.toNat_of_nonneg, bak_v, bak_n, wr_b01, wr_bt, b01_or, b01_0, b01_1, lc_lt0, lc_gt0, lc_eq0, wl_wr, wr_wr, wl_id, true_and, and_true, true_or, or_true, not_true_eq_false, not_false_eq_true, nc0, nc1, nc2, nc3, nc4, nc5, nc6, nc7, nc8, nc9, nc10, nc11, nc12, nc13, nc14, nc15, nc16, nc17, nc18, nc19, nc20, nc21, nc22, nc23, nc35, nc47, nc59, nc60, nc61, nc73, nc74, nc214, nc215, nc1115, nc2230, nc3345, if_true, if_false, Int.reduceToNat, hcr.k9, es, k3, eb, e1]
        simp (disch := omega) only [Law_readPart_86, Law_readPart_95, Law_readPart_101, wr_id, ix_id, okx, if_pos, if_neg, Int.toNat_of_nonneg, bak_v, bak_n, wr_b01, wr_bt, b01_or, b01_0, b01_1, lc_lt0, lc_gt0, lc_eq0, wl_wr, wr_wr, wl_id, true_and, and_true, true_or, or_true, not_true_eq_false, not_false_eq_true, nc0, nc1, nc2, nc3, nc4, nc5, nc6, nc7, nc8, nc9, nc10, nc11, nc12, nc13, nc14, nc15, nc16, nc17, nc18, nc19, nc20, nc21, nc22, nc23, nc35, nc47, nc59, nc60, nc61, nc73, nc74, nc214, nc215, nc1115, nc2230, nc3345, if_true, if_false, Int.reduceToNat, hc1.k11, hc2.k11, e2, e3]
      cases hq : F (nx T n a) with
      | inl e =>
        rw [hq] at r2
        have r2' : CF h2 w T n e := r2
        obtain ⟨h3, e3, m3, f3⟩ := c_emitF (d := d + 3) r2' (kc (tkK T n a))
        have hc3 := m3.1.1
        have e4 := c_soundF (d := d + 3) m3
        refine ⟨h3, ?_, m3, (g1.tr f2).tr f3⟩
        rw [st h3 e3, Law_readPart_50]
        by_cases c9 : i + 1 < 900
        · simp (disch := omega) only [Law_readPart_58, Law_readPart_62, Law_readPart_107, wr_id, ix_id, okx, if_pos, if_neg, Int.toNat_of_nonneg, bak_v, bak_n, wr_b01, wr_bt, b01_or, b01_0, b01_1, lc_lt0, lc_gt0, lc_eq0, wl_wr, wr_wr, wl_id, true_and, and_true, true_or, or_true, not_true_eq_false, not_false_eq_true, nc0, nc1, nc2, nc3, nc4, nc5, nc6, nc7, nc8, nc9, nc10, nc11, nc12, nc13, nc14, nc15, nc16, nc17, nc18, nc19, nc20, nc21, nc22, nc23, nc35, nc47, nc59, nc60, nc61, nc73, nc74, nc214, nc215, nc1115, nc2230, nc3345, if_true, if_false, Int.reduceToNat, hc3.k9, e4]
        · simp (disch := omega) only [Law_readPart_107, wr_id, ix_id, okx, if_pos, if_neg, Int.toNat_of_nonneg, bak_v, bak_n, wr_b01, wr_bt, b01_or, b01_0, b01_1, lc_lt0, lc_gt0, lc_eq0, wl_wr, wr_wr, wl_id, true_and, and_true, true_or, or_true, not_true_eq_false, not_false_eq_true, nc0, nc1, nc2, nc3, nc4, nc5, nc6, nc7, nc8, nc9, nc10, nc11, nc12, nc13, nc14, nc15, nc16, nc17, nc18, nc19, nc20, nc21, nc22, nc23, nc35, nc47, nc59, nc60, nc61, nc73, nc74, nc214, nc215, nc1115, nc2230, nc3345, if_true, if_false, Int.reduceToNat]
      | inr q =>
        rw [hq] at r2
        have r2' : CP h2 w T n q.1 ((l0 ++ l) ++ q.2) := r2
        have ok := hok (nx T n a) nr.2.1 q hq
        obtain ⟨h3, e3, m3, f3⟩ := c_emit (d := d + 3) (c := opL lv (tkK T n a)) r2' (by simp only [List.length_append]; omega) oc
        have ea : (l0 ++ l) ++ q.2 ++ [opL lv (tkK T n a)] = l0 ++ (l ++ (q.2 ++ [opL lv (tkK T n a)])) := by simp only [List.append_assoc]
        rw [ea] at m3
        obtain ⟨h4, e4, m4, f4⟩ := ih q.1 (i + 1) l0 (l ++ (q.2 ++ [opL lv (tkK T n a)])) h3 (by omega) m3 (by simp only [List.length_append, List.length_cons, List.length_nil]; omega) (by omega) (by omega)
        refine ⟨h4, ?_, m4, ((g1.tr f2).tr f3).tr f4⟩
        rw [st h3 e3]
        exact e4
