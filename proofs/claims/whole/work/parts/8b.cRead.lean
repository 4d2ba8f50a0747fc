/-! the class: Reader -/
theorem CP.fu {h h' : Hp} {w : Nat} {T : Int → Int} {n a : Int} {l : List Int} (m : CP h w T n a l) {p : Nat → Nat → Prop} (f : Fr p h h') (hp : ∀ a k, p a k → 13 ≤ a) : CP h' w T n a l := by
  obtain ⟨x, ⟨k5, k2, k3, k4⟩, h6, h7, cd, ar⟩ := m
  have np : ∀ a k, a < 13 → ¬ p a k := fun a k ha q => by have := hp a k q; omega
  exact ⟨x.fr f (fun a k q => by have := hp a k q; omega), ⟨by rw [f.I (np 9 _ (by omega))]; exact k5, by rw [f.I (np 9 _ (by omega))]; exact k2, by rw [f.I (np 9 _ (by omega))]; exact k3, fun z => by rw [f.I (np 9 _ (by omega))]; exact k4 z⟩, by rw [f.I (np 9 _ (by omega))]; exact h6, by rw [f.I (np 9 _ (by omega))]; exact h7, cd.fr f (np 11 _ (by omega)) (fun k => np 12 k (by omega)), ar⟩
theorem CF.fu {h h' : Hp} {w : Nat} {T : Int → Int} {n : Int} {e : Int × Int} (m : CF h w T n e) {p : Nat → Nat → Prop} (f : Fr p h h') (hp : ∀ a k, p a k → 13 ≤ a) : CF h' w T n e := by
  obtain ⟨x, ⟨e1, e2, e3⟩, ⟨a, ⟨k5, k2, k3, k4⟩, ar⟩, sz⟩ := m
  have np : ∀ a k, a < 13 → ¬ p a k := fun a k ha q => by have := hp a k q; omega
  exact ⟨x.fr f (fun a k q => by have := hp a k q; omega), ⟨by rw [f.I (np 9 _ (by omega))]; exact e1, by rw [f.I (np 9 _ (by omega))]; exact e2, e3⟩, ⟨a, ⟨by rw [f.I (np 9 _ (by omega))]; exact k5, by rw [f.I (np 9 _ (by omega))]; exact k2, by rw [f.I (np 9 _ (by omega))]; exact k3, fun z => by rw [f.I (np 9 _ (by omega))]; exact k4 z⟩, ar⟩, by rw [f.I (np 11 _ (by omega))]; exact sz⟩
theorem c_take {d w : Nat} {h : Hp} {T : Int → Int} {n a lo hi : Int} {l : List Int} (m : CP h w T n a l) (hl : -1 ≤ lo ∧ lo ≤ 1000) (hh : -1 ≤ hi ∧ hi ≤ 1000) {q : Int × Int} (hq : tak T n lo hi a = .inr q) : ∃ h', cal (d+4) m_Tokens_passNumber [.inr (.inr (9)), .inl (lo), .inl (hi)] (h) = some (.inl q.2, h') ∧ CP h' w T n q.1 l ∧ Fr pLw h h' := by
  have hc := m.1.1
  have rg := m.rng
  obtain ⟨k3, kr⟩ := m.k
  obtain ⟨t1, t2, t3, t4, t5, t6, t7⟩ := tak_ok rg.2.1 hq
  have k4 := m.2.1.2.2.2 t5
  rw [t5, show kc 21 = 2 from rfl] at k3
  obtain ⟨h', e, m', f⟩ := c_stepP (d := d) m
  refine ⟨h', ?_, by rw [t7]; exact m', f.mo (fun a k z => z.lw)⟩
  have k4' : hI h 9 4 = q.2 := by rw [k4, t6]
  have tn := tkN_rng (T := T) (n := n) (a := a) rg.2.1
  show EX (d+3) m_Tokens_passNumber 0 [(0, .inr (.inr (9))), (1, .inl (lo)), (2, .inl (hi))] [] (h) = _
  simp (disch := omega) only [Tokens_passNumber_0, Tokens_passNumber_19, Tokens_passNumber_24, Tokens_passNumber_40, Tokens_passNumber_44, wr_id, ix_id, okx, if_pos, if_neg, Int.toNat_of_nonneg, bak_v, bak_n, wr_b01, wr_bt, b01_or, b01_0, b01_1, lc_lt0, lc_gt0, lc_eq0, wl_wr, wr_wr, wl_id, true_and, and_true, true_or, or_true, not_true_eq_false, not_false_eq_true, nc0, nc1, nc2, nc3, nc4, nc5, nc6, nc7, nc8, nc9, nc10, nc11, nc12, nc13, nc14, nc15, nc16, nc17, nc18, nc19, nc20, nc21, nc22, nc23, nc35, nc47, nc59, nc60, nc61, nc73, nc74, nc214, nc215, nc1115, nc2230, nc3345, if_true, if_false, Int.reduceToNat, hc.k9, k3, k4', e]
theorem c_takeN {d w : Nat} {h : Hp} {T : Int → Int} {n a lo hi : Int} {l : List Int} (m : CP h w T n a l) (hl : l.length ≤ 900) (hlo : -1 ≤ lo ∧ lo ≤ 1000) (hh : -1 ≤ hi ∧ hi ≤ 1000) {e : Int × Int} (hq : tak T n lo hi a = .inl e) : ∃ h', cal (d+4) m_Tokens_passNumber [.inr (.inr (9)), .inl (lo), .inl (hi)] (h) = some (.inl lo, h') ∧ CF h' w T n e ∧ Fr pLw h h' := by
  have hc := m.1.1
  have rg := m.rng
  obtain ⟨k3, kr⟩ := m.k
  have k5 := m.2.1.1
  unfold tak at hq
  split at hq
  · rename_i c1
    split at hq
    · cases hq
    · rename_i c2
      cases hq
      have k4 := m.2.1.2.2.2 c1
      have tn := tkN_rng (T := T) (n := n) (a := a) rg.2.1
      rw [c1, show kc 21 = 2 from rfl] at k3
      obtain ⟨h', e, m', f⟩ := c_failAt (d := d + 2) (p := a) (f := 3) m hl (by omega)
      refine ⟨h', ?_, m', f⟩
      show EX (d+3) m_Tokens_passNumber 0 [(0, .inr (.inr (9))), (1, .inl (lo)), (2, .inl (hi))] [] (h) = _
      by_cases c3 : tkN T n a < lo
      · simp (disch := omega) only [Tokens_passNumber_0, Tokens_passNumber_19, Tokens_passNumber_29, Tokens_passNumber_38, wr_id, ix_id, okx, if_pos, if_neg, Int.toNat_of_nonneg, bak_v, bak_n, wr_b01, wr_bt, b01_or, b01_0, b01_1, lc_lt0, lc_gt0, lc_eq0, wl_wr, wr_wr, wl_id, true_and, and_true, true_or, or_true, not_true_eq_false, not_false_eq_true, nc0, nc1, nc2, nc3, nc4, nc5, nc6, nc7, nc8, nc9, nc10, nc11, nc12, nc13, nc14, nc15, nc16, nc17, nc18, nc19, nc20, nc21, nc22, nc23, nc35, nc47, nc59, nc60, nc61, nc73, nc74, nc214, nc215, nc1115, nc2230, nc3345, if_true, if_false, Int.reduceToNat, hc.k9, k3, k4, k5, e]
      · simp (disch := omega) only [Tokens_passNumber_0, Tokens_passNumber_19, Tokens_passNumber_24, Tokens_passNumber_29, Tokens_passNumber_38, wr_id, ix_id, okx, if_pos, if_neg, Int.toNat_of_nonneg, bak_v, bak_n, wr_b01, wr_bt, b01_or, b01_0, b01_1, lc_lt0, lc_gt0, lc_eq0, wl_wr, wr_wr, wl_id, true_and, and_true, true_or, or_true, not_true_eq_false, not_false_eq_true, nc0, nc1, nc2, nc3, nc4, nc5, nc6, nc7, nc8, nc9, nc10, nc11, nc12, nc13, nc14, nc15, nc16, nc17, nc18, nc19, nc20, nc21, nc22, nc23, nc35, nc47, nc59, nc60, nc61, nc73, nc74, nc214, nc215, nc1115, nc2230, nc3345, if_true, if_false, Int.reduceToNat, hc.k9, k3, k4, k5, e]
  · rename_i c1
    cases hq
    have kk : ¬ kc (tkK T n a) = 2 := fun z => c1 ((kc_iff (c := 2) (tkK_ok T n a) (b := 21) (by unfold kdO; omega) rfl).mp z)
    obtain ⟨h', e, m', f⟩ := c_refuse (d := d + 1) m hl
    refine ⟨h', ?_, m', f⟩
    show EX (d+3) m_Tokens_passNumber 0 [(0, .inr (.inr (9))), (1, .inl (lo)), (2, .inl (hi))] [] (h) = _
    simp (disch := omega) only [Tokens_passNumber_0, Tokens_passNumber_13, Tokens_passNumber_17, wr_id, ix_id, okx, if_pos, if_neg, Int.toNat_of_nonneg, bak_v, bak_n, wr_b01, wr_bt, b01_or, b01_0, b01_1, lc_lt0, lc_gt0, lc_eq0, wl_wr, wr_wr, wl_id, true_and, and_true, true_or, or_true, not_true_eq_false, not_false_eq_true, nc0, nc1, nc2, nc3, nc4, nc5, nc6, nc7, nc8, nc9, nc10, nc11, nc12, nc13, nc14, nc15, nc16, nc17, nc18, nc19, nc20, nc21, nc22, nc23, nc35, nc47, nc59, nc60, nc61, nc73, nc74, nc214, nc215, nc1115, nc2230, nc3345, if_true, if_false, Int.reduceToNat, hc.k9, k3, e]
theorem c_takeF {d w : Nat} {h : Hp} {T : Int → Int} {n lo hi : Int} {e : Int × Int} (m : CF h w T n e) (hlo : -1 ≤ lo ∧ lo ≤ 1000) (hh : -1 ≤ hi ∧ hi ≤ 1000) : ∃ h' v, cal (d+4) m_Tokens_passNumber [.inr (.inr (9)), .inl (lo), .inl (hi)] (h) = some (.inl v, h') ∧ CF h' w T n e ∧ Fr pLw h h' := by
  have hc := m.1.1
  obtain ⟨-, -, ⟨a, ⟨k5, k2, k3, k4⟩, ar⟩, -⟩ := id m
  have kr := kc_rng (tkK_ok T n a)
  have ki := kc_iff (c := 2) (tkK_ok T n a) (b := 21) (by unfold kdO; omega) rfl
  by_cases c1 : tkK T n a = 21
  · have k4' := k4 c1
    have tn := tkN_rng (T := T) (n := n) (a := a) ar.2
    rw [ki.mpr c1] at k3
    by_cases c2 : tkN T n a < lo
    · have ef := c_failAtF (d := d + 2) m a 3
      refine ⟨h, lo, ?_, m, Fr.rf⟩
      show EX (d+3) m_Tokens_passNumber 0 [(0, .inr (.inr (9))), (1, .inl (lo)), (2, .inl (hi))] [] (h) = _
      simp (disch := omega) only [Tokens_passNumber_0, Tokens_passNumber_19, Tokens_passNumber_29, Tokens_passNumber_38, wr_id, ix_id, okx, if_pos, if_neg, Int.toNat_of_nonneg, bak_v, bak_n, wr_b01, wr_bt, b01_or, b01_0, b01_1, lc_lt0, lc_gt0, lc_eq0, wl_wr, wr_wr, wl_id, true_and, and_true, true_or, or_true, not_true_eq_false, not_false_eq_true, nc0, nc1, nc2, nc3, nc4, nc5, nc6, nc7, nc8, nc9, nc10, nc11, nc12, nc13, nc14, nc15, nc16, nc17, nc18, nc19, nc20, nc21, nc22, nc23, nc35, nc47, nc59, nc60, nc61, nc73, nc74, nc214, nc215, nc1115, nc2230, nc3345, if_true, if_false, Int.reduceToNat, hc.k9, k3, k4', k5, ef]
    · by_cases c3 : hi < tkN T n a
      · have ef := c_failAtF (d := d + 2) m a 3
        refine ⟨h, lo, ?_, m, Fr.rf⟩
        show EX (d+3) m_Tokens_passNumber 0 [(0, .inr (.inr (9))), (1, .inl (lo)), (2, .inl (hi))] [] (h) = _
        simp (disch := omega) only [Tokens_passNumber_0, Tokens_passNumber_19, Tokens_passNumber_24, Tokens_passNumber_29, Tokens_passNumber_38, wr_id, ix_id, okx, if_pos, if_neg, Int.toNat_of_nonneg, bak_v, bak_n, wr_b01, wr_bt, b01_or, b01_0, b01_1, lc_lt0, lc_gt0, lc_eq0, wl_wr, wr_wr, wl_id, true_and, and_true, true_or, or_true, not_true_eq_false, not_false_eq_true, nc0, nc1, nc2, nc3, nc4, nc5, nc6, nc7, nc8, nc9, nc10, nc11, nc12, nc13, nc14, nc15, nc16, nc17, nc18, nc19, nc20, nc21, nc22, nc23, nc35, nc47, nc59, nc60, nc61, nc73, nc74, nc214, nc215, nc1115, nc2230, nc3345, if_true, if_false, Int.reduceToNat, hc.k9, k3, k4', k5, ef]
      · obtain ⟨h', e', m', f⟩ := c_stepF (d := d) m
        refine ⟨h', tkN T n a, ?_, m', f.mo (fun a k z => z.lw)⟩
        show EX (d+3) m_Tokens_passNumber 0 [(0, .inr (.inr (9))), (1, .inl (lo)), (2, .inl (hi))] [] (h) = _
        simp (disch := omega) only [Tokens_passNumber_0, Tokens_passNumber_19, Tokens_passNumber_24, Tokens_passNumber_40, Tokens_passNumber_44, wr_id, ix_id, okx, if_pos, if_neg, Int.toNat_of_nonneg, bak_v, bak_n, wr_b01, wr_bt, b01_or, b01_0, b01_1, lc_lt0, lc_gt0, lc_eq0, wl_wr, wr_wr, wl_id, true_and, and_true, true_or, or_true, not_true_eq_false, not_false_eq_true, nc0, nc1, nc2, nc3, nc4, nc5, nc6, nc7, nc8, nc9, nc10, nc11, nc12, nc13, nc14, nc15, nc16, nc17, nc18, nc19, nc20, nc21, nc22, nc23, nc35, nc47, nc59, nc60, nc61, nc73, nc74, nc214, nc215, nc1115, nc2230, nc3345, if_true, if_false, Int.reduceToNat, hc.k9, k3, k4', e']
  · have kk : ¬ kc (tkK T n a) = 2 := fun z => c1 (ki.mp z)
    have ef := c_refuseF (d := d + 1) m
    refine ⟨h, lo, ?_, m, Fr.rf⟩
    show EX (d+3) m_Tokens_passNumber 0 [(0, .inr (.inr (9))), (1, .inl (lo)), (2, .inl (hi))] [] (h) = _
    simp (disch := omega) only [Tokens_passNumber_0, Tokens_passNumber_13, Tokens_passNumber_17, wr_id, ix_id, okx, if_pos, if_neg, Int.toNat_of_nonneg, bak_v, bak_n, wr_b01, wr_bt, b01_or, b01_0, b01_1, lc_lt0, lc_gt0, lc_eq0, wl_wr, wr_wr, wl_id, true_and, and_true, true_or, or_true, not_true_eq_false, not_false_eq_true, nc0, nc1, nc2, nc3, nc4, nc5, nc6, nc7, nc8, nc9, nc10, nc11, nc12, nc13, nc14, nc15, nc16, nc17, nc18, nc19, nc20, nc21, nc22, nc23, nc35, nc47, nc59, nc60, nc61, nc73, nc74, nc214, nc215, nc1115, nc2230, nc3345, if_true, if_false, Int.reduceToNat, hc.k9, k3, ef]
/-- what a part of the reader may write; u: the window that is read -/
def pRd (u a k : Nat) : Prop := pLw a k ∨ a = 11 ∨ a = 13 ∨ (u ≤ a ∧ a ≤ u + 5) ∨ a = 28 ∨ a = 29
theorem pLw.rd {u a k : Nat} (q : pLw a k) : pRd u a k := Or.inl q
theorem c_row_l {d w A : Nat} {T : Int → Int} {n o : Int} (hA : 14 ≤ A) : ∀ (c : Nat) (k a : Int) (S : Int → Int) (h : Hp) (l : List Int), c + k = 13 → 0 ≤ k → k ≤ 11 → CP h w T n a l → l.length ≤ 900 → (sK h A = 20 ∧ sN h A = 12) → (∀ j : Nat, (j : Int) ≤ k → hI h A j = sm (fun j => S (o + j)) 0 j) → ∃ h' v, EX (d+4) m_Reader_readRow 4 [(0, .inr (.inr (8))), (1, .inr (.inr (A))), (2, .inl (k + 1)), (3, .inl (k))] [] (h) = some (.inl v, h') ∧ (match rwP T n o c k a S with | .inl e => CF h' w T n e | .inr q => v = 1 + q.2.1 ∧ CP h' w T n q.1 l ∧ (∀ j : Nat, (j : Int) ≤ q.2.1 → hI h' A j = sm (fun j => q.2.2 (o + j)) 0 j)) ∧ Fr (fun a k => pLw a k ∨ a = A) h h' := by
  intro c
  induction c with
  | zero => intro k a S h l hck h0 h1; omega
  | succ c ih =>
    intro k a S h l hck h0 h1 m hl hA2 hs
    have hc := m.1.1
    have rg := m.rng
    obtain ⟨k3, kr⟩ := m.k
    have k5 := m.2.1.1
    have ki := kc_iff (c := 2) (tkK_ok T n a) (b := 21) (by unfold kdO; omega) rfl
    simp only [rwP]
    by_cases cg : k = 0 ∨ tkK T n a = 21
    · rw [if_pos cg]
      have st : EX (d+4) m_Reader_readRow 4 [(0, .inr (.inr (8))), (1, .inr (.inr (A))), (2, .inl (k + 1)), (3, .inl (k))] [] (h) = EX (d+4) m_Reader_readRow 25 [(0, .inr (.inr (8))), (1, .inr (.inr (A))), (2, .inl (k + 1)), (3, .inl (k))] [] (h) := by
        rw [Reader_readRow_4]
        by_cases c0 : k = 0
        · simp (disch := omega) only [Reader_readRow_10, wr_id, ix_id, okx, if_pos, if_neg, Int.toNat_of_nonneg, bak_v, bak_n, wr_b01, wr_bt, b01_or, b01_0, b01_1, lc_lt0, lc_gt0, lc_eq0, wl_wr, wr_wr, wl_id, true_and, and_true, true_or, or_true, not_true_eq_false, not_false_eq_true, nc0, nc1, nc2, nc3, nc4, nc5, nc6, nc7, nc8, nc9, nc10, nc11, nc12, nc13, nc14, nc15, nc16, nc17, nc18, nc19, nc20, nc21, nc22, nc23, nc35, nc47, nc59, nc60, nc61, nc73, nc74, nc214, nc215, nc1115, nc2230, nc3345, if_true, if_false, Int.reduceToNat]
        · have ck : tkK T n a = 21 := by omega
          rw [ki.mpr ck] at k3
          simp (disch := omega) only [Reader_readRow_10, Reader_readRow_14, wr_id, ix_id, okx, if_pos, if_neg, Int.toNat_of_nonneg, bak_v, bak_n, wr_b01, wr_bt, b01_or, b01_0, b01_1, lc_lt0, lc_gt0, lc_eq0, wl_wr, wr_wr, wl_id, true_and, and_true, true_or, or_true, not_true_eq_false, not_false_eq_true, nc0, nc1, nc2, nc3, nc4, nc5, nc6, nc7, nc8, nc9, nc10, nc11, nc12, nc13, nc14, nc15, nc16, nc17, nc18, nc19, nc20, nc21, nc22, nc23, nc35, nc47, nc59, nc60, nc61, nc73, nc74, nc214, nc215, nc1115, nc2230, nc3345, if_true, if_false, Int.reduceToNat, hc.k8, hc.r8_0, hc.k9, k3]
      rw [st]
      have fail : ∀ e, tak T n 1 99 a = .inl e → ∃ h' v, EX (d+4) m_Reader_readRow 25 [(0, .inr (.inr (8))), (1, .inr (.inr (A))), (2, .inl (k + 1)), (3, .inl (k))] [] (h) = some (.inl v, h') ∧ CF h' w T n e ∧ Fr (fun a k => pLw a k ∨ a = A) h h' := fun e hq => by
        obtain ⟨h1', e1, m1, f1⟩ := c_takeN (d := d) m hl (lo := 1) (hi := 99) (by omega) (by omega) hq
        have hc1 := hc.fr f1
        have es := c_soundF (d := d + 3) m1
        refine ⟨h1', k + 1, ?_, m1, f1.mo (fun a k z => Or.inl z)⟩
        simp (disch := omega) only [Reader_readRow_25, wr_id, ix_id, okx, if_pos, if_neg, Int.toNat_of_nonneg, bak_v, bak_n, wr_b01, wr_bt, b01_or, b01_0, b01_1, lc_lt0, lc_gt0, lc_eq0, wl_wr, wr_wr, wl_id, true_and, and_true, true_or, or_true, not_true_eq_false, not_false_eq_true, nc0, nc1, nc2, nc3, nc4, nc5, nc6, nc7, nc8, nc9, nc10, nc11, nc12, nc13, nc14, nc15, nc16, nc17, nc18, nc19, nc20, nc21, nc22, nc23, nc35, nc47, nc59, nc60, nc61, nc73, nc74, nc214, nc215, nc1115, nc2230, nc3345, if_true, if_false, Int.reduceToNat, hc.k8, hc.r8_0, hc.k9, k5, e1]
        simp (disch := omega) only [Reader_readRow_44, Reader_readRow_53, Reader_readRow_56, wr_id, ix_id, okx, if_pos, if_neg, Int.toNat_of_nonneg, bak_v, bak_n, wr_b01, wr_bt, b01_or, b01_0, b01_1, lc_lt0, lc_gt0, lc_eq0, wl_wr, wr_wr, wl_id, true_and, and_true, true_or, or_true, not_true_eq_false, not_false_eq_true, nc0, nc1, nc2, nc3, nc4, nc5, nc6, nc7, nc8, nc9, nc10, nc11, nc12, nc13, nc14, nc15, nc16, nc17, nc18, nc19, nc20, nc21, nc22, nc23, nc35, nc47, nc59, nc60, nc61, nc73, nc74, nc214, nc215, nc1115, nc2230, nc3345, if_true, if_false, Int.reduceToNat, hc1.k8, hc1.r8_0, hc1.k9, es]
      by_cases c11 : k = 11 ∧ tkK T n a = 21 ∧ 1 ≤ tkN T n a ∧ tkN T n a ≤ 99
      · rw [if_pos c11]
        have hq : tak T n 1 99 a = .inr (nx T n a, tkN T n a) := by unfold tak; rw [if_pos c11.2.1, if_pos c11.2.2]
        obtain ⟨h1', e1, m1, f1⟩ := c_take (d := d) m (lo := 1) (hi := 99) (by omega) (by omega) hq
        have hc1 := hc.fr f1
        have es := c_sound (d := d + 3) m1
        obtain ⟨h2, e2, m2, f2⟩ := c_failAt (d := d + 3) (p := a) (f := 4) m1 hl (by omega)
        refine ⟨h2, k + 1, ?_, m2, (f1.tr f2).mo (fun a k z => Or.inl z)⟩
        dsimp only at e1
        simp (disch := omega) only [Reader_readRow_25, wr_id, ix_id, okx, if_pos, if_neg, Int.toNat_of_nonneg, bak_v, bak_n, wr_b01, wr_bt, b01_or, b01_0, b01_1, lc_lt0, lc_gt0, lc_eq0, wl_wr, wr_wr, wl_id, true_and, and_true, true_or, or_true, not_true_eq_false, not_false_eq_true, nc0, nc1, nc2, nc3, nc4, nc5, nc6, nc7, nc8, nc9, nc10, nc11, nc12, nc13, nc14, nc15, nc16, nc17, nc18, nc19, nc20, nc21, nc22, nc23, nc35, nc47, nc59, nc60, nc61, nc73, nc74, nc214, nc215, nc1115, nc2230, nc3345, if_true, if_false, Int.reduceToNat, hc.k8, hc.r8_0, hc.k9, k5, e1]
        simp (disch := omega) only [Reader_readRow_44, Reader_readRow_53, Reader_readRow_58, Reader_readRow_64, Reader_readRow_74, wr_id, ix_id, okx, if_pos, if_neg, Int.toNat_of_nonneg, bak_v, bak_n, wr_b01, wr_bt, b01_or, b01_0, b01_1, lc_lt0, lc_gt0, lc_eq0, wl_wr, wr_wr, wl_id, true_and, and_true, true_or, or_true, not_true_eq_false, not_false_eq_true, nc0, nc1, nc2, nc3, nc4, nc5, nc6, nc7, nc8, nc9, nc10, nc11, nc12, nc13, nc14, nc15, nc16, nc17, nc18, nc19, nc20, nc21, nc22, nc23, nc35, nc47, nc59, nc60, nc61, nc73, nc74, nc214, nc215, nc1115, nc2230, nc3345, if_true, if_false, Int.reduceToNat, hc1.k8, hc1.r8_0, hc1.k9, es, e2]
      · rw [if_neg c11]
        cases hq : tak T n 1 99 a with
        | inl e =>
          obtain ⟨h', v, e1, m1, f1⟩ := fail e hq
          exact ⟨h', v, e1, m1, f1⟩
        | inr q =>
          obtain ⟨t1, t2, t3, t4, t5, t6, t7⟩ := tak_ok rg.2.1 hq
          have k10 : k ≤ 10 := by
            rcases Int.lt_or_le 10 k with z | z
            · exact absurd ⟨by omega, t5, by omega, by omega⟩ c11
            · exact z
          obtain ⟨h1', e1, m1, f1⟩ := c_take (d := d) m (lo := 1) (hi := 99) (by omega) (by omega) hq
          have hc1 := hc.fr f1
          have es := c_sound (d := d + 3) m1
          have nA : ∀ j, ¬ pLw A j := fun j => by unfold pLw; omega
          have hk := hs k.toNat (by omega)
          have hk1 : hI h1' A k.toNat = sm (fun j => S (o + j)) 0 k := by rw [f1.I (nA _), hk, Int.toNat_of_nonneg h0]
          have f2 : Fr (fun a k => pLw a k ∨ a = A) h (pI h1' A (k + 1).toNat (sm (fun j => S (o + j)) 0 k + q.2)) := Fr.pI (f1.mo (fun a k z => Or.inl z)) (Or.inr rfl)
          have m2 := m1.fu (Fr.pI (p := fun a _ => a = A) (k := (k + 1).toNat) (v := sm (fun j => S (o + j)) 0 k + q.2) Fr.rf rfl) (fun a k z => by omega)
          obtain ⟨h', v, e', r', f'⟩ := ih (k + 1) q.1 (up S (o + k) q.2) _ l (by omega) (by omega) (by omega) m2 hl (by rw [f2.K, f2.N]; exact hA2) (fun j hj => by
            rw [hI_pI]
            by_cases cj : j = (k + 1).toNat
            · rw [if_pos ⟨rfl, cj⟩, show ((j : Nat) : Int) = k + 1 by omega, sm_last h0, up_same]
              congr 1
              exact sm_congr 0 (fun z z0 z1 => by rw [up_ne (by omega)])
            · rw [if_neg (fun z => cj z.2), f1.I (nA _), hs j (by omega)]
              exact sm_congr 0 (fun z z0 z1 => by rw [up_ne (by omega)]))
          refine ⟨h', v, ?_, r', f2.tr f'⟩
          have s1 := hA2.1
          have s2 := hA2.2
          have ek : k + 1 - 1 = k := by omega
          simp (disch := omega) only [Reader_readRow_25, wr_id, ix_id, okx, if_pos, if_neg, Int.toNat_of_nonneg, bak_v, bak_n, wr_b01, wr_bt, b01_or, b01_0, b01_1, lc_lt0, lc_gt0, lc_eq0, wl_wr, wr_wr, wl_id, true_and, and_true, true_or, or_true, not_true_eq_false, not_false_eq_true, nc0, nc1, nc2, nc3, nc4, nc5, nc6, nc7, nc8, nc9, nc10, nc11, nc12, nc13, nc14, nc15, nc16, nc17, nc18, nc19, nc20, nc21, nc22, nc23, nc35, nc47, nc59, nc60, nc61, nc73, nc74, nc214, nc215, nc1115, nc2230, nc3345, if_true, if_false, Int.reduceToNat, hc.k8, hc.r8_0, hc.k9, k5, e1]
          simp (disch := omega) only [Reader_readRow_44, Reader_readRow_53, Reader_readRow_58, Reader_readRow_76, Reader_readRow_87, wr_id, ix_id, okx, if_pos, if_neg, Int.toNat_of_nonneg, bak_v, bak_n, wr_b01, wr_bt, b01_or, b01_0, b01_1, lc_lt0, lc_gt0, lc_eq0, wl_wr, wr_wr, wl_id, true_and, and_true, true_or, or_true, not_true_eq_false, not_false_eq_true, nc0, nc1, nc2, nc3, nc4, nc5, nc6, nc7, nc8, nc9, nc10, nc11, nc12, nc13, nc14, nc15, nc16, nc17, nc18, nc19, nc20, nc21, nc22, nc23, nc35, nc47, nc59, nc60, nc61, nc73, nc74, nc214, nc215, nc1115, nc2230, nc3345, if_true, if_false, Int.reduceToNat, hc1.k8, hc1.r8_0, hc1.k9, es, f1.K, f1.N, s1, s2, ek, hk1]
          exact e'
    · rw [if_neg cg]
      have kk : ¬ kc (tkK T n a) = 2 := fun z => cg (Or.inr (ki.mp z))
      refine ⟨h, k + 1, ?_, ⟨by show k + 1 = 1 + k; omega, m, hs⟩, Fr.rf⟩
      rw [Reader_readRow_4]
      simp (disch := omega) only [Reader_readRow_10, Reader_readRow_14, Reader_readRow_96, wr_id, ix_id, okx, if_pos, if_neg, Int.toNat_of_nonneg, bak_v, bak_n, wr_b01, wr_bt, b01_or, b01_0, b01_1, lc_lt0, lc_gt0, lc_eq0, wl_wr, wr_wr, wl_id, true_and, and_true, true_or, or_true, not_true_eq_false, not_false_eq_true, nc0, nc1, nc2, nc3, nc4, nc5, nc6, nc7, nc8, nc9, nc10, nc11, nc12, nc13, nc14, nc15, nc16, nc17, nc18, nc19, nc20, nc21, nc22, nc23, nc35, nc47, nc59, nc60, nc61, nc73, nc74, nc214, nc215, nc1115, nc2230, nc3345, if_true, if_false, Int.reduceToNat, hc.k8, hc.r8_0, hc.k9, k3]
theorem c_row {d w A : Nat} {T : Int → Int} {n o a : Int} {S : Int → Int} {h : Hp} {l : List Int} (hA : 14 ≤ A) (m : CP h w T n a l) (hl : l.length ≤ 900) (hA2 : sK h A = 20 ∧ sN h A = 12) (h0 : hI h A 0 = 0) : ∃ h' v, cal (d+5) m_Reader_readRow [.inr (.inr (8)), .inr (.inr (A))] (h) = some (.inl v, h') ∧ (match rwP T n o 13 0 a S with | .inl e => CF h' w T n e | .inr q => v = 1 + q.2.1 ∧ CP h' w T n q.1 l ∧ (∀ j : Nat, (j : Int) ≤ q.2.1 → hI h' A j = sm (fun j => q.2.2 (o + j)) 0 j)) ∧ Fr (fun a k => pLw a k ∨ a = A) h h' := by
  obtain ⟨h', v, e, r⟩ := c_row_l (d := d) (o := o) hA 13 0 a S h l (by omega) (by omega) (by omega) m hl hA2 (fun j hj => by
    rw [show j = 0 by omega, h0]
    exact (sm_stop (by omega)).symm)
  refine ⟨h', v, ?_, r⟩
  show EX (d+4) m_Reader_readRow 0 [(0, .inr (.inr (8))), (1, .inr (.inr (A)))] [] (h) = _
  rw [Reader_readRow_0]
  exact e
