/-! the class: attach, detach, takeFrom, History -/
theorem c_workAt {d a w : Nat} {h : Hp} {S : Int → Int} (wv : WV h w S) (ha : HangAt h a) (g : GdW S) (hc : hI h a 1 = S 59) (hs : hI h a 2 = S 60) (h59 : 0 ≤ S 59 ∧ S 59 ≤ 11) {r : Int} (hr : 0 ≤ r ∧ r ≤ 11) (hd : a < w ∨ w + 5 < a) : cal (d+3) m_Hanging_workAt [.inr (.inr (a)), .inr (.inr (w)), .inl (r)] (h) = some (.inl (scA S (S 59) r), pI (pI h a 1 (chF S (S 59) r)) a 2 (S 60 + scA S (S 59) r)) := by
  have hw := wv.1
  show EX (d+2) m_Hanging_workAt 0 [(0, .inr (.inr (a))), (1, .inr (.inr (w))), (2, .inl (r))] [] (h) = _
  simp (disch := omega) only [Hanging_workAt_0, Hanging_workAt_9, Hanging_workAt_20, Hanging_workAt_23, Hanging_workAt_33, wr_id, ix_id, okx, if_pos, if_neg, Int.toNat_of_nonneg, bak_v, bak_n, wr_b01, wr_bt, b01_or, b01_0, b01_1, lc_lt0, lc_gt0, lc_eq0, wl_wr, wr_wr, wl_id, true_and, and_true, true_or, or_true, not_true_eq_false, not_false_eq_true, nc0, nc1, nc2, nc3, nc4, nc5, nc6, nc7, nc8, nc9, nc10, nc11, nc12, nc13, nc14, nc15, nc16, nc17, nc18, nc19, nc20, nc21, nc22, nc23, nc35, nc47, nc59, nc60, nc61, nc73, nc74, nc214, nc215, nc1115, nc2230, nc3345, if_true, if_false, Int.reduceToNat, ha.k, ha.r, ha.k1, ha.n1, hw.k, hw.r0, hw.r1, hw.r2, hw.r3, hw.r4, hw.k1, hw.k2, hw.k3, hw.k4, hw.k5, hw.n1, hw.n2, hw.n3, hw.n4, hw.n5, hc, hs, c_secondsAt wv g, c_chairFor wv g, sK_pI, hI_pI]
theorem HV.mk3 {h : Hp} {a : Nat} {S : Int → Int} (hv : HV h a S) {S' : Int → Int} {c s v : Int} {x : Int} (hx : 0 ≤ x ∧ x < 12) (e59 : S' 59 = c) (e60 : S' 60 = s) (ex : S' (61 + x) = v) (eo : ∀ k, 61 ≤ k → k < 73 → ¬ k = 61 + x → S' k = S k) : HV (pI (pI (pI h (a + 1) x.toNat v) a 1 c) a 2 s) a S' := by
  obtain ⟨v1, v2, v3, v4⟩ := hv
  refine ⟨v1, ?_, ?_, fun k hk => ?_⟩
  · simp [hI_pI, e59]
  · simp [hI_pI, e60]
  · simp only [hI_pI, show ¬ (a + 1 = a ∧ k = 2) by omega, show ¬ (a + 1 = a ∧ k = 1) by omega, if_false, true_and]
    by_cases c : k = x.toNat
    · rw [if_pos c, show (61 : Int) + (k : Int) = 61 + x by omega, ex]
    · rw [if_neg c, v4 k hk, eo _ (by omega) (by omega) (by omega)]
theorem Fr3 {h : Hp} {a k : Nat} {v c s : Int} : Fr (fun b _ => b = a ∨ b = a + 1) h (pI (pI (pI h (a + 1) k v) a 1 c) a 2 s) := Fr.pI (Fr.pI (Fr.pI Fr.rf (Or.inr rfl)) (Or.inl rfl)) (Or.inl rfl)
theorem c_attach {d a w : Nat} {h : Hp} {S : Int → Int} (wv : WV h w S) (hv : HV h a S) (g : Gd S) (hd : a + 1 < w ∨ w + 5 < a) {x y : Int} (hx : 0 ≤ x ∧ x < 12) (hy : 0 ≤ y ∧ y ≤ 11) : ∃ h', cal (d+4) m_Hanging_attach [.inr (.inr (a)), .inr (.inr (w)), .inl (x), .inl (y)] (h) = some (.inl (scA S (S 59) y), h') ∧ HV h' a (joinS S x y) ∧ Fr (fun b _ => b = a ∨ b = a + 1) h h' := by
  have ha := hv.1
  have g59 := g.2.1
  have wv1 : WV (pI h (a + 1) x.toNat y) w S := wv.fr (p := fun b _ => b = a + 1) (Fr.pI Fr.rf rfl) (fun c k q1 q2 => by omega)
  have ha1 : HangAt (pI h (a + 1) x.toNat y) a := ha
  refine ⟨_, ?_, HV.mk3 hv hx (c := chF S (S 59) y) (s := S 60 + scA S (S 59) y) (v := y) ?_ ?_ ?_ ?_, Fr3⟩
  · show EX (d+3) m_Hanging_attach 0 [(0, .inr (.inr (a))), (1, .inr (.inr (w))), (2, .inl (x)), (3, .inl (y))] [] (h) = _
    have e := c_workAt (d := d) wv1 ha1 g.1 (by rw [hI_pI, if_neg (by omega)]; exact hv.f1) (by rw [hI_pI, if_neg (by omega)]; exact hv.f2) (by omega) hy (by omega)
    simp (disch := omega) only [Hanging_attach_0, Hanging_attach_7, Hanging_attach_13, wr_id, ix_id, okx, if_pos, if_neg, Int.toNat_of_nonneg, bak_v, bak_n, wr_b01, wr_bt, b01_or, b01_0, b01_1, lc_lt0, lc_gt0, lc_eq0, wl_wr, wr_wr, wl_id, true_and, and_true, true_or, or_true, not_true_eq_false, not_false_eq_true, nc0, nc1, nc2, nc3, nc4, nc5, nc6, nc7, nc8, nc9, nc10, nc11, nc12, nc13, nc14, nc15, nc16, nc17, nc18, nc19, nc20, nc21, nc22, nc23, nc35, nc47, nc59, nc60, nc61, nc73, nc74, nc214, nc215, nc1115, nc2230, nc3345, if_true, if_false, Int.reduceToNat, ha.k, ha.r, ha.k1, ha.n1, sK_pI, e]
  · unfold joinS; rw [up_ne (by omega), goS_59]
  · unfold joinS; rw [up_ne (by omega), goS_60]
  · unfold joinS; rw [up_same]
  · intro k h1 h2 h3; unfold joinS; rw [up_ne h3, goS_o h1]
theorem c_detach {d a w : Nat} {h : Hp} {S : Int → Int} (wv : WV h w S) (hv : HV h a S) (g : Gd S) (hd : a + 1 < w ∨ w + 5 < a) {x : Int} (hx : 0 ≤ x ∧ x < 12) (hj : ¬ S (61 + x) = -1) : ∃ h', cal (d+4) m_Hanging_detach [.inr (.inr (a)), .inr (.inr (w)), .inl (x)] (h) = some (.inl (scA S (S 59) (S (61 + x))), h') ∧ HV h' a (offS S x) ∧ Fr (fun b _ => b = a ∨ b = a + 1) h h' := by
  have ha := hv.1
  have g59 := g.2.1
  have gb := g.b
  have gr := g.rg hx.1 hx.2
  have wv1 : WV (pI h (a + 1) x.toNat (-1)) w S := wv.fr (p := fun b _ => b = a + 1) (Fr.pI Fr.rf rfl) (fun c k q1 q2 => by omega)
  have ha1 : HangAt (pI h (a + 1) x.toNat (-1)) a := ha
  refine ⟨_, ?_, HV.mk3 hv hx (c := chF S (S 59) (S (61 + x))) (s := S 60 + scA S (S 59) (S (61 + x))) (v := -1) ?_ ?_ ?_ ?_, Fr3⟩
  · show EX (d+3) m_Hanging_detach 0 [(0, .inr (.inr (a))), (1, .inr (.inr (w))), (2, .inl (x))] [] (h) = _
    have e := c_workAt (d := d) wv1 ha1 g.1 (r := S (61 + x)) (by rw [hI_pI, if_neg (by omega)]; exact hv.f1) (by rw [hI_pI, if_neg (by omega)]; exact hv.f2) (by omega) (by omega) (by omega)
    simp (disch := omega) only [Hanging_detach_0, Hanging_detach_14, Hanging_detach_20, wr_id, ix_id, okx, if_pos, if_neg, Int.toNat_of_nonneg, bak_v, bak_n, wr_b01, wr_bt, b01_or, b01_0, b01_1, lc_lt0, lc_gt0, lc_eq0, wl_wr, wr_wr, wl_id, true_and, and_true, true_or, or_true, not_true_eq_false, not_false_eq_true, nc0, nc1, nc2, nc3, nc4, nc5, nc6, nc7, nc8, nc9, nc10, nc11, nc12, nc13, nc14, nc15, nc16, nc17, nc18, nc19, nc20, nc21, nc22, nc23, nc35, nc47, nc59, nc60, nc61, nc73, nc74, nc214, nc215, nc1115, nc2230, nc3345, if_true, if_false, Int.reduceToNat, ha.k, ha.r, ha.k1, ha.n1, hv.f1, hv.f2, hv.rk, sK_pI, e]
  · unfold offS; rw [up_ne (by omega), goS_59]
  · unfold offS; rw [up_ne (by omega), goS_60]
  · unfold offS; rw [up_same]
  · intro k h1 h2 h3; unfold offS; rw [up_ne h3, goS_o h1]
/-! copies -/
theorem hI_cpI (h : Hp) (src sp dst dp n b j : Nat) : hI (cpI h src sp dst dp n) b j = if b = dst ∧ dp ≤ j ∧ j < dp + n then hI h src (sp + (j - dp)) else hI h b j := rfl
theorem Fr.cpI {p : Nat → Nat → Prop} {h h' : Hp} (f : Fr p h h') {src sp dst dp n : Nat} (ha : ∀ k, dp ≤ k → k < dp + n → p dst k) : Fr p h (cpI h' src sp dst dp n) := f.tr ⟨rfl, fun b j hb => by rw [hI_cpI, if_neg (fun c : b = dst ∧ dp ≤ j ∧ j < dp + n => hb (by rw [c.1]; exact ha j c.2.1 c.2.2))], fun _ _ _ => rfl, fun _ _ => rfl⟩
theorem sK_cpI (h : Hp) (src sp dst dp n b : Nat) : sK (cpI h src sp dst dp n) b = sK h b := rfl
theorem sN_cpI (h : Hp) (src sp dst dp n b : Nat) : sN (cpI h src sp dst dp n) b = sN h b := rfl
theorem hR_cpI (h : Hp) (src sp dst dp n b j : Nat) : hR (cpI h src sp dst dp n) b j = hR h b j := rfl
theorem c_takeFrom {d a b : Nat} {h : Hp} {S : Int → Int} (ha : HangAt h a) (hv : HV h b S) (hd : a + 1 < b ∨ b + 1 < a) : ∃ h', cal (d+1) m_Hanging_takeFrom [.inr (.inr (a)), .inr (.inr (b))] (h) = some (.inl 0, h') ∧ HV h' a S ∧ Fr (fun c _ => c = a ∨ c = a + 1) h h' := by
  have hb := hv.1
  refine ⟨pI (pI (cpI h (b + 1) 0 (a + 1) 0 12) a 1 (S 59)) a 2 (S 60), ?_, ?_, ?_⟩
  · show EX (d) m_Hanging_takeFrom 0 [(0, .inr (.inr (a))), (1, .inr (.inr (b)))] [] (h) = _
    simp (disch := omega) only [Hanging_takeFrom_0, Hanging_takeFrom_15, Hanging_takeFrom_23, Hanging_takeFrom_31, wr_id, ix_id, okx, if_pos, if_neg, Int.toNat_of_nonneg, bak_v, bak_n, wr_b01, wr_bt, b01_or, b01_0, b01_1, lc_lt0, lc_gt0, lc_eq0, wl_wr, wr_wr, wl_id, true_and, and_true, true_or, or_true, not_true_eq_false, not_false_eq_true, nc0, nc1, nc2, nc3, nc4, nc5, nc6, nc7, nc8, nc9, nc10, nc11, nc12, nc13, nc14, nc15, nc16, nc17, nc18, nc19, nc20, nc21, nc22, nc23, nc35, nc47, nc59, nc60, nc61, nc73, nc74, nc214, nc215, nc1115, nc2230, nc3345, if_true, if_false, Int.reduceToNat, ha.k, ha.r, ha.k1, ha.n1, hb.k, hb.r, hb.k1, hb.n1, sK_pI, sK_cpI, hI_pI, hI_cpI, hR_cpI]
    simp (disch := omega) only [hv.f1, hv.f2, if_neg]
  · refine ⟨ha, ?_, ?_, fun k hk => ?_⟩
    · simp [hI_pI]
    · simp [hI_pI]
    · simp only [hI_pI, hI_cpI, show ¬ (a + 1 = a ∧ k = 2) by omega, show ¬ (a + 1 = a ∧ k = 1) by omega, if_false]
      rw [if_pos (show True ∧ 0 ≤ k ∧ k < 0 + 12 from ⟨trivial, by omega, by omega⟩), show 0 + (k - 0) = k by omega]
      exact hv.rk k hk
  · exact Fr.pI (Fr.pI (Fr.cpI Fr.rf (fun k _ _ => Or.inr rfl)) (Or.inl rfl)) (Or.inl rfl)
/-! History: the latest hangings in a ring of ten -/
def HisAt (h : Hp) : Prop := sK h 30 = 1 ∧ hR h 30 0 = 31 ∧ sK h 31 = 20 ∧ sN h 31 = 140
/-- its records are the row's: place j of the row's list at (next - held + j) mod 10 -/
def HisV (h : Hp) (S : Int → Int) : Prop := HisAt h ∧ hI h 30 2 = S 73 ∧ (0 ≤ S 73 ∧ S 73 ≤ 10) ∧ (0 ≤ hI h 30 1 ∧ hI h 30 1 < 10) ∧ ∀ j, 0 ≤ j → j < S 73 → (∀ k : Nat, k < 12 → hI h 31 (14 * ((hI h 30 1 - S 73 + j) % 10) + k).toNat = S (76 + 14 * j + k)) ∧ hI h 31 (14 * ((hI h 30 1 - S 73 + j) % 10) + 12).toNat = S (74 + 14 * j) ∧ hI h 31 (14 * ((hI h 30 1 - S 73 + j) % 10) + 13).toNat = S (75 + 14 * j)
/-- the row with what W holds (chair, seconds, rings) noted as the latest -/
def ntS (W S : Int → Int) : Int → Int := fun k =>
  if S 73 = 10 then (if k = 73 then 10 else if 74 ≤ k ∧ k < 200 then S (k + 14) else if 200 ≤ k ∧ k < 214 then W (59 + (k - 200)) else S k)
  else (if k = 73 then S 73 + 1 else if 74 + 14 * S 73 ≤ k ∧ k < 88 + 14 * S 73 then W (59 + (k - 74 - 14 * S 73)) else S k)
