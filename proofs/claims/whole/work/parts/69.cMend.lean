/-! the class: Mender -/
def jA (S : Int → Int) (i : Int) : Int := sm (fun k => b01 (¬ S (61 + k) = -1)) 0 i
theorem jA_s {S : Int → Int} {i : Int} (h : 0 ≤ i) : jA S (i + 1) = jA S i + b01 (¬ S (61 + i) = -1) := sm_last h
theorem jA_rng (S : Int → Int) {i : Int} (h : 0 ≤ i ∧ i ≤ 12) : 0 ≤ jA S i ∧ jA S i ≤ 12 := by
  have := sm_rng (f := fun k => b01 (¬ S (61 + k) = -1)) (N := i) (lo := 0) (hi := 1) (by omega) (by omega) 0 (fun j _ _ => by unfold b01; split <;> omega)
  unfold jA
  omega
theorem jA_N (S : Int → Int) : jA S (S 1) = jnM S := rfl
/-- what the mender works over -/
def ME (h : Hp) (w : Nat) (S : Int → Int) : Prop := CR h w ∧ WV h w S ∧ RV h w S ∧ HV h 26 S
theorem ME.fr {h h' : Hp} {w : Nat} {S : Int → Int} (m : ME h w S) {p : Nat → Nat → Prop} (f : Fr p h h') (hp : ∀ a k, p a k → 60 ≤ a) : ME h' w S := by
  have wd := m.1.wd
  exact ⟨m.1.fr f, m.2.1.fr f (fun c k q1 q2 q3 => by have := hp c k q3; omega), m.2.2.1.fr f (fun k q3 => by have := hp _ k q3; omega), m.2.2.2.fr f (fun k q3 => by have := hp _ k q3; omega) (fun k q3 => by have := hp _ k q3; omega)⟩
def JAv (h : Hp) (S : Int → Int) : Prop := ∀ i, 0 ≤ i → i ≤ S 1 → hI h 67 i.toNat = jA S i
def wV (h : Hp) (S : Int → Int) (x r : Int) : Prop := hI h 66 (x * 12 + r).toNat = AR S x r - (jnM S - jA S (x + 1))
def csR (S : Int → Int) (g s : Int) : Bool := decide (bt (S 10) s = 0 ∧ lawV S g s = 1)
theorem c_canStand {d w : Nat} {h : Hp} {S : Int → Int} (me : ME h w S) (gd : Gd S) {g s : Int} (hg : 0 ≤ g ∧ g < S 1) (hs : 0 ≤ s ∧ s < S 2) : cal (d+3) m_Mender_canStand [.inr (.inr (w)), .inl (g), .inl (s)] (h) = some (.inl (b01 (csR S g s = true)), h) := by
  have ga := gd.a
  have gb := gd.b
  have wv := me.2.1
  have hw := wv.1
  show EX (d+2) m_Mender_canStand 0 [(0, .inr (.inr (w))), (1, .inl (g)), (2, .inl (s))] [] (h) = _
  unfold csR b01
  rcases bt_01 (S 10) s with c | c
  · have e := c_isRight (d := d) wv me.2.2.1 gd (x := g) (y := s) (by omega) (by omega)
    by_cases cl : lawV S g s = 1
    · simp (disch := omega) only [Mender_canStand_0, Mender_canStand_5, Mender_canStand_8, Mender_canStand_14, Mender_canStand_17, Mender_canStand_21, Mender_canStand_22, wr_id, ix_id, okx, if_pos, if_neg, Int.toNat_of_nonneg, bak_v, bak_n, wr_b01, wr_bt, b01_or, b01_0, b01_1, lc_lt0, lc_gt0, lc_eq0, wl_wr, wr_wr, wl_id, true_and, and_true, true_or, or_true, not_true_eq_false, not_false_eq_true, nc0, nc1, nc2, nc3, nc4, nc5, nc6, nc7, nc8, nc9, nc10, nc11, nc12, nc13, nc14, nc15, nc16, nc17, nc18, nc19, nc20, nc21, nc22, nc23, nc35, nc47, nc59, nc60, nc61, nc73, nc74, nc214, nc215, nc1115, nc2230, nc3345, if_true, if_false, Int.reduceToNat, hw.k, hw.r0, hw.r1, hw.r2, hw.r3, hw.r4, hw.k1, hw.k2, hw.k3, hw.k4, hw.k5, hw.n1, hw.n2, hw.n3, hw.n4, hw.n5, c_isBroken wv, c, e]
      simp [cl]
    · simp (disch := omega) only [Mender_canStand_0, Mender_canStand_5, Mender_canStand_8, Mender_canStand_14, Mender_canStand_17, Mender_canStand_21, Mender_canStand_22, wr_id, ix_id, okx, if_pos, if_neg, Int.toNat_of_nonneg, bak_v, bak_n, wr_b01, wr_bt, b01_or, b01_0, b01_1, lc_lt0, lc_gt0, lc_eq0, wl_wr, wr_wr, wl_id, true_and, and_true, true_or, or_true, not_true_eq_false, not_false_eq_true, nc0, nc1, nc2, nc3, nc4, nc5, nc6, nc7, nc8, nc9, nc10, nc11, nc12, nc13, nc14, nc15, nc16, nc17, nc18, nc19, nc20, nc21, nc22, nc23, nc35, nc47, nc59, nc60, nc61, nc73, nc74, nc214, nc215, nc1115, nc2230, nc3345, if_true, if_false, Int.reduceToNat, hw.k, hw.r0, hw.r1, hw.r2, hw.r3, hw.r4, hw.k1, hw.k2, hw.k3, hw.k4, hw.k5, hw.n1, hw.n2, hw.n3, hw.n4, hw.n5, c_isBroken wv, c, e]
      simp [cl]
  · simp (disch := omega) only [Mender_canStand_0, Mender_canStand_5, Mender_canStand_8, Mender_canStand_14, Mender_canStand_17, Mender_canStand_21, Mender_canStand_22, wr_id, ix_id, okx, if_pos, if_neg, Int.toNat_of_nonneg, bak_v, bak_n, wr_b01, wr_bt, b01_or, b01_0, b01_1, lc_lt0, lc_gt0, lc_eq0, wl_wr, wr_wr, wl_id, true_and, and_true, true_or, or_true, not_true_eq_false, not_false_eq_true, nc0, nc1, nc2, nc3, nc4, nc5, nc6, nc7, nc8, nc9, nc10, nc11, nc12, nc13, nc14, nc15, nc16, nc17, nc18, nc19, nc20, nc21, nc22, nc23, nc35, nc47, nc59, nc60, nc61, nc73, nc74, nc214, nc215, nc1115, nc2230, nc3345, if_true, if_false, Int.reduceToNat, hw.k, hw.r0, hw.r1, hw.r2, hw.r3, hw.r4, hw.k1, hw.k2, hw.k3, hw.k4, hw.k5, hw.n1, hw.n2, hw.n3, hw.n4, hw.n5, c_isBroken wv, c]
    simp
theorem okR_cs {S : Int → Int} (x r g s : Int) : (okR S x r g s = true) = (csR S g s = true ∧ (x = -1 ∨ 0 ≤ sagM S x r g s)) := by
  unfold okR csR Fpl
  simp
  constructor
  · rintro ⟨⟨a, b⟩, c⟩; exact ⟨⟨a, c⟩, b⟩
  · rintro ⟨⟨a, c⟩, b⟩; exact ⟨⟨a, b⟩, c⟩
theorem c_canCome {d w : Nat} {h : Hp} {S : Int → Int} (me : ME h w S) (gd : Gd S) {x r g s : Int} (hx : -1 ≤ x ∧ x < g ∧ g < S 1) (hr : -1 ≤ r ∧ r < s ∧ s < S 2) (hxr : x = -1 ↔ r = -1) : cal (d+4) m_Mender_canCome [.inr (.inr (w)), .inl (x), .inl (r), .inl (g), .inl (s)] (h) = some (.inl (b01 (okR S x r g s = true)), h) := by
  have wv := me.2.1
  have hw := wv.1
  have e1 := c_canStand (d := d) me gd (g := g) (s := s) (by omega) (by omega)
  have e2 := c_canFollow (d := d + 1) wv gd hx hr hxr
  show EX (d+3) m_Mender_canCome 0 [(0, .inr (.inr (w))), (1, .inl (x)), (2, .inl (r)), (3, .inl (g)), (4, .inl (s))] [] (h) = _
  have e3 := okR_cs (S := S) x r g s
  unfold b01
  by_cases c1 : csR S g s = true
  · by_cases c2 : x = -1 ∨ 0 ≤ sagM S x r g s
    · rw [if_pos (by rw [e3]; exact ⟨c1, c2⟩)]
      simp (disch := omega) only [Mender_canCome_0, Mender_canCome_7, Mender_canCome_10, Mender_canCome_19, Mender_canCome_22, Mender_canCome_26, Mender_canCome_27, wr_id, ix_id, okx, if_pos, if_neg, Int.toNat_of_nonneg, bak_v, bak_n, wr_b01, wr_bt, b01_or, b01_0, b01_1, lc_lt0, lc_gt0, lc_eq0, wl_wr, wr_wr, wl_id, true_and, and_true, true_or, or_true, not_true_eq_false, not_false_eq_true, nc0, nc1, nc2, nc3, nc4, nc5, nc6, nc7, nc8, nc9, nc10, nc11, nc12, nc13, nc14, nc15, nc16, nc17, nc18, nc19, nc20, nc21, nc22, nc23, nc35, nc47, nc59, nc60, nc61, nc73, nc74, nc214, nc215, nc1115, nc2230, nc3345, if_true, if_false, Int.reduceToNat, hw.k, hw.r0, hw.r1, hw.r2, hw.r3, hw.r4, hw.k1, hw.k2, hw.k3, hw.k4, hw.k5, hw.n1, hw.n2, hw.n3, hw.n4, hw.n5, e1, e2, c1, c2]
    · rw [if_neg (by rw [e3]; exact fun q => c2 q.2)]
      simp (disch := omega) only [Mender_canCome_0, Mender_canCome_7, Mender_canCome_10, Mender_canCome_19, Mender_canCome_22, Mender_canCome_26, Mender_canCome_27, wr_id, ix_id, okx, if_pos, if_neg, Int.toNat_of_nonneg, bak_v, bak_n, wr_b01, wr_bt, b01_or, b01_0, b01_1, lc_lt0, lc_gt0, lc_eq0, wl_wr, wr_wr, wl_id, true_and, and_true, true_or, or_true, not_true_eq_false, not_false_eq_true, nc0, nc1, nc2, nc3, nc4, nc5, nc6, nc7, nc8, nc9, nc10, nc11, nc12, nc13, nc14, nc15, nc16, nc17, nc18, nc19, nc20, nc21, nc22, nc23, nc35, nc47, nc59, nc60, nc61, nc73, nc74, nc214, nc215, nc1115, nc2230, nc3345, if_true, if_false, Int.reduceToNat, hw.k, hw.r0, hw.r1, hw.r2, hw.r3, hw.r4, hw.k1, hw.k2, hw.k3, hw.k4, hw.k5, hw.n1, hw.n2, hw.n3, hw.n4, hw.n5, e1, e2, c1, c2]
  · rw [if_neg (by rw [e3]; exact fun q => c1 q.1)]
    have c1' : csR S g s = false := by simpa using c1
    rw [c1'] at e1
    simp (disch := omega) only [Mender_canCome_0, Mender_canCome_7, Mender_canCome_10, Mender_canCome_19, Mender_canCome_22, Mender_canCome_26, Mender_canCome_27, wr_id, ix_id, okx, if_pos, if_neg, Int.toNat_of_nonneg, bak_v, bak_n, wr_b01, wr_bt, b01_or, b01_0, b01_1, lc_lt0, lc_gt0, lc_eq0, wl_wr, wr_wr, wl_id, true_and, and_true, true_or, or_true, not_true_eq_false, not_false_eq_true, nc0, nc1, nc2, nc3, nc4, nc5, nc6, nc7, nc8, nc9, nc10, nc11, nc12, nc13, nc14, nc15, nc16, nc17, nc18, nc19, nc20, nc21, nc22, nc23, nc35, nc47, nc59, nc60, nc61, nc73, nc74, nc214, nc215, nc1115, nc2230, nc3345, if_true, if_false, Int.reduceToNat, hw.k, hw.r0, hw.r1, hw.r2, hw.r3, hw.r4, hw.k1, hw.k2, hw.k3, hw.k4, hw.k5, hw.n1, hw.n2, hw.n3, hw.n4, hw.n5, e1]
    simp
theorem c_worthOf {d w : Nat} {h : Hp} {S : Int → Int} (me : ME h w S) (gd : Gd S) {g s : Int} (hg : 0 ≤ g ∧ g < S 1) (hs : 0 ≤ s ∧ s < S 2) (hw : wV h S g s) : cal (d+2) m_Mender_worthOf [.inr (.inr (64)), .inr (.inr (26)), .inl (g), .inl (s)] (h) = some (.inl (kbR S g s + AR S g s - (jnM S - jA S g)), h) := by
  have ga := gd.a
  have gb := gd.b
  have hc := me.1
  have hv := me.2.2.2
  have ha := hv.1
  have gr := gd.rg hg.1 (by omega)
  have js := jA_s (S := S) hg.1
  unfold wV at hw
  show EX (d+1) m_Mender_worthOf 0 [(0, .inr (.inr (64))), (1, .inr (.inr (26))), (2, .inl (g)), (3, .inl (s))] [] (h) = _
  unfold kbR b01
  unfold b01 at js
  by_cases c1 : S (61 + g) = -1
  · rw [if_neg (by omega)] at js
    rw [if_neg (by omega)]
    simp (disch := omega) only [Mender_worthOf_0, Mender_worthOf_5, Mender_worthOf_8, Mender_worthOf_18, Mender_worthOf_22, Mender_worthOf_23, Mender_worthOf_44, Mender_worthOf_48, Mender_worthOf_49, wr_id, ix_id, okx, if_pos, if_neg, Int.toNat_of_nonneg, bak_v, bak_n, wr_b01, wr_bt, b01_or, b01_0, b01_1, lc_lt0, lc_gt0, lc_eq0, wl_wr, wr_wr, wl_id, true_and, and_true, true_or, or_true, not_true_eq_false, not_false_eq_true, nc0, nc1, nc2, nc3, nc4, nc5, nc6, nc7, nc8, nc9, nc10, nc11, nc12, nc13, nc14, nc15, nc16, nc17, nc18, nc19, nc20, nc21, nc22, nc23, nc35, nc47, nc59, nc60, nc61, nc73, nc74, nc214, nc215, nc1115, nc2230, nc3345, if_true, if_false, Int.reduceToNat, ha.k, ha.r, ha.k1, ha.n1, hc.k6, hc.r5, hc.r6, hc.r0, hc.r2, hc.r7, hc.r8, hc.r9, hc.r10, hc.r11, hc.r12, hc.r13, hc.r14, hc.r15, hc.r16, hc.r17, hc.r18, hc.r8_0, hc.r8_1, hc.r11_0, hc.r11_1, hc.r60_0, hc.r60_1, hc.r60_4, hc.r64_0, hc.r64_3, hc.r64_4, hc.r68_0, hc.r41_0, hc.r41_1, hc.r42_0, hc.r42_1, hc.k7, hc.k8, hc.k9, hc.k11, hc.k12, hc.k13, hc.k32, hc.k41, hc.k42, hc.k43, hc.k60, hc.k61, hc.k62, hc.k63, hc.k64, hc.k65, hc.k66, hc.k67, hc.k68, hc.k69, hc.k70, hc.k71, hc.n6, hc.n7, hc.n8, hc.n9, hc.n11, hc.n12, hc.n13, hc.n32, hc.n41, hc.n42, hc.n43, hc.n60, hc.n61, hc.n62, hc.n63, hc.n64, hc.n65, hc.n66, hc.n67, hc.n68, hc.n69, hc.n70, hc.n71, hv.f1, hv.f2, hv.rk, c_isJoined' hv gd, hw]
    rw [js]
    congr 2
    congr 1
    omega
  · rw [if_pos c1] at js
    by_cases c2 : S (61 + g) = s
    · rw [if_pos c2]
      simp (disch := omega) only [Mender_worthOf_0, Mender_worthOf_5, Mender_worthOf_8, Mender_worthOf_18, Mender_worthOf_22, Mender_worthOf_23, Mender_worthOf_44, Mender_worthOf_48, Mender_worthOf_49, wr_id, ix_id, okx, if_pos, if_neg, Int.toNat_of_nonneg, bak_v, bak_n, wr_b01, wr_bt, b01_or, b01_0, b01_1, lc_lt0, lc_gt0, lc_eq0, wl_wr, wr_wr, wl_id, true_and, and_true, true_or, or_true, not_true_eq_false, not_false_eq_true, nc0, nc1, nc2, nc3, nc4, nc5, nc6, nc7, nc8, nc9, nc10, nc11, nc12, nc13, nc14, nc15, nc16, nc17, nc18, nc19, nc20, nc21, nc22, nc23, nc35, nc47, nc59, nc60, nc61, nc73, nc74, nc214, nc215, nc1115, nc2230, nc3345, if_true, if_false, Int.reduceToNat, ha.k, ha.r, ha.k1, ha.n1, hc.k6, hc.r5, hc.r6, hc.r0, hc.r2, hc.r7, hc.r8, hc.r9, hc.r10, hc.r11, hc.r12, hc.r13, hc.r14, hc.r15, hc.r16, hc.r17, hc.r18, hc.r8_0, hc.r8_1, hc.r11_0, hc.r11_1, hc.r60_0, hc.r60_1, hc.r60_4, hc.r64_0, hc.r64_3, hc.r64_4, hc.r68_0, hc.r41_0, hc.r41_1, hc.r42_0, hc.r42_1, hc.k7, hc.k8, hc.k9, hc.k11, hc.k12, hc.k13, hc.k32, hc.k41, hc.k42, hc.k43, hc.k60, hc.k61, hc.k62, hc.k63, hc.k64, hc.k65, hc.k66, hc.k67, hc.k68, hc.k69, hc.k70, hc.k71, hc.n6, hc.n7, hc.n8, hc.n9, hc.n11, hc.n12, hc.n13, hc.n32, hc.n41, hc.n42, hc.n43, hc.n60, hc.n61, hc.n62, hc.n63, hc.n64, hc.n65, hc.n66, hc.n67, hc.n68, hc.n69, hc.n70, hc.n71, hv.f1, hv.f2, hv.rk, c_isJoined' hv gd, hw]
      rw [js]
      congr 2
      congr 1
      omega
    · rw [if_neg c2]
      simp (disch := omega) only [Mender_worthOf_0, Mender_worthOf_5, Mender_worthOf_8, Mender_worthOf_18, Mender_worthOf_22, Mender_worthOf_23, Mender_worthOf_44, Mender_worthOf_48, Mender_worthOf_49, wr_id, ix_id, okx, if_pos, if_neg, Int.toNat_of_nonneg, bak_v, bak_n, wr_b01, wr_bt, b01_or, b01_0, b01_1, lc_lt0, lc_gt0, lc_eq0, wl_wr, wr_wr, wl_id, true_and, and_true, true_or, or_true, not_true_eq_false, not_false_eq_true, nc0, nc1, nc2, nc3, nc4, nc5, nc6, nc7, nc8, nc9, nc10, nc11, nc12, nc13, nc14, nc15, nc16, nc17, nc18, nc19, nc20, nc21, nc22, nc23, nc35, nc47, nc59, nc60, nc61, nc73, nc74, nc214, nc215, nc1115, nc2230, nc3345, if_true, if_false, Int.reduceToNat, ha.k, ha.r, ha.k1, ha.n1, hc.k6, hc.r5, hc.r6, hc.r0, hc.r2, hc.r7, hc.r8, hc.r9, hc.r10, hc.r11, hc.r12, hc.r13, hc.r14, hc.r15, hc.r16, hc.r17, hc.r18, hc.r8_0, hc.r8_1, hc.r11_0, hc.r11_1, hc.r60_0, hc.r60_1, hc.r60_4, hc.r64_0, hc.r64_3, hc.r64_4, hc.r68_0, hc.r41_0, hc.r41_1, hc.r42_0, hc.r42_1, hc.k7, hc.k8, hc.k9, hc.k11, hc.k12, hc.k13, hc.k32, hc.k41, hc.k42, hc.k43, hc.k60, hc.k61, hc.k62, hc.k63, hc.k64, hc.k65, hc.k66, hc.k67, hc.k68, hc.k69, hc.k70, hc.k71, hc.n6, hc.n7, hc.n8, hc.n9, hc.n11, hc.n12, hc.n13, hc.n32, hc.n41, hc.n42, hc.n43, hc.n60, hc.n61, hc.n62, hc.n63, hc.n64, hc.n65, hc.n66, hc.n67, hc.n68, hc.n69, hc.n70, hc.n71, hv.f1, hv.f2, hv.rk, c_isJoined' hv gd, hw]
      rw [js]
      congr 2
      congr 1
      omega
theorem c_bB_1 {d w : Nat} {h : Hp} {S : Int → Int} (me : ME h w S) (gd : Gd S) (ja : JAv h S) {x r g : Int} (hx : -1 ≤ x ∧ x < g ∧ g < S 1) (hr : -1 ≤ r ∧ r < S 2) (hxr : x = -1 ↔ r = -1) (wt : ∀ s, 0 ≤ s → s < S 2 → csR S g s = true → wV h S g s) : ∀ s, r + 1 ≤ s → s ≤ 12 → ∀ m, (0 ≤ m ∧ m ≤ 1400) → EX (d+4) m_Mender_bestBehind 58 [(0, .inr (.inr (64))), (1, .inr (.inr (w))), (2, .inr (.inr (26))), (3, .inl (x)), (4, .inl (r)), (5, .inl (m - (jnM S - jA S (x + 1)))), (6, .inl (g)), (7, .inl (jA S g - jA S (x + 1))), (8, .inl (s))] [] (h) = EX (d+4) m_Mender_bestBehind 106 [(0, .inr (.inr (64))), (1, .inr (.inr (w))), (2, .inr (.inr (26))), (3, .inl (x)), (4, .inl (r)), (5, .inl (mx (fun s => if okR S x r g s = true then kbR S g s + AR S g s else 0) s (S 2) m - (jnM S - jA S (x + 1)))), (6, .inl (g))] [] (h) := by
  have ga := gd.a
  have gb := gd.b
  have hc := me.1
  have wv := me.2.1
  have hw := wv.1
  have j1 := jA_rng S (i := x + 1) (by omega)
  have j2 := jA_rng S (i := S 1) (by omega)
  have j3 := jA_rng S (i := g) (by omega)
  rw [jA_N] at j2
  refine up_ind (hi := S 2) ?_ ?_
  · intro s hs h0 h1 m hm
    rw [Mender_bestBehind_58, mx_stop hs]
    simp (disch := omega) only [wr_id, ix_id, okx, if_pos, if_neg, Int.toNat_of_nonneg, bak_v, bak_n, wr_b01, wr_bt, b01_or, b01_0, b01_1, lc_lt0, lc_gt0, lc_eq0, wl_wr, wr_wr, wl_id, true_and, and_true, true_or, or_true, not_true_eq_false, not_false_eq_true, nc0, nc1, nc2, nc3, nc4, nc5, nc6, nc7, nc8, nc9, nc10, nc11, nc12, nc13, nc14, nc15, nc16, nc17, nc18, nc19, nc20, nc21, nc22, nc23, nc35, nc47, nc59, nc60, nc61, nc73, nc74, nc214, nc215, nc1115, nc2230, nc3345, if_true, if_false, Int.reduceToNat, hw.k, hw.r0, hw.r1, hw.r2, hw.r3, hw.r4, hw.k1, hw.k2, hw.k3, hw.k4, hw.k5, hw.n1, hw.n2, hw.n3, hw.n4, hw.n5, wv.f5, wv.f6, wv.f7, wv.f8, wv.f9, wv.f10, wv.f11, wv.f12, wv.f13, wv.f14, wv.pk, wv.qk, wv.hk, wv.rk]
  · intro s hs ih h0 h1 m hm
    have ec := c_canCome (d := d) me gd (x := x) (r := r) (g := g) (s := s) hx (by omega) hxr
    have ar := AR_rng S g s
    have kr := kbR_rng S g s
    rw [Mender_bestBehind_58, mx_step hs]
    by_cases c : okR S x r g s = true
    · have cs : csR S g s = true := by have := c; rw [okR_cs] at this; exact this.1
      have ew := c_worthOf (d := d + 2) me gd (g := g) (s := s) (by omega) (by omega) (wt s (by omega) hs cs)
      rw [if_pos c]
      simp (disch := omega) only [Mender_bestBehind_67, Mender_bestBehind_78, Mender_bestBehind_81, Mender_bestBehind_92, wr_id, ix_id, okx, if_pos, if_neg, Int.toNat_of_nonneg, bak_v, bak_n, wr_b01, wr_bt, b01_or, b01_0, b01_1, lc_lt0, lc_gt0, lc_eq0, wl_wr, wr_wr, wl_id, true_and, and_true, true_or, or_true, not_true_eq_false, not_false_eq_true, nc0, nc1, nc2, nc3, nc4, nc5, nc6, nc7, nc8, nc9, nc10, nc11, nc12, nc13, nc14, nc15, nc16, nc17, nc18, nc19, nc20, nc21, nc22, nc23, nc35, nc47, nc59, nc60, nc61, nc73, nc74, nc214, nc215, nc1115, nc2230, nc3345, if_true, if_false, Int.reduceToNat, hw.k, hw.r0, hw.r1, hw.r2, hw.r3, hw.r4, hw.k1, hw.k2, hw.k3, hw.k4, hw.k5, hw.n1, hw.n2, hw.n3, hw.n4, hw.n5, wv.f5, wv.f6, wv.f7, wv.f8, wv.f9, wv.f10, wv.f11, wv.f12, wv.f13, wv.f14, wv.pk, wv.qk, wv.hk, wv.rk, hc.k6, hc.r5, hc.r6, hc.r0, hc.r2, hc.r7, hc.r8, hc.r9, hc.r10, hc.r11, hc.r12, hc.r13, hc.r14, hc.r15, hc.r16, hc.r17, hc.r18, hc.r8_0, hc.r8_1, hc.r11_0, hc.r11_1, hc.r60_0, hc.r60_1, hc.r60_4, hc.r64_0, hc.r64_3, hc.r64_4, hc.r68_0, hc.r41_0, hc.r41_1, hc.r42_0, hc.r42_1, hc.k7, hc.k8, hc.k9, hc.k11, hc.k12, hc.k13, hc.k32, hc.k41, hc.k42, hc.k43, hc.k60, hc.k61, hc.k62, hc.k63, hc.k64, hc.k65, hc.k66, hc.k67, hc.k68, hc.k69, hc.k70, hc.k71, hc.n6, hc.n7, hc.n8, hc.n9, hc.n11, hc.n12, hc.n13, hc.n32, hc.n41, hc.n42, hc.n43, hc.n60, hc.n61, hc.n62, hc.n63, hc.n64, hc.n65, hc.n66, hc.n67, hc.n68, hc.n69, hc.n70, hc.n71, ec, c, ew, max_s]
      by_cases c2 : m < kbR S g s + AR S g s
      · rw [if_pos (show m - (jnM S - jA S (x + 1)) < kbR S g s + AR S g s - (jnM S - jA S g) - (jA S g - jA S (x + 1)) by omega), if_pos c2]
        rw [Mender_bestBehind_98, Mender_bestBehind_100, show kbR S g s + AR S g s - (jnM S - jA S g) - (jA S g - jA S (x + 1)) = kbR S g s + AR S g s - (jnM S - jA S (x + 1)) by omega]
        exact ih (by omega) (by omega) _ (by omega)
      · rw [if_neg (show ¬ m - (jnM S - jA S (x + 1)) < kbR S g s + AR S g s - (jnM S - jA S g) - (jA S g - jA S (x + 1)) by omega), if_neg c2]
        rw [Mender_bestBehind_98, Mender_bestBehind_100]
        exact ih (by omega) (by omega) _ hm
    · have c' : okR S x r g s = false := by simpa using c
      rw [c'] at ec
      rw [if_neg c, if_neg (show ¬ m < 0 by omega)]
      simp (disch := omega) only [Mender_bestBehind_67, Mender_bestBehind_78, Mender_bestBehind_100, wr_id, ix_id, okx, if_pos, if_neg, Int.toNat_of_nonneg, bak_v, bak_n, wr_b01, wr_bt, b01_or, b01_0, b01_1, lc_lt0, lc_gt0, lc_eq0, wl_wr, wr_wr, wl_id, true_and, and_true, true_or, or_true, not_true_eq_false, not_false_eq_true, nc0, nc1, nc2, nc3, nc4, nc5, nc6, nc7, nc8, nc9, nc10, nc11, nc12, nc13, nc14, nc15, nc16, nc17, nc18, nc19, nc20, nc21, nc22, nc23, nc35, nc47, nc59, nc60, nc61, nc73, nc74, nc214, nc215, nc1115, nc2230, nc3345, if_true, if_false, Int.reduceToNat, hw.k, hw.r0, hw.r1, hw.r2, hw.r3, hw.r4, hw.k1, hw.k2, hw.k3, hw.k4, hw.k5, hw.n1, hw.n2, hw.n3, hw.n4, hw.n5, wv.f5, wv.f6, wv.f7, wv.f8, wv.f9, wv.f10, wv.f11, wv.f12, wv.f13, wv.f14, wv.pk, wv.qk, wv.hk, wv.rk, hc.k6, hc.r5, hc.r6, hc.r0, hc.r2, hc.r7, hc.r8, hc.r9, hc.r10, hc.r11, hc.r12, hc.r13, hc.r14, hc.r15, hc.r16, hc.r17, hc.r18, hc.r8_0, hc.r8_1, hc.r11_0, hc.r11_1, hc.r60_0, hc.r60_1, hc.r60_4, hc.r64_0, hc.r64_3, hc.r64_4, hc.r68_0, hc.r41_0, hc.r41_1, hc.r42_0, hc.r42_1, hc.k7, hc.k8, hc.k9, hc.k11, hc.k12, hc.k13, hc.k32, hc.k41, hc.k42, hc.k43, hc.k60, hc.k61, hc.k62, hc.k63, hc.k64, hc.k65, hc.k66, hc.k67, hc.k68, hc.k69, hc.k70, hc.k71, hc.n6, hc.n7, hc.n8, hc.n9, hc.n11, hc.n12, hc.n13, hc.n32, hc.n41, hc.n42, hc.n43, hc.n60, hc.n61, hc.n62, hc.n63, hc.n64, hc.n65, hc.n66, hc.n67, hc.n68, hc.n69, hc.n70, hc.n71, ec]
      simp only [Bool.false_eq_true, not_false_eq_true, if_true]
      exact ih (by omega) (by omega) _ hm
theorem stR_rng {S : Int → Int} (x r g : Int) {m : Int} (hm : 0 ≤ m ∧ m ≤ 1400) : 0 ≤ stR S x r g m ∧ stR S x r g m ≤ 1400 := by
  have mr := mx_rng (f := fun s => if okR S x r g s = true then kbR S g s + AR S g s else 0) (N := S 2) (B := 1400) (r + 1) (fun s _ _ => by
      have h1 := AR_rng S g s
      have h2 := kbR_rng S g s
      split <;> omega) m (by omega)
  unfold stR
  omega
theorem c_bB_2 {d w : Nat} {h : Hp} {S : Int → Int} (me : ME h w S) (gd : Gd S) (ja : JAv h S) {x r : Int} (hx : -1 ≤ x) (hr : -1 ≤ r ∧ r < S 2) (hxr : x = -1 ↔ r = -1) (wt : ∀ g s, x < g → g < S 1 → 0 ≤ s → s < S 2 → csR S g s = true → wV h S g s) : ∀ g, x + 1 ≤ g → g ≤ 12 → ∀ m, (0 ≤ m ∧ m ≤ 1400) → EX (d+4) m_Mender_bestBehind 25 [(0, .inr (.inr (64))), (1, .inr (.inr (w))), (2, .inr (.inr (26))), (3, .inl (x)), (4, .inl (r)), (5, .inl (m - (jnM S - jA S (x + 1)))), (6, .inl (g))] [] (h) = some (.inl (fo (stR S x r) g (S 1) m - (jnM S - jA S (x + 1))), h) := by
  have ga := gd.a
  have gb := gd.b
  have hc := me.1
  have wv := me.2.1
  have hw := wv.1
  refine up_ind (hi := S 1) ?_ ?_
  · intro g hg h0 h1 m hm
    rw [Mender_bestBehind_25, fo_stop hg]
    simp (disch := omega) only [Mender_bestBehind_112, wr_id, ix_id, okx, if_pos, if_neg, Int.toNat_of_nonneg, bak_v, bak_n, wr_b01, wr_bt, b01_or, b01_0, b01_1, lc_lt0, lc_gt0, lc_eq0, wl_wr, wr_wr, wl_id, true_and, and_true, true_or, or_true, not_true_eq_false, not_false_eq_true, nc0, nc1, nc2, nc3, nc4, nc5, nc6, nc7, nc8, nc9, nc10, nc11, nc12, nc13, nc14, nc15, nc16, nc17, nc18, nc19, nc20, nc21, nc22, nc23, nc35, nc47, nc59, nc60, nc61, nc73, nc74, nc214, nc215, nc1115, nc2230, nc3345, if_true, if_false, Int.reduceToNat, hw.k, hw.r0, hw.r1, hw.r2, hw.r3, hw.r4, hw.k1, hw.k2, hw.k3, hw.k4, hw.k5, hw.n1, hw.n2, hw.n3, hw.n4, hw.n5, wv.f5, wv.f6, wv.f7, wv.f8, wv.f9, wv.f10, wv.f11, wv.f12, wv.f13, wv.f14, wv.pk, wv.qk, wv.hk, wv.rk]
  · intro g hg ih h0 h1 m hm
    have e1 := ja g (by omega) (by omega)
    have e2 := ja (x + 1) (by omega) (by omega)
    rw [Mender_bestBehind_25, fo_step hg]
    simp (disch := omega) only [Mender_bestBehind_34, wr_id, ix_id, okx, if_pos, if_neg, Int.toNat_of_nonneg, bak_v, bak_n, wr_b01, wr_bt, b01_or, b01_0, b01_1, lc_lt0, lc_gt0, lc_eq0, wl_wr, wr_wr, wl_id, true_and, and_true, true_or, or_true, not_true_eq_false, not_false_eq_true, nc0, nc1, nc2, nc3, nc4, nc5, nc6, nc7, nc8, nc9, nc10, nc11, nc12, nc13, nc14, nc15, nc16, nc17, nc18, nc19, nc20, nc21, nc22, nc23, nc35, nc47, nc59, nc60, nc61, nc73, nc74, nc214, nc215, nc1115, nc2230, nc3345, if_true, if_false, Int.reduceToNat, hw.k, hw.r0, hw.r1, hw.r2, hw.r3, hw.r4, hw.k1, hw.k2, hw.k3, hw.k4, hw.k5, hw.n1, hw.n2, hw.n3, hw.n4, hw.n5, wv.f5, wv.f6, wv.f7, wv.f8, wv.f9, wv.f10, wv.f11, wv.f12, wv.f13, wv.f14, wv.pk, wv.qk, wv.hk, wv.rk, hc.k6, hc.r5, hc.r6, hc.r0, hc.r2, hc.r7, hc.r8, hc.r9, hc.r10, hc.r11, hc.r12, hc.r13, hc.r14, hc.r15, hc.r16, hc.r17, hc.r18, hc.r8_0, hc.r8_1, hc.r11_0, hc.r11_1, hc.r60_0, hc.r60_1, hc.r60_4, hc.r64_0, hc.r64_3, hc.r64_4, hc.r68_0, hc.r41_0, hc.r41_1, hc.r42_0, hc.r42_1, hc.k7, hc.k8, hc.k9, hc.k11, hc.k12, hc.k13, hc.k32, hc.k41, hc.k42, hc.k43, hc.k60, hc.k61, hc.k62, hc.k63, hc.k64, hc.k65, hc.k66, hc.k67, hc.k68, hc.k69, hc.k70, hc.k71, hc.n6, hc.n7, hc.n8, hc.n9, hc.n11, hc.n12, hc.n13, hc.n32, hc.n41, hc.n42, hc.n43, hc.n60, hc.n61, hc.n62, hc.n63, hc.n64, hc.n65, hc.n66, hc.n67, hc.n68, hc.n69, hc.n70, hc.n71, e1, e2]
    refine (c_bB_1 (d := d) me gd ja (x := x) (r := r) (g := g) (by omega) hr hxr (fun s s0 s1 cs => wt g s (by omega) hg s0 s1 cs) (r + 1) (by omega) (by omega) m hm).trans ?_
    rw [Mender_bestBehind_106]
    exact ih (by omega) (by omega) _ (stR_rng x r g hm)
theorem c_bestBehind {d w : Nat} {h : Hp} {S : Int → Int} (me : ME h w S) (gd : Gd S) (ja : JAv h S) {x r : Int} (hx : -1 ≤ x ∧ x < S 1) (hr : -1 ≤ r ∧ r < S 2) (hxr : x = -1 ↔ r = -1) (wt : ∀ g s, x < g → g < S 1 → 0 ≤ s → s < S 2 → csR S g s = true → wV h S g s) : cal (d+5) m_Mender_bestBehind [.inr (.inr (64)), .inr (.inr (w)), .inr (.inr (26)), .inl (x), .inl (r)] (h) = some (.inl (AR S x r - (jnM S - jA S (x + 1))), h) := by
  have ga := gd.a
  have hc := me.1
  have wv := me.2.1
  have hw := wv.1
  have e1 := ja (S 1) (by omega) (by omega)
  have e2 := ja (x + 1) (by omega) (by omega)
  rw [jA_N] at e1
  show EX (d+4) m_Mender_bestBehind 0 [(0, .inr (.inr (64))), (1, .inr (.inr (w))), (2, .inr (.inr (26))), (3, .inl (x)), (4, .inl (r))] [] (h) = _
  simp (disch := omega) only [Mender_bestBehind_0, wr_id, ix_id, okx, if_pos, if_neg, Int.toNat_of_nonneg, bak_v, bak_n, wr_b01, wr_bt, b01_or, b01_0, b01_1, lc_lt0, lc_gt0, lc_eq0, wl_wr, wr_wr, wl_id, true_and, and_true, true_or, or_true, not_true_eq_false, not_false_eq_true, nc0, nc1, nc2, nc3, nc4, nc5, nc6, nc7, nc8, nc9, nc10, nc11, nc12, nc13, nc14, nc15, nc16, nc17, nc18, nc19, nc20, nc21, nc22, nc23, nc35, nc47, nc59, nc60, nc61, nc73, nc74, nc214, nc215, nc1115, nc2230, nc3345, if_true, if_false, Int.reduceToNat, hw.k, hw.r0, hw.r1, hw.r2, hw.r3, hw.r4, hw.k1, hw.k2, hw.k3, hw.k4, hw.k5, hw.n1, hw.n2, hw.n3, hw.n4, hw.n5, wv.f5, wv.f6, wv.f7, wv.f8, wv.f9, wv.f10, wv.f11, wv.f12, wv.f13, wv.f14, wv.pk, wv.qk, wv.hk, wv.rk, hc.k6, hc.r5, hc.r6, hc.r0, hc.r2, hc.r7, hc.r8, hc.r9, hc.r10, hc.r11, hc.r12, hc.r13, hc.r14, hc.r15, hc.r16, hc.r17, hc.r18, hc.r8_0, hc.r8_1, hc.r11_0, hc.r11_1, hc.r60_0, hc.r60_1, hc.r60_4, hc.r64_0, hc.r64_3, hc.r64_4, hc.r68_0, hc.r41_0, hc.r41_1, hc.r42_0, hc.r42_1, hc.k7, hc.k8, hc.k9, hc.k11, hc.k12, hc.k13, hc.k32, hc.k41, hc.k42, hc.k43, hc.k60, hc.k61, hc.k62, hc.k63, hc.k64, hc.k65, hc.k66, hc.k67, hc.k68, hc.k69, hc.k70, hc.k71, hc.n6, hc.n7, hc.n8, hc.n9, hc.n11, hc.n12, hc.n13, hc.n32, hc.n41, hc.n42, hc.n43, hc.n60, hc.n61, hc.n62, hc.n63, hc.n64, hc.n65, hc.n66, hc.n67, hc.n68, hc.n69, hc.n70, hc.n71, e1, e2]
  have := c_bB_2 (d := d) me gd ja (x := x) (r := r) (by omega) hr hxr wt (x + 1) (by omega) (by omega) 0 (by omega)
  rw [show jA S (x + 1) - jnM S = 0 - (jnM S - jA S (x + 1)) by omega, AR_eq gd (by omega)]
  exact this
