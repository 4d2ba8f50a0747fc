/-! the class: Tokens -/
def kc (k : Int) : Int := if k = 22 then 0 else if k = 23 then 1 else if k = 21 then 2 else if k = 20 then 3 else if k = 0 then 128 else if k = 1 then 129 else if k = 2 then 130 else if k = 4 then 131 else if k = 5 then 132 else if k = 6 then 133 else if k = 7 then 134 else if k = 8 then 135 else if k = 9 then 136 else if k = 10 then 137 else if k = 3 then 138 else if k = 11 then 139 else if k = 12 then 140 else if k = 13 then 141 else if k = 14 then 142 else if k = 15 then 143 else if k = 16 then 144 else if k = 17 then 145 else if k = 25 then 59 else if k = 26 then 58 else if k = 27 then 43 else if k = 28 then 45 else if k = 29 then 42 else if k = 30 then 40 else if k = 31 then 41 else if k = 32 then 91 else if k = 33 then 93 else if k = 34 then 61 else if k = 35 then 60 else 62
def kdB (k : Int) : Bool := decide ((0 ≤ k ∧ k ≤ 17) ∨ (20 ≤ k ∧ k ≤ 23) ∨ (25 ≤ k ∧ k ≤ 36))
theorem kc_k1 : ∀ a : Fin 37, ∀ b : Fin 37, kdB (a.1 : Int) = true → kdB (b.1 : Int) = true → kc (a.1 : Int) = kc (b.1 : Int) → a = b := by decide +kernel
theorem kc_k2 : ∀ a : Fin 37, 0 ≤ kc (a.1 : Int) ∧ kc (a.1 : Int) ≤ 145 := by decide +kernel
theorem kc_inj {a b : Int} (ha : kdO a) (hb : kdO b) (h : kc a = kc b) : a = b := by
  unfold kdO at ha hb
  obtain ⟨x, rfl⟩ := Int.eq_ofNat_of_zero_le (show 0 ≤ a by omega)
  obtain ⟨y, rfl⟩ := Int.eq_ofNat_of_zero_le (show 0 ≤ b by omega)
  have := kc_k1 ⟨x, by omega⟩ ⟨y, by omega⟩ (by unfold kdB; simp only [decide_eq_true_eq]; exact ha) (by unfold kdB; simp only [decide_eq_true_eq]; exact hb) h
  have : x = y := by simpa using this
  omega
theorem kc_rng {a : Int} (ha : kdO a) : 0 ≤ kc a ∧ kc a ≤ 145 := by
  unfold kdO at ha
  obtain ⟨x, rfl⟩ := Int.eq_ofNat_of_zero_le (show 0 ≤ a by omega)
  exact kc_k2 ⟨x, by omega⟩
/-- a kind of the class is this one just if that of the model is -/
theorem kc_iff {a b c : Int} (ha : kdO a) (hb : kdO b) (e : kc b = c) : kc a = c ↔ a = b := ⟨fun h => kc_inj ha hb (h.trans e.symm), fun h => by rw [h]; exact e⟩
theorem wc_eq (s : List Int) : kwL Wc 128 3 s = kc (kwL Wm 0 20 s) := by
  by_cases h : s ∈ Wm
  · have : ∀ s ∈ Wm, kwL Wc 128 3 s = kc (kwL Wm 0 20 s) := by decide +kernel
    exact this s h
  · have a : ∀ (L : List (List Int)) (n e : Int), s ∉ L → kwL L n e s = e := by
      intro L
      induction L with
      | nil => intro n e _; rfl
      | cons l r ih =>
        intro n e hn
        simp only [List.mem_cons, not_or] at hn
        simp only [kwL]
        rw [if_neg hn.1]
        exact ih _ _ hn.2
    have sub : ∀ l ∈ Wc, l ∈ Wm := by decide +kernel
    rw [a Wc 128 3 (fun z => h (sub s z)), a Wm 0 20 h]
    rfl
/-- the class, its tape, the text -/
def CX (h : Hp) (w : Nat) (T : Int → Int) (n : Int) : Prop := CR h w ∧ STR h ∧ hR h 9 0 = 7 ∧ (∀ k : Nat, k < 900 → hI h 7 k = sb (T k)) ∧ tOk T ∧ hI h 9 1 = n ∧ (0 ≤ n ∧ n ≤ 900)
def CK (h : Hp) (T : Int → Int) (n a : Int) : Prop := hI h 9 5 = a ∧ hI h 9 2 = tkE T n a ∧ hI h 9 3 = kc (tkK T n a) ∧ (tkK T n a = 21 → hI h 9 4 = tkN T n a)
theorem CX.fr {h h' : Hp} {w : Nat} {T : Int → Int} {n : Int} (x : CX h w T n) {p : Nat → Nat → Prop} (f : Fr p h h') (hp : ∀ a k, p a k → 8 ≤ a ∧ ¬ (a = 9 ∧ k = 1)) : CX h' w T n := ⟨x.1.fr f, x.2.1.fr f (fun a k q => by have := hp a k q; omega), by rw [f.R]; exact x.2.2.1, fun k hk => by rw [f.I (fun q => by have := hp _ _ q; omega)]; exact x.2.2.2.1 k hk, x.2.2.2.2.1, by rw [f.I (fun q => (hp _ _ q).2 ⟨rfl, rfl⟩)]; exact x.2.2.2.2.2.1, x.2.2.2.2.2.2⟩
def pCk (a k : Nat) : Prop := a = 9 ∧ (k = 2 ∨ k = 3 ∨ k = 4 ∨ k = 5)
theorem CX.k {h h' : Hp} {w : Nat} {T : Int → Int} {n : Int} (x : CX h w T n) {p : Nat → Nat → Prop} (f : Fr p h h') (hp : ∀ a k, p a k → pCk a k) : CX h' w T n := x.fr f (fun a k q => by have := hp a k q; unfold pCk at this; omega)
theorem CX.t {h : Hp} {w : Nat} {T : Int → Int} {n k : Int} (x : CX h w T n) (k0 : 0 ≤ k) (k1 : k < n) : hI h 7 k.toNat = sb (T k) := by
  have := x.2.2.2.1 k.toNat (by have := x.2.2.2.2.2.2; omega)
  rw [Int.toNat_of_nonneg k0] at this
  exact this
theorem sb_rng (t : Int) (h : 0 ≤ t ∧ t ≤ 255) : -128 ≤ sb t ∧ sb t ≤ 127 ∧ (0 ≤ sb t → sb t = t ∧ t < 128) := by unfold sb; split <;> omega
theorem sb_pos {t c : Int} (h : 0 ≤ t ∧ t ≤ 255) (hc : 0 ≤ c ∧ c < 128) : sb t = c ↔ t = c := by unfold sb; split <;> omega
theorem i2c_k : ∀ x : Fin 128, bI2c (x.1 : Int) = (x.1 : Int) := by decide +kernel
def SGl : List Int := [59, 58, 43, 45, 42, 40, 41, 91, 93, 61, 60, 62]
theorem six_k : ∀ x : Fin 128, (-1 ≤ sIxF (x.1 : Int) SGl 0 ∧ sIxF (x.1 : Int) SGl 0 ≤ 11) ∧ (sIxF (x.1 : Int) SGl 0 < 0 ↔ sgK (x.1 : Int) = 23) := by decide +kernel
theorem kcs_k : ∀ x : Fin 128, ¬ sgK (x.1 : Int) = 23 → kc (sgK (x.1 : Int)) = (x.1 : Int) := by decide +kernel
theorem six_eq {h : Hp} (st : STR h) (c : Int) : sIx h 3 c = sIxF c SGl 0 := by
  unfold sIx
  rw [st.2.1.2.1]
  congr 1
  have e : ∀ k : Nat, hI h 3 k = txF 1 k := st.2.2.2.1
  show List.map (fun k => hI h 3 k) (List.range 12) = SGl
  have : (fun k => hI h 3 k) = (fun k : Nat => txF 1 k) := funext e
  rw [this]
  decide +kernel
/-- the kind of a token that begins with t, as the class has it -/
def ckd (t : Int) : Int := if 48 ≤ t ∧ t ≤ 57 then 2 else if 97 ≤ t ∧ t ≤ 122 then 3 else kc (sgK t)
theorem sgK_kd (t : Int) : kdO (sgK t) := by
  have := sgK_rng t
  unfold kdO
  omega
theorem ckd_rng (t : Int) : 0 ≤ ckd t ∧ ckd t ≤ 145 := by
  have := kc_rng (sgK_kd t)
  unfold ckd
  split
  · omega
  · split <;> omega
theorem kcs_n (t : Int) : ¬ kc (sgK t) = 2 ∧ ¬ kc (sgK t) = 3 := by
  have := sgK_rng t
  refine ⟨fun z => ?_, fun z => ?_⟩
  · have := (kc_iff (sgK_kd t) (b := 21) (by unfold kdO; omega) (show kc 21 = 2 from rfl)).mp z
    omega
  · have := (kc_iff (sgK_kd t) (b := 20) (by unfold kdO; omega) (show kc 20 = 3 from rfl)).mp z
    omega
theorem ckd_2 {T : Int → Int} {p : Int} : ckd (T p) = 2 ↔ qD T p = true := by
  have := kcs_n (T p)
  unfold ckd qD
  simp only [decide_eq_true_eq]
  split
  · omega
  · split <;> omega
theorem ckd_3 {T : Int → Int} {p : Int} : ckd (T p) = 3 ↔ qL T p = true := by
  have := kcs_n (T p)
  unfold ckd qL
  simp only [decide_eq_true_eq]
  split
  · omega
  · split <;> omega
theorem c_kind {d : Nat} {h : Hp} {t : Int} (st : STR h) (ht : 0 ≤ t ∧ t ≤ 255) : cal (d+1) m_Tokens_kindOf [.inl (sb t)] (h) = some (.inl (ckd t), h) := by
  have sr := sb_rng t ht
  show EX (d) m_Tokens_kindOf 0 [(0, .inl (sb t))] [] (h) = _
  by_cases cd : 48 ≤ t ∧ t ≤ 57
  · have e : sb t = t := (sb_pos ht (by omega)).mpr rfl
    rw [show ckd t = 2 by unfold ckd; rw [if_pos cd], e]
    simp (disch := omega) only [Tokens_kindOf_0, Tokens_kindOf_6, Tokens_kindOf_12, wr_id, ix_id, okx, if_pos, if_neg, Int.toNat_of_nonneg, bak_v, bak_n, wr_b01, wr_bt, b01_or, b01_0, b01_1, lc_lt0, lc_gt0, lc_eq0, wl_wr, wr_wr, wl_id, true_and, and_true, true_or, or_true, not_true_eq_false, not_false_eq_true, nc0, nc1, nc2, nc3, nc4, nc5, nc6, nc7, nc8, nc9, nc10, nc11, nc12, nc13, nc14, nc15, nc16, nc17, nc18, nc19, nc20, nc21, nc22, nc23, nc35, nc47, nc59, nc60, nc61, nc73, nc74, nc214, nc215, nc1115, nc2230, nc3345, if_true, if_false, Int.reduceToNat]
  · by_cases cl : 97 ≤ t ∧ t ≤ 122
    · have e : sb t = t := (sb_pos ht (by omega)).mpr rfl
      rw [show ckd t = 3 by unfold ckd; rw [if_neg cd, if_pos cl], e]
      simp (disch := omega) only [Tokens_kindOf_0, Tokens_kindOf_6, Tokens_kindOf_14, Tokens_kindOf_20, Tokens_kindOf_26, wr_id, ix_id, okx, if_pos, if_neg, Int.toNat_of_nonneg, bak_v, bak_n, wr_b01, wr_bt, b01_or, b01_0, b01_1, lc_lt0, lc_gt0, lc_eq0, wl_wr, wr_wr, wl_id, true_and, and_true, true_or, or_true, not_true_eq_false, not_false_eq_true, nc0, nc1, nc2, nc3, nc4, nc5, nc6, nc7, nc8, nc9, nc10, nc11, nc12, nc13, nc14, nc15, nc16, nc17, nc18, nc19, nc20, nc21, nc22, nc23, nc35, nc47, nc59, nc60, nc61, nc73, nc74, nc214, nc215, nc1115, nc2230, nc3345, if_true, if_false, Int.reduceToNat]
    · rw [show ckd t = kc (sgK t) by unfold ckd; rw [if_neg cd, if_neg cl]]
      have go : EX (d) m_Tokens_kindOf 0 [(0, .inl (sb t))] [] (h) = EX (d) m_Tokens_kindOf 28 [(0, .inl (sb t))] [] (h) := by
        by_cases h1 : sb t < 48
        · simp (disch := omega) only [Tokens_kindOf_0, Tokens_kindOf_14, wr_id, ix_id, okx, if_pos, if_neg, Int.toNat_of_nonneg, bak_v, bak_n, wr_b01, wr_bt, b01_or, b01_0, b01_1, lc_lt0, lc_gt0, lc_eq0, wl_wr, wr_wr, wl_id, true_and, and_true, true_or, or_true, not_true_eq_false, not_false_eq_true, nc0, nc1, nc2, nc3, nc4, nc5, nc6, nc7, nc8, nc9, nc10, nc11, nc12, nc13, nc14, nc15, nc16, nc17, nc18, nc19, nc20, nc21, nc22, nc23, nc35, nc47, nc59, nc60, nc61, nc73, nc74, nc214, nc215, nc1115, nc2230, nc3345, if_true, if_false, Int.reduceToNat]
        · have h2 := (sr.2.2 (by omega)).1
          by_cases h3 : sb t < 97
          · simp (disch := omega) only [Tokens_kindOf_0, Tokens_kindOf_6, Tokens_kindOf_14, wr_id, ix_id, okx, if_pos, if_neg, Int.toNat_of_nonneg, bak_v, bak_n, wr_b01, wr_bt, b01_or, b01_0, b01_1, lc_lt0, lc_gt0, lc_eq0, wl_wr, wr_wr, wl_id, true_and, and_true, true_or, or_true, not_true_eq_false, not_false_eq_true, nc0, nc1, nc2, nc3, nc4, nc5, nc6, nc7, nc8, nc9, nc10, nc11, nc12, nc13, nc14, nc15, nc16, nc17, nc18, nc19, nc20, nc21, nc22, nc23, nc35, nc47, nc59, nc60, nc61, nc73, nc74, nc214, nc215, nc1115, nc2230, nc3345, if_true, if_false, Int.reduceToNat]
          · simp (disch := omega) only [Tokens_kindOf_0, Tokens_kindOf_6, Tokens_kindOf_14, Tokens_kindOf_20, wr_id, ix_id, okx, if_pos, if_neg, Int.toNat_of_nonneg, bak_v, bak_n, wr_b01, wr_bt, b01_or, b01_0, b01_1, lc_lt0, lc_gt0, lc_eq0, wl_wr, wr_wr, wl_id, true_and, and_true, true_or, or_true, not_true_eq_false, not_false_eq_true, nc0, nc1, nc2, nc3, nc4, nc5, nc6, nc7, nc8, nc9, nc10, nc11, nc12, nc13, nc14, nc15, nc16, nc17, nc18, nc19, nc20, nc21, nc22, nc23, nc35, nc47, nc59, nc60, nc61, nc73, nc74, nc214, nc215, nc1115, nc2230, nc3345, if_true, if_false, Int.reduceToNat]
      rw [go]
      by_cases c0 : 0 < sb t
      · obtain ⟨e, t1⟩ := sr.2.2 (by omega)
        rw [e]
        obtain ⟨x, rfl⟩ := Int.eq_ofNat_of_zero_le ht.1
        have ic := i2c_k ⟨x, by omega⟩
        obtain ⟨s1, s2⟩ := six_k ⟨x, by omega⟩
        have ic' : bI2c (x : Int) = x := ic
        have s1' : -1 ≤ sIxF (x : Int) SGl 0 ∧ sIxF (x : Int) SGl 0 ≤ 11 := s1
        have s2' : sIxF (x : Int) SGl 0 < 0 ↔ sgK (x : Int) = 23 := s2
        by_cases c1 : sgK (x : Int) = 23
        · have := s2'.mpr c1
          rw [c1, show kc 23 = 1 from rfl]
          simp (disch := omega) only [Tokens_kindOf_28, Tokens_kindOf_32, Tokens_kindOf_46, Tokens_kindOf_47, wr_id, ix_id, okx, if_pos, if_neg, Int.toNat_of_nonneg, bak_v, bak_n, wr_b01, wr_bt, b01_or, b01_0, b01_1, lc_lt0, lc_gt0, lc_eq0, wl_wr, wr_wr, wl_id, true_and, and_true, true_or, or_true, not_true_eq_false, not_false_eq_true, nc0, nc1, nc2, nc3, nc4, nc5, nc6, nc7, nc8, nc9, nc10, nc11, nc12, nc13, nc14, nc15, nc16, nc17, nc18, nc19, nc20, nc21, nc22, nc23, nc35, nc47, nc59, nc60, nc61, nc73, nc74, nc214, nc215, nc1115, nc2230, nc3345, if_true, if_false, Int.reduceToNat, cs0, st.1.2.1, ic', six_eq st]
        · have : ¬ sIxF (x : Int) SGl 0 < 0 := fun z => c1 (s2'.mp z)
          have kt : kc (sgK (x : Int)) = x := kcs_k ⟨x, by omega⟩ c1
          rw [kt]
          simp (disch := omega) only [Tokens_kindOf_28, Tokens_kindOf_32, Tokens_kindOf_42, Tokens_kindOf_47, wr_id, ix_id, okx, if_pos, if_neg, Int.toNat_of_nonneg, bak_v, bak_n, wr_b01, wr_bt, b01_or, b01_0, b01_1, lc_lt0, lc_gt0, lc_eq0, wl_wr, wr_wr, wl_id, true_and, and_true, true_or, or_true, not_true_eq_false, not_false_eq_true, nc0, nc1, nc2, nc3, nc4, nc5, nc6, nc7, nc8, nc9, nc10, nc11, nc12, nc13, nc14, nc15, nc16, nc17, nc18, nc19, nc20, nc21, nc22, nc23, nc35, nc47, nc59, nc60, nc61, nc73, nc74, nc214, nc215, nc1115, nc2230, nc3345, if_true, if_false, Int.reduceToNat, cs0, st.1.2.1, ic', six_eq st]
      · have c1 : sgK t = 23 := by
          unfold sb at c0
          unfold sgK
          repeat' split
          all_goals first | rfl | (split at c0 <;> omega)
        rw [c1, show kc 23 = 1 from rfl]
        simp (disch := omega) only [Tokens_kindOf_28, Tokens_kindOf_46, Tokens_kindOf_47, wr_id, ix_id, okx, if_pos, if_neg, Int.toNat_of_nonneg, bak_v, bak_n, wr_b01, wr_bt, b01_or, b01_0, b01_1, lc_lt0, lc_gt0, lc_eq0, wl_wr, wr_wr, wl_id, true_and, and_true, true_or, or_true, not_true_eq_false, not_false_eq_true, nc0, nc1, nc2, nc3, nc4, nc5, nc6, nc7, nc8, nc9, nc10, nc11, nc12, nc13, nc14, nc15, nc16, nc17, nc18, nc19, nc20, nc21, nc22, nc23, nc35, nc47, nc59, nc60, nc61, nc73, nc74, nc214, nc215, nc1115, nc2230, nc3345, if_true, if_false, Int.reduceToNat]
theorem c_st_1 {d w : Nat} {T : Int → Int} {n : Int} : ∀ p, 0 ≤ p → p ≤ n → ∀ h, CX h w T n → hI h 9 2 = p → ∃ h', EX (d) m_Tokens_step 0 [(0, .inr (.inr (9)))] [] (h) = EX (d) m_Tokens_step 52 [(0, .inr (.inr (9)))] [] (h') ∧ hI h' 9 2 = adv (qB T) p n ∧ Fr (fun a k => a = 9 ∧ k = 2) h h' := by
  refine up_ind (hi := n) ?_ ?_
  · intro p hp p0 p1 h x h2
    have hc := x.1
    have h1 := x.2.2.2.2.2.1
    have nr := x.2.2.2.2.2.2
    refine ⟨h, ?_, by rw [adv_stop hp, h2], Fr.rf⟩
    rw [Tokens_step_0]
    simp (disch := omega) only [wr_id, ix_id, okx, if_pos, if_neg, Int.toNat_of_nonneg, bak_v, bak_n, wr_b01, wr_bt, b01_or, b01_0, b01_1, lc_lt0, lc_gt0, lc_eq0, wl_wr, wr_wr, wl_id, true_and, and_true, true_or, or_true, not_true_eq_false, not_false_eq_true, nc0, nc1, nc2, nc3, nc4, nc5, nc6, nc7, nc8, nc9, nc10, nc11, nc12, nc13, nc14, nc15, nc16, nc17, nc18, nc19, nc20, nc21, nc22, nc23, nc35, nc47, nc59, nc60, nc61, nc73, nc74, nc214, nc215, nc1115, nc2230, nc3345, if_true, if_false, Int.reduceToNat, hc.k9, h1, h2]
  · intro p hp ih p0 p1 h x h2
    have hc := x.1
    have h1 := x.2.2.2.2.2.1
    have nr := x.2.2.2.2.2.2
    have r0 := x.2.2.1
    have tt := x.t p0 hp
    have tr := x.2.2.2.2.1 p
    have sr := sb_rng (T p) tr
    by_cases c : T p = 10 ∨ T p = 32
    · have qc : qB T p = true := by unfold qB; simp only [decide_eq_true_eq]; exact c
      have f0 : Fr (fun a k => a = 9 ∧ k = 2) h (pI h 9 2 (p + 1)) := Fr.pI Fr.rf ⟨rfl, rfl⟩
      obtain ⟨h2', e2, k2, f2⟩ := ih (by omega) (by omega) _ (x.k f0 (fun a k z => by unfold pCk; omega)) (by rw [hI_pI, if_pos ⟨rfl, rfl⟩])
      refine ⟨h2', ?_, by rw [adv_go hp qc]; exact k2, f0.tr f2⟩
      rw [Tokens_step_0]
      by_cases c1 : T p = 32
      · have s1 : sb (T p) = 32 := (sb_pos tr (by omega)).mpr c1
        rw [s1] at tt
        simp (disch := omega) only [Tokens_step_11, Tokens_step_39, Tokens_step_49, wr_id, ix_id, okx, if_pos, if_neg, Int.toNat_of_nonneg, bak_v, bak_n, wr_b01, wr_bt, b01_or, b01_0, b01_1, lc_lt0, lc_gt0, lc_eq0, wl_wr, wr_wr, wl_id, true_and, and_true, true_or, or_true, not_true_eq_false, not_false_eq_true, nc0, nc1, nc2, nc3, nc4, nc5, nc6, nc7, nc8, nc9, nc10, nc11, nc12, nc13, nc14, nc15, nc16, nc17, nc18, nc19, nc20, nc21, nc22, nc23, nc35, nc47, nc59, nc60, nc61, nc73, nc74, nc214, nc215, nc1115, nc2230, nc3345, if_true, if_false, Int.reduceToNat, hc.k6, hc.r5, hc.r6, hc.r0, hc.r2, hc.r7, hc.r8, hc.r9, hc.r10, hc.r11, hc.r12, hc.r13, hc.r14, hc.r15, hc.r16, hc.r17, hc.r18, hc.r8_0, hc.r8_1, hc.r11_0, hc.r11_1, hc.r60_0, hc.r60_1, hc.r60_4, hc.r64_0, hc.r64_3, hc.r64_4, hc.r68_0, hc.r41_0, hc.r41_1, hc.r42_0, hc.r42_1, hc.k7, hc.k8, hc.k9, hc.k11, hc.k12, hc.k13, hc.k32, hc.k41, hc.k42, hc.k43, hc.k60, hc.k61, hc.k62, hc.k63, hc.k64, hc.k65, hc.k66, hc.k67, hc.k68, hc.k69, hc.k70, hc.k71, hc.n6, hc.n7, hc.n8, hc.n9, hc.n11, hc.n12, hc.n13, hc.n32, hc.n41, hc.n42, hc.n43, hc.n60, hc.n61, hc.n62, hc.n63, hc.n64, hc.n65, hc.n66, hc.n67, hc.n68, hc.n69, hc.n70, hc.n71, h1, h2, r0, tt]
        exact e2
      · have s1 : sb (T p) = 10 := (sb_pos tr (by omega)).mpr (by omega)
        rw [s1] at tt
        simp (disch := omega) only [Tokens_step_11, Tokens_step_25, Tokens_step_39, Tokens_step_49, wr_id, ix_id, okx, if_pos, if_neg, Int.toNat_of_nonneg, bak_v, bak_n, wr_b01, wr_bt, b01_or, b01_0, b01_1, lc_lt0, lc_gt0, lc_eq0, wl_wr, wr_wr, wl_id, true_and, and_true, true_or, or_true, not_true_eq_false, not_false_eq_true, nc0, nc1, nc2, nc3, nc4, nc5, nc6, nc7, nc8, nc9, nc10, nc11, nc12, nc13, nc14, nc15, nc16, nc17, nc18, nc19, nc20, nc21, nc22, nc23, nc35, nc47, nc59, nc60, nc61, nc73, nc74, nc214, nc215, nc1115, nc2230, nc3345, if_true, if_false, Int.reduceToNat, hc.k6, hc.r5, hc.r6, hc.r0, hc.r2, hc.r7, hc.r8, hc.r9, hc.r10, hc.r11, hc.r12, hc.r13, hc.r14, hc.r15, hc.r16, hc.r17, hc.r18, hc.r8_0, hc.r8_1, hc.r11_0, hc.r11_1, hc.r60_0, hc.r60_1, hc.r60_4, hc.r64_0, hc.r64_3, hc.r64_4, hc.r68_0, hc.r41_0, hc.r41_1, hc.r42_0, hc.r42_1, hc.k7, hc.k8, hc.k9, hc.k11, hc.k12, hc.k13, hc.k32, hc.k41, hc.k42, hc.k43, hc.k60, hc.k61, hc.k62, hc.k63, hc.k64, hc.k65, hc.k66, hc.k67, hc.k68, hc.k69, hc.k70, hc.k71, hc.n6, hc.n7, hc.n8, hc.n9, hc.n11, hc.n12, hc.n13, hc.n32, hc.n41, hc.n42, hc.n43, hc.n60, hc.n61, hc.n62, hc.n63, hc.n64, hc.n65, hc.n66, hc.n67, hc.n68, hc.n69, hc.n70, hc.n71, h1, h2, r0, tt]
        exact e2
    · have qc : ¬ qB T p = true := by unfold qB; simp only [decide_eq_true_eq]; exact c
      have s1 : ¬ sb (T p) = 32 := fun z => c (Or.inr ((sb_pos tr (by omega)).mp z))
      have s2 : ¬ sb (T p) = 10 := fun z => c (Or.inl ((sb_pos tr (by omega)).mp z))
      refine ⟨h, ?_, by rw [adv_no hp qc, h2], Fr.rf⟩
      rw [Tokens_step_0]
      simp (disch := omega) only [Tokens_step_11, Tokens_step_25, wr_id, ix_id, okx, if_pos, if_neg, Int.toNat_of_nonneg, bak_v, bak_n, wr_b01, wr_bt, b01_or, b01_0, b01_1, lc_lt0, lc_gt0, lc_eq0, wl_wr, wr_wr, wl_id, true_and, and_true, true_or, or_true, not_true_eq_false, not_false_eq_true, nc0, nc1, nc2, nc3, nc4, nc5, nc6, nc7, nc8, nc9, nc10, nc11, nc12, nc13, nc14, nc15, nc16, nc17, nc18, nc19, nc20, nc21, nc22, nc23, nc35, nc47, nc59, nc60, nc61, nc73, nc74, nc214, nc215, nc1115, nc2230, nc3345, if_true, if_false, Int.reduceToNat, hc.k6, hc.r5, hc.r6, hc.r0, hc.r2, hc.r7, hc.r8, hc.r9, hc.r10, hc.r11, hc.r12, hc.r13, hc.r14, hc.r15, hc.r16, hc.r17, hc.r18, hc.r8_0, hc.r8_1, hc.r11_0, hc.r11_1, hc.r60_0, hc.r60_1, hc.r60_4, hc.r64_0, hc.r64_3, hc.r64_4, hc.r68_0, hc.r41_0, hc.r41_1, hc.r42_0, hc.r42_1, hc.k7, hc.k8, hc.k9, hc.k11, hc.k12, hc.k13, hc.k32, hc.k41, hc.k42, hc.k43, hc.k60, hc.k61, hc.k62, hc.k63, hc.k64, hc.k65, hc.k66, hc.k67, hc.k68, hc.k69, hc.k70, hc.k71, hc.n6, hc.n7, hc.n8, hc.n9, hc.n11, hc.n12, hc.n13, hc.n32, hc.n41, hc.n42, hc.n43, hc.n60, hc.n61, hc.n62, hc.n63, hc.n64, hc.n65, hc.n66, hc.n67, hc.n68, hc.n69, hc.n70, hc.n71, h1, h2, r0, tt]
theorem c_st_2 {d w : Nat} {T : Int → Int} {n K : Int} {q : Int → Bool} (hK : (K = 2 ∧ q = qD T) ∨ (K = 3 ∧ q = qL T)) : ∀ p, 0 ≤ p → p ≤ n → ∀ h, CX h w T n → hI h 9 2 = p → hI h 9 3 = K → ∃ h', EX (d+1) m_Tokens_step 102 [(0, .inr (.inr (9)))] [] (h) = EX (d+1) m_Tokens_step 161 [(0, .inr (.inr (9)))] [] (h') ∧ hI h' 9 2 = adv q p n ∧ Fr (fun a k => a = 9 ∧ k = 2) h h' := by
  refine up_ind (hi := n) ?_ ?_
  · intro p hp p0 p1 h x h2 h3
    have hc := x.1
    have h1 := x.2.2.2.2.2.1
    have nr := x.2.2.2.2.2.2
    refine ⟨h, ?_, by rw [adv_stop hp, h2], Fr.rf⟩
    rw [Tokens_step_102]
    simp (disch := omega) only [wr_id, ix_id, okx, if_pos, if_neg, Int.toNat_of_nonneg, bak_v, bak_n, wr_b01, wr_bt, b01_or, b01_0, b01_1, lc_lt0, lc_gt0, lc_eq0, wl_wr, wr_wr, wl_id, true_and, and_true, true_or, or_true, not_true_eq_false, not_false_eq_true, nc0, nc1, nc2, nc3, nc4, nc5, nc6, nc7, nc8, nc9, nc10, nc11, nc12, nc13, nc14, nc15, nc16, nc17, nc18, nc19, nc20, nc21, nc22, nc23, nc35, nc47, nc59, nc60, nc61, nc73, nc74, nc214, nc215, nc1115, nc2230, nc3345, if_true, if_false, Int.reduceToNat, hc.k9, h1, h2]
  · intro p hp ih p0 p1 h x h2 h3
    have hc := x.1
    have h1 := x.2.2.2.2.2.1
    have nr := x.2.2.2.2.2.2
    have r0 := x.2.2.1
    have tt := x.t (by omega) hp
    have tr := x.2.2.2.2.1 p
    have ed := c_kind (d := d) (h := h) (t := T p) x.2.1 tr
    have kr := ckd_rng (T p)
    have qk : q p = true ↔ ckd (T p) = K := by
      rcases hK with ⟨e1, e2⟩ | ⟨e1, e2⟩
      · rw [e1, e2, ckd_2]
      · rw [e1, e2, ckd_3]
    generalize ckd (T p) = k0 at *
    by_cases c : q p = true
    · have e0 := qk.mp c
      subst e0
      have f0 : Fr (fun a k => a = 9 ∧ k = 2) h (pI h 9 2 (p + 1)) := Fr.pI Fr.rf ⟨rfl, rfl⟩
      obtain ⟨h2', e2, k2, f2⟩ := ih (by omega) (by omega) _ (x.k f0 (fun a k z => by unfold pCk; omega)) (by rw [hI_pI, if_pos ⟨rfl, rfl⟩]) (by rw [hI_pI, if_neg (by omega)]; exact h3)
      refine ⟨h2', ?_, by rw [adv_go hp c]; exact k2, f0.tr f2⟩
      rw [Tokens_step_102]
      rcases hK with ⟨e1, _⟩ | ⟨e1, _⟩
      · simp (disch := omega) only [Tokens_step_113, Tokens_step_129, Tokens_step_141, Tokens_step_148, Tokens_step_158, wr_id, ix_id, okx, if_pos, if_neg, Int.toNat_of_nonneg, bak_v, bak_n, wr_b01, wr_bt, b01_or, b01_0, b01_1, lc_lt0, lc_gt0, lc_eq0, wl_wr, wr_wr, wl_id, true_and, and_true, true_or, or_true, not_true_eq_false, not_false_eq_true, nc0, nc1, nc2, nc3, nc4, nc5, nc6, nc7, nc8, nc9, nc10, nc11, nc12, nc13, nc14, nc15, nc16, nc17, nc18, nc19, nc20, nc21, nc22, nc23, nc35, nc47, nc59, nc60, nc61, nc73, nc74, nc214, nc215, nc1115, nc2230, nc3345, if_true, if_false, Int.reduceToNat, hc.k6, hc.r5, hc.r6, hc.r0, hc.r2, hc.r7, hc.r8, hc.r9, hc.r10, hc.r11, hc.r12, hc.r13, hc.r14, hc.r15, hc.r16, hc.r17, hc.r18, hc.r8_0, hc.r8_1, hc.r11_0, hc.r11_1, hc.r60_0, hc.r60_1, hc.r60_4, hc.r64_0, hc.r64_3, hc.r64_4, hc.r68_0, hc.r41_0, hc.r41_1, hc.r42_0, hc.r42_1, hc.k7, hc.k8, hc.k9, hc.k11, hc.k12, hc.k13, hc.k32, hc.k41, hc.k42, hc.k43, hc.k60, hc.k61, hc.k62, hc.k63, hc.k64, hc.k65, hc.k66, hc.k67, hc.k68, hc.k69, hc.k70, hc.k71, hc.n6, hc.n7, hc.n8, hc.n9, hc.n11, hc.n12, hc.n13, hc.n32, hc.n41, hc.n42, hc.n43, hc.n60, hc.n61, hc.n62, hc.n63, hc.n64, hc.n65, hc.n66, hc.n67, hc.n68, hc.n69, hc.n70, hc.n71, h1, h2, h3, r0, tt, ed]
        exact e2
      · simp (disch := omega) only [Tokens_step_113, Tokens_step_121, Tokens_step_129, Tokens_step_141, Tokens_step_148, Tokens_step_158, wr_id, ix_id, okx, if_pos, if_neg, Int.toNat_of_nonneg, bak_v, bak_n, wr_b01, wr_bt, b01_or, b01_0, b01_1, lc_lt0, lc_gt0, lc_eq0, wl_wr, wr_wr, wl_id, true_and, and_true, true_or, or_true, not_true_eq_false, not_false_eq_true, nc0, nc1, nc2, nc3, nc4, nc5, nc6, nc7, nc8, nc9, nc10, nc11, nc12, nc13, nc14, nc15, nc16, nc17, nc18, nc19, nc20, nc21, nc22, nc23, nc35, nc47, nc59, nc60, nc61, nc73, nc74, nc214, nc215, nc1115, nc2230, nc3345, if_true, if_false, Int.reduceToNat, hc.k6, hc.r5, hc.r6, hc.r0, hc.r2, hc.r7, hc.r8, hc.r9, hc.r10, hc.r11, hc.r12, hc.r13, hc.r14, hc.r15, hc.r16, hc.r17, hc.r18, hc.r8_0, hc.r8_1, hc.r11_0, hc.r11_1, hc.r60_0, hc.r60_1, hc.r60_4, hc.r64_0, hc.r64_3, hc.r64_4, hc.r68_0, hc.r41_0, hc.r41_1, hc.r42_0, hc.r42_1, hc.k7, hc.k8, hc.k9, hc.k11, hc.k12, hc.k13, hc.k32, hc.k41, hc.k42, hc.k43, hc.k60, hc.k61, hc.k62, hc.k63, hc.k64, hc.k65, hc.k66, hc.k67, hc.k68, hc.k69, hc.k70, hc.k71, hc.n6, hc.n7, hc.n8, hc.n9, hc.n11, hc.n12, hc.n13, hc.n32, hc.n41, hc.n42, hc.n43, hc.n60, hc.n61, hc.n62, hc.n63, hc.n64, hc.n65, hc.n66, hc.n67, hc.n68, hc.n69, hc.n70, hc.n71, h1, h2, h3, r0, tt, ed]
        exact e2
    · have e0 : ¬ k0 = K := fun z => c (qk.mpr z)
      refine ⟨h, ?_, by rw [adv_no hp c, h2], Fr.rf⟩
      rw [Tokens_step_102]
      rcases hK with ⟨e1, _⟩ | ⟨e1, _⟩
      · simp (disch := omega) only [Tokens_step_113, Tokens_step_129, Tokens_step_141, wr_id, ix_id, okx, if_pos, if_neg, Int.toNat_of_nonneg, bak_v, bak_n, wr_b01, wr_bt, b01_or, b01_0, b01_1, lc_lt0, lc_gt0, lc_eq0, wl_wr, wr_wr, wl_id, true_and, and_true, true_or, or_true, not_true_eq_false, not_false_eq_true, nc0, nc1, nc2, nc3, nc4, nc5, nc6, nc7, nc8, nc9, nc10, nc11, nc12, nc13, nc14, nc15, nc16, nc17, nc18, nc19, nc20, nc21, nc22, nc23, nc35, nc47, nc59, nc60, nc61, nc73, nc74, nc214, nc215, nc1115, nc2230, nc3345, if_true, if_false, Int.reduceToNat, hc.k6, hc.r5, hc.r6, hc.r0, hc.r2, hc.r7, hc.r8, hc.r9, hc.r10, hc.r11, hc.r12, hc.r13, hc.r14, hc.r15, hc.r16, hc.r17, hc.r18, hc.r8_0, hc.r8_1, hc.r11_0, hc.r11_1, hc.r60_0, hc.r60_1, hc.r60_4, hc.r64_0, hc.r64_3, hc.r64_4, hc.r68_0, hc.r41_0, hc.r41_1, hc.r42_0, hc.r42_1, hc.k7, hc.k8, hc.k9, hc.k11, hc.k12, hc.k13, hc.k32, hc.k41, hc.k42, hc.k43, hc.k60, hc.k61, hc.k62, hc.k63, hc.k64, hc.k65, hc.k66, hc.k67, hc.k68, hc.k69, hc.k70, hc.k71, hc.n6, hc.n7, hc.n8, hc.n9, hc.n11, hc.n12, hc.n13, hc.n32, hc.n41, hc.n42, hc.n43, hc.n60, hc.n61, hc.n62, hc.n63, hc.n64, hc.n65, hc.n66, hc.n67, hc.n68, hc.n69, hc.n70, hc.n71, h1, h2, h3, r0, tt, ed]
      · simp (disch := omega) only [Tokens_step_113, Tokens_step_121, Tokens_step_129, Tokens_step_141, wr_id, ix_id, okx, if_pos, if_neg, Int.toNat_of_nonneg, bak_v, bak_n, wr_b01, wr_bt, b01_or, b01_0, b01_1, lc_lt0, lc_gt0, lc_eq0, wl_wr, wr_wr, wl_id, true_and, and_true, true_or, or_true, not_true_eq_false, not_false_eq_true, nc0, nc1, nc2, nc3, nc4, nc5, nc6, nc7, nc8, nc9, nc10, nc11, nc12, nc13, nc14, nc15, nc16, nc17, nc18, nc19, nc20, nc21, nc22, nc23, nc35, nc47, nc59, nc60, nc61, nc73, nc74, nc214, nc215, nc1115, nc2230, nc3345, if_true, if_false, Int.reduceToNat, hc.k6, hc.r5, hc.r6, hc.r0, hc.r2, hc.r7, hc.r8, hc.r9, hc.r10, hc.r11, hc.r12, hc.r13, hc.r14, hc.r15, hc.r16, hc.r17, hc.r18, hc.r8_0, hc.r8_1, hc.r11_0, hc.r11_1, hc.r60_0, hc.r60_1, hc.r60_4, hc.r64_0, hc.r64_3, hc.r64_4, hc.r68_0, hc.r41_0, hc.r41_1, hc.r42_0, hc.r42_1, hc.k7, hc.k8, hc.k9, hc.k11, hc.k12, hc.k13, hc.k32, hc.k41, hc.k42, hc.k43, hc.k60, hc.k61, hc.k62, hc.k63, hc.k64, hc.k65, hc.k66, hc.k67, hc.k68, hc.k69, hc.k70, hc.k71, hc.n6, hc.n7, hc.n8, hc.n9, hc.n11, hc.n12, hc.n13, hc.n32, hc.n41, hc.n42, hc.n43, hc.n60, hc.n61, hc.n62, hc.n63, hc.n64, hc.n65, hc.n66, hc.n67, hc.n68, hc.n69, hc.n70, hc.n71, h1, h2, h3, r0, tt, ed]
theorem c_num {d w : Nat} {T : Int → Int} {n a e : Int} (a0 : 0 ≤ a ∧ e ≤ n) : ∀ p, a ≤ p → p ≤ e → ∀ h v, CX h w T n → (∀ k, p ≤ k → k < e → qD T k = true) → hI h 9 2 = e → hI h 9 4 = v → ∃ h', EX (d) m_Tokens_readNumber 29 [(0, .inr (.inr (9))), (1, .inl (p))] [] (h) = some (.inl 0, h') ∧ hI h' 9 4 = fo (fun k m => 10 * m + T k - 48) p e v ∧ Fr (fun a k => a = 9 ∧ k = 4) h h' := by
  refine up_ind (hi := e) ?_ ?_
  · intro p hp p0 p1 h v x hq h2 h4
    have hc := x.1
    have nr := x.2.2.2.2.2.2
    refine ⟨h, ?_, by rw [fo_stop hp, h4], Fr.rf⟩
    rw [Tokens_readNumber_29]
    simp (disch := omega) only [Tokens_readNumber_64, wr_id, ix_id, okx, if_pos, if_neg, Int.toNat_of_nonneg, bak_v, bak_n, wr_b01, wr_bt, b01_or, b01_0, b01_1, lc_lt0, lc_gt0, lc_eq0, wl_wr, wr_wr, wl_id, true_and, and_true, true_or, or_true, not_true_eq_false, not_false_eq_true, nc0, nc1, nc2, nc3, nc4, nc5, nc6, nc7, nc8, nc9, nc10, nc11, nc12, nc13, nc14, nc15, nc16, nc17, nc18, nc19, nc20, nc21, nc22, nc23, nc35, nc47, nc59, nc60, nc61, nc73, nc74, nc214, nc215, nc1115, nc2230, nc3345, if_true, if_false, Int.reduceToNat, hc.k9, h2]
  · intro p hp ih p0 p1 h v x hq h2 h4
    have hc := x.1
    have nr := x.2.2.2.2.2.2
    have r0 := x.2.2.1
    have tt := x.t (k := p) (by omega) (by omega)
    have tr := x.2.2.2.2.1 p
    have c := hq p (Int.le_refl _) hp
    unfold qD at c
    simp only [decide_eq_true_eq] at c
    have st : sb (T p) = T p := (sb_pos tr (by omega)).mpr rfl
    rw [st] at tt
    have f0 : Fr (fun a k => a = 9 ∧ k = 4) h (pI h 9 4 (10 * v + T p - 48)) := Fr.pI Fr.rf ⟨rfl, rfl⟩
    obtain ⟨h2', e3, l2, f2⟩ := ih (by omega) (by omega) _ (10 * v + T p - 48) (x.k f0 (fun a k z => by unfold pCk; omega)) (fun k k0 k1 => hq k (by omega) k1) (by rw [hI_pI, if_neg (by omega)]; exact h2) (by rw [hI_pI, if_pos ⟨rfl, rfl⟩])
    refine ⟨h2', ?_, by rw [fo_step hp]; exact l2, f0.tr f2⟩
    rw [Tokens_readNumber_29]
    simp (disch := omega) only [Tokens_readNumber_37, Tokens_readNumber_58, wr_id, ix_id, okx, if_pos, if_neg, Int.toNat_of_nonneg, bak_v, bak_n, wr_b01, wr_bt, b01_or, b01_0, b01_1, lc_lt0, lc_gt0, lc_eq0, wl_wr, wr_wr, wl_id, true_and, and_true, true_or, or_true, not_true_eq_false, not_false_eq_true, nc0, nc1, nc2, nc3, nc4, nc5, nc6, nc7, nc8, nc9, nc10, nc11, nc12, nc13, nc14, nc15, nc16, nc17, nc18, nc19, nc20, nc21, nc22, nc23, nc35, nc47, nc59, nc60, nc61, nc73, nc74, nc214, nc215, nc1115, nc2230, nc3345, if_true, if_false, Int.reduceToNat, hc.k6, hc.r5, hc.r6, hc.r0, hc.r2, hc.r7, hc.r8, hc.r9, hc.r10, hc.r11, hc.r12, hc.r13, hc.r14, hc.r15, hc.r16, hc.r17, hc.r18, hc.r8_0, hc.r8_1, hc.r11_0, hc.r11_1, hc.r60_0, hc.r60_1, hc.r60_4, hc.r64_0, hc.r64_3, hc.r64_4, hc.r68_0, hc.r41_0, hc.r41_1, hc.r42_0, hc.r42_1, hc.k7, hc.k8, hc.k9, hc.k11, hc.k12, hc.k13, hc.k32, hc.k41, hc.k42, hc.k43, hc.k60, hc.k61, hc.k62, hc.k63, hc.k64, hc.k65, hc.k66, hc.k67, hc.k68, hc.k69, hc.k70, hc.k71, hc.n6, hc.n7, hc.n8, hc.n9, hc.n11, hc.n12, hc.n13, hc.n32, hc.n41, hc.n42, hc.n43, hc.n60, hc.n61, hc.n62, hc.n63, hc.n64, hc.n65, hc.n66, hc.n67, hc.n68, hc.n69, hc.n70, hc.n71, h2, h4, r0, tt]
    rw [show v * 10 + T p - 48 = 10 * v + T p - 48 by omega]
    exact e3
theorem tx0_rng : ∀ k : Fin 88, 0 ≤ txF 0 (k.1 : Int) ∧ txF 0 (k.1 : Int) ≤ 127 := by decide +kernel
/-- the rest of a word that is unlike -/
theorem c_word_2 {d w : Nat} {h : Hp} {T : Int → Int} {n a b : Int} (x : CX h w T n) (h5 : hI h 9 5 = a) (h2 : hI h 9 2 = b) (h3 : hI h 9 3 = 3) (hab : 0 ≤ a ∧ a ≤ b ∧ b ≤ n) {wd : Int} : ∀ (l : List Int) (i k : Int), 0 ≤ k → k + l.length < 88 → SLr (txF 0) k l = true → EX (d) m_Tokens_findWord 14 [(0, .inr (.inr (9))), (1, .inl (wd)), (2, .inl (i)), (3, .inl (0)), (4, .inl (k))] [] (h) = EX (d) m_Tokens_findWord 14 [(0, .inr (.inr (9))), (1, .inl (wd + 1)), (2, .inl (a)), (3, .inl (1)), (4, .inl (k + l.length + 1))] [] (h) := by
  have hc := x.1
  have st := x.2.1
  have sl2 : sL h 2 = 88 := by rw [sL_eq, st.2.1.1]; rfl
  intro l
  induction l with
  | nil =>
    intro i k k0 hl sl
    simp only [SLr, decide_eq_true_eq] at sl
    simp only [List.length_nil] at hl
    have e4 := st.2.2.1 k.toNat
    rw [Int.toNat_of_nonneg k0, sl] at e4
    rw [Tokens_findWord_14]
    simp (disch := omega) only [Tokens_findWord_24, Tokens_findWord_32, Tokens_findWord_83, Tokens_findWord_103, Tokens_findWord_113, wr_id, ix_id, okx, if_pos, if_neg, Int.toNat_of_nonneg, bak_v, bak_n, wr_b01, wr_bt, b01_or, b01_0, b01_1, lc_lt0, lc_gt0, lc_eq0, wl_wr, wr_wr, wl_id, true_and, and_true, true_or, or_true, not_true_eq_false, not_false_eq_true, nc0, nc1, nc2, nc3, nc4, nc5, nc6, nc7, nc8, nc9, nc10, nc11, nc12, nc13, nc14, nc15, nc16, nc17, nc18, nc19, nc20, nc21, nc22, nc23, nc35, nc47, nc59, nc60, nc61, nc73, nc74, nc214, nc215, nc1115, nc2230, nc3345, if_true, if_false, Int.reduceToNat, cs0, cs1, st.1.1, st.2.1.1, sl2, hc.k9, h3, h5, e4, List.length_nil, Int.add_zero]
  | cons c r ih =>
    intro i k k0 hl sl
    simp only [SLr, Bool.and_eq_true, decide_eq_true_eq, Bool.not_eq_true', decide_eq_false_iff_not] at sl
    simp only [List.length_cons] at hl
    obtain ⟨s1, s2, s4, s3⟩ := sl
    have e4 := st.2.2.1 k.toNat
    rw [Int.toNat_of_nonneg k0, s1] at e4
    have ih := ih (i + 1) (k + 1) (by omega) (by omega) s3
    rw [Tokens_findWord_14]
    simp (disch := omega) only [Tokens_findWord_24, Tokens_findWord_32, Tokens_findWord_48, Tokens_findWord_75, Tokens_findWord_76, Tokens_findWord_113, wr_id, ix_id, okx, if_pos, if_neg, Int.toNat_of_nonneg, bak_v, bak_n, wr_b01, wr_bt, b01_or, b01_0, b01_1, lc_lt0, lc_gt0, lc_eq0, wl_wr, wr_wr, wl_id, true_and, and_true, true_or, or_true, not_true_eq_false, not_false_eq_true, nc0, nc1, nc2, nc3, nc4, nc5, nc6, nc7, nc8, nc9, nc10, nc11, nc12, nc13, nc14, nc15, nc16, nc17, nc18, nc19, nc20, nc21, nc22, nc23, nc35, nc47, nc59, nc60, nc61, nc73, nc74, nc214, nc215, nc1115, nc2230, nc3345, if_true, if_false, Int.reduceToNat, cs0, cs1, st.1.1, st.2.1.1, sl2, hc.k9, h3, e4]
    refine ih.trans ?_
    congr 1
    simp only [List.length_cons]
    rw [show k + 1 + (r.length : Int) + 1 = k + ((r.length + 1 : Nat) : Int) + 1 by omega]
theorem c_word_3 {d w : Nat} {h : Hp} {T : Int → Int} {n a b : Int} (x : CX h w T n) (h5 : hI h 9 5 = a) (h2 : hI h 9 2 = b) (h3 : hI h 9 3 = 3) (hab : 0 ≤ a ∧ a ≤ b ∧ b ≤ n) {wd : Int} (hw : 128 ≤ wd ∧ wd ≤ 146) : ∀ (l : List Int) (i k : Int), a ≤ i → i ≤ b → 0 ≤ k → k + l.length < 88 → SLr (txF 0) k l = true → EX (d) m_Tokens_findWord 14 [(0, .inr (.inr (9))), (1, .inl (wd)), (2, .inl (i)), (3, .inl (1)), (4, .inl (k))] [] (h) = if txt T i b = l then some (.inl 0, pI h 9 3 wd) else EX (d) m_Tokens_findWord 14 [(0, .inr (.inr (9))), (1, .inl (wd + 1)), (2, .inl (a)), (3, .inl (1)), (4, .inl (k + l.length + 1))] [] (h) := by
  have hc := x.1
  have st := x.2.1
  have nr := x.2.2.2.2.2.2
  have r0 := x.2.2.1
  have sl2 : sL h 2 = 88 := by rw [sL_eq, st.2.1.1]; rfl
  intro l
  induction l with
  | nil =>
    intro i k i0 i1 k0 hl sl
    simp only [SLr, decide_eq_true_eq] at sl
    simp only [List.length_nil] at hl
    have e4 := st.2.2.1 k.toNat
    rw [Int.toNat_of_nonneg k0, sl] at e4
    rw [Tokens_findWord_14]
    by_cases c : i = b
    · rw [if_pos (show txt T i b = [] from txt_nil (by omega))]
      simp (disch := omega) only [Tokens_findWord_24, Tokens_findWord_32, Tokens_findWord_83, Tokens_findWord_87, Tokens_findWord_95, Tokens_findWord_100, Tokens_findWord_113, wr_id, ix_id, okx, if_pos, if_neg, Int.toNat_of_nonneg, bak_v, bak_n, wr_b01, wr_bt, b01_or, b01_0, b01_1, lc_lt0, lc_gt0, lc_eq0, wl_wr, wr_wr, wl_id, true_and, and_true, true_or, or_true, not_true_eq_false, not_false_eq_true, nc0, nc1, nc2, nc3, nc4, nc5, nc6, nc7, nc8, nc9, nc10, nc11, nc12, nc13, nc14, nc15, nc16, nc17, nc18, nc19, nc20, nc21, nc22, nc23, nc35, nc47, nc59, nc60, nc61, nc73, nc74, nc214, nc215, nc1115, nc2230, nc3345, if_true, if_false, Int.reduceToNat, cs0, cs1, st.1.1, st.2.1.1, sl2, hc.k9, h2, h3, e4]
      rw [Tokens_findWord_14]
      have sl2' : sL (pI h 9 3 wd) 2 = 88 := sl2
      by_cases c2 : k + 1 < 88
      · simp (disch := omega) only [Tokens_findWord_24, Tokens_findWord_119, wr_id, ix_id, okx, if_pos, if_neg, Int.toNat_of_nonneg, bak_v, bak_n, wr_b01, wr_bt, b01_or, b01_0, b01_1, lc_lt0, lc_gt0, lc_eq0, wl_wr, wr_wr, wl_id, true_and, and_true, true_or, or_true, not_true_eq_false, not_false_eq_true, nc0, nc1, nc2, nc3, nc4, nc5, nc6, nc7, nc8, nc9, nc10, nc11, nc12, nc13, nc14, nc15, nc16, nc17, nc18, nc19, nc20, nc21, nc22, nc23, nc35, nc47, nc59, nc60, nc61, nc73, nc74, nc214, nc215, nc1115, nc2230, nc3345, if_true, if_false, Int.reduceToNat, cs0, cs1, sK_pI, st.1.1, sl2', hc.k9, hI_pI, and_self]
      · simp (disch := omega) only [Tokens_findWord_119, wr_id, ix_id, okx, if_pos, if_neg, Int.toNat_of_nonneg, bak_v, bak_n, wr_b01, wr_bt, b01_or, b01_0, b01_1, lc_lt0, lc_gt0, lc_eq0, wl_wr, wr_wr, wl_id, true_and, and_true, true_or, or_true, not_true_eq_false, not_false_eq_true, nc0, nc1, nc2, nc3, nc4, nc5, nc6, nc7, nc8, nc9, nc10, nc11, nc12, nc13, nc14, nc15, nc16, nc17, nc18, nc19, nc20, nc21, nc22, nc23, nc35, nc47, nc59, nc60, nc61, nc73, nc74, nc214, nc215, nc1115, nc2230, nc3345, if_true, if_false, Int.reduceToNat, cs0, cs1, sK_pI, st.1.1, sl2']
    · have nt : ¬ txt T i b = [] := by rw [txt_cons (by omega)]; exact List.cons_ne_nil _ _
      rw [if_neg nt]
      simp (disch := omega) only [Tokens_findWord_24, Tokens_findWord_32, Tokens_findWord_83, Tokens_findWord_87, Tokens_findWord_103, Tokens_findWord_113, wr_id, ix_id, okx, if_pos, if_neg, Int.toNat_of_nonneg, bak_v, bak_n, wr_b01, wr_bt, b01_or, b01_0, b01_1, lc_lt0, lc_gt0, lc_eq0, wl_wr, wr_wr, wl_id, true_and, and_true, true_or, or_true, not_true_eq_false, not_false_eq_true, nc0, nc1, nc2, nc3, nc4, nc5, nc6, nc7, nc8, nc9, nc10, nc11, nc12, nc13, nc14, nc15, nc16, nc17, nc18, nc19, nc20, nc21, nc22, nc23, nc35, nc47, nc59, nc60, nc61, nc73, nc74, nc214, nc215, nc1115, nc2230, nc3345, if_true, if_false, Int.reduceToNat, cs0, cs1, st.1.1, st.2.1.1, sl2, hc.k9, h2, h3, h5, e4, List.length_nil, Int.add_zero]
  | cons c r ih =>
    intro i k i0 i1 k0 hl sl
    simp only [SLr, Bool.and_eq_true, decide_eq_true_eq, Bool.not_eq_true', decide_eq_false_iff_not] at sl
    simp only [List.length_cons] at hl
    obtain ⟨s1, s2, s4, s3⟩ := sl
    have e4 := st.2.2.1 k.toNat
    rw [Int.toNat_of_nonneg k0, s1] at e4
    have el : (k + 1 + (r.length : Int) + 1) = k + ((c :: r).length : Nat) + 1 := by simp only [List.length_cons]; omega
    have no := c_word_2 (d := d) (wd := wd) x h5 h2 h3 hab r (i + 1) (k + 1) (by omega) (by omega) s3
    rw [el] at no
    rw [Tokens_findWord_14]
    by_cases c1 : i < b
    · have tt := x.t (k := i) (by omega) (by omega)
      have tr := x.2.2.2.2.1 i
      have sr := sb_rng (T i) tr
      by_cases c2 : sb (T i) = c
      · have c3 : T i = c := by have := (sr.2.2 (by omega)).1; omega
        have ih := ih (i + 1) (k + 1) (by omega) (by omega) (by omega) (by omega) s3
        rw [el] at ih
        have et : (txt T i b = c :: r) = (txt T (i + 1) b = r) := by
          rw [txt_cons c1, c3]
          simp
        simp only [et]
        rw [c2] at tt
        simp (disch := omega) only [Tokens_findWord_24, Tokens_findWord_32, Tokens_findWord_48, Tokens_findWord_52, Tokens_findWord_60, Tokens_findWord_71, Tokens_findWord_76, Tokens_findWord_113, wr_id, ix_id, okx, if_pos, if_neg, Int.toNat_of_nonneg, bak_v, bak_n, wr_b01, wr_bt, b01_or, b01_0, b01_1, lc_lt0, lc_gt0, lc_eq0, wl_wr, wr_wr, wl_id, true_and, and_true, true_or, or_true, not_true_eq_false, not_false_eq_true, nc0, nc1, nc2, nc3, nc4, nc5, nc6, nc7, nc8, nc9, nc10, nc11, nc12, nc13, nc14, nc15, nc16, nc17, nc18, nc19, nc20, nc21, nc22, nc23, nc35, nc47, nc59, nc60, nc61, nc73, nc74, nc214, nc215, nc1115, nc2230, nc3345, if_true, if_false, Int.reduceToNat, hc.k6, hc.r5, hc.r6, hc.r0, hc.r2, hc.r7, hc.r8, hc.r9, hc.r10, hc.r11, hc.r12, hc.r13, hc.r14, hc.r15, hc.r16, hc.r17, hc.r18, hc.r8_0, hc.r8_1, hc.r11_0, hc.r11_1, hc.r60_0, hc.r60_1, hc.r60_4, hc.r64_0, hc.r64_3, hc.r64_4, hc.r68_0, hc.r41_0, hc.r41_1, hc.r42_0, hc.r42_1, hc.k7, hc.k8, hc.k9, hc.k11, hc.k12, hc.k13, hc.k32, hc.k41, hc.k42, hc.k43, hc.k60, hc.k61, hc.k62, hc.k63, hc.k64, hc.k65, hc.k66, hc.k67, hc.k68, hc.k69, hc.k70, hc.k71, hc.n6, hc.n7, hc.n8, hc.n9, hc.n11, hc.n12, hc.n13, hc.n32, hc.n41, hc.n42, hc.n43, hc.n60, hc.n61, hc.n62, hc.n63, hc.n64, hc.n65, hc.n66, hc.n67, hc.n68, hc.n69, hc.n70, hc.n71, cs0, cs1, st.1.1, st.2.1.1, sl2, h2, h3, r0, e4, tt]
        exact ih
      · have nt : ¬ txt T i b = c :: r := by
          rw [txt_cons c1]
          intro z
          have z' : T i = c := by injection z
          have t0 := tx0_rng ⟨k.toNat, by omega⟩
          have e0 : (((⟨k.toNat, by omega⟩ : Fin 88).1 : Nat) : Int) = k := by show ((k.toNat : Nat) : Int) = k; omega
          rw [e0, s1] at t0
          refine c2 ?_
          unfold sb
          rw [if_pos (by omega)]
          exact z'
        rw [if_neg nt]
        simp (disch := omega) only [Tokens_findWord_24, Tokens_findWord_32, Tokens_findWord_48, Tokens_findWord_52, Tokens_findWord_60, Tokens_findWord_75, Tokens_findWord_76, Tokens_findWord_113, wr_id, ix_id, okx, if_pos, if_neg, Int.toNat_of_nonneg, bak_v, bak_n, wr_b01, wr_bt, b01_or, b01_0, b01_1, lc_lt0, lc_gt0, lc_eq0, wl_wr, wr_wr, wl_id, true_and, and_true, true_or, or_true, not_true_eq_false, not_false_eq_true, nc0, nc1, nc2, nc3, nc4, nc5, nc6, nc7, nc8, nc9, nc10, nc11, nc12, nc13, nc14, nc15, nc16, nc17, nc18, nc19, nc20, nc21, nc22, nc23, nc35, nc47, nc59, nc60, nc61, nc73, nc74, nc214, nc215, nc1115, nc2230, nc3345, if_true, if_false, Int.reduceToNat, hc.k6, hc.r5, hc.r6, hc.r0, hc.r2, hc.r7, hc.r8, hc.r9, hc.r10, hc.r11, hc.r12, hc.r13, hc.r14, hc.r15, hc.r16, hc.r17, hc.r18, hc.r8_0, hc.r8_1, hc.r11_0, hc.r11_1, hc.r60_0, hc.r60_1, hc.r60_4, hc.r64_0, hc.r64_3, hc.r64_4, hc.r68_0, hc.r41_0, hc.r41_1, hc.r42_0, hc.r42_1, hc.k7, hc.k8, hc.k9, hc.k11, hc.k12, hc.k13, hc.k32, hc.k41, hc.k42, hc.k43, hc.k60, hc.k61, hc.k62, hc.k63, hc.k64, hc.k65, hc.k66, hc.k67, hc.k68, hc.k69, hc.k70, hc.k71, hc.n6, hc.n7, hc.n8, hc.n9, hc.n11, hc.n12, hc.n13, hc.n32, hc.n41, hc.n42, hc.n43, hc.n60, hc.n61, hc.n62, hc.n63, hc.n64, hc.n65, hc.n66, hc.n67, hc.n68, hc.n69, hc.n70, hc.n71, cs0, cs1, st.1.1, st.2.1.1, sl2, h2, h3, r0, e4, tt]
        exact no
    · have nt : ¬ txt T i b = c :: r := by rw [txt_nil (by omega)]; intro z; cases z
      rw [if_neg nt]
      simp (disch := omega) only [Tokens_findWord_24, Tokens_findWord_32, Tokens_findWord_48, Tokens_findWord_52, Tokens_findWord_75, Tokens_findWord_76, Tokens_findWord_113, wr_id, ix_id, okx, if_pos, if_neg, Int.toNat_of_nonneg, bak_v, bak_n, wr_b01, wr_bt, b01_or, b01_0, b01_1, lc_lt0, lc_gt0, lc_eq0, wl_wr, wr_wr, wl_id, true_and, and_true, true_or, or_true, not_true_eq_false, not_false_eq_true, nc0, nc1, nc2, nc3, nc4, nc5, nc6, nc7, nc8, nc9, nc10, nc11, nc12, nc13, nc14, nc15, nc16, nc17, nc18, nc19, nc20, nc21, nc22, nc23, nc35, nc47, nc59, nc60, nc61, nc73, nc74, nc214, nc215, nc1115, nc2230, nc3345, if_true, if_false, Int.reduceToNat, hc.k6, hc.r5, hc.r6, hc.r0, hc.r2, hc.r7, hc.r8, hc.r9, hc.r10, hc.r11, hc.r12, hc.r13, hc.r14, hc.r15, hc.r16, hc.r17, hc.r18, hc.r8_0, hc.r8_1, hc.r11_0, hc.r11_1, hc.r60_0, hc.r60_1, hc.r60_4, hc.r64_0, hc.r64_3, hc.r64_4, hc.r68_0, hc.r41_0, hc.r41_1, hc.r42_0, hc.r42_1, hc.k7, hc.k8, hc.k9, hc.k11, hc.k12, hc.k13, hc.k32, hc.k41, hc.k42, hc.k43, hc.k60, hc.k61, hc.k62, hc.k63, hc.k64, hc.k65, hc.k66, hc.k67, hc.k68, hc.k69, hc.k70, hc.k71, hc.n6, hc.n7, hc.n8, hc.n9, hc.n11, hc.n12, hc.n13, hc.n32, hc.n41, hc.n42, hc.n43, hc.n60, hc.n61, hc.n62, hc.n63, hc.n64, hc.n65, hc.n66, hc.n67, hc.n68, hc.n69, hc.n70, hc.n71, cs0, cs1, st.1.1, st.2.1.1, sl2, h2, h3, e4]
      exact no
theorem c_word_4 {d w : Nat} {h : Hp} {T : Int → Int} {n a b : Int} (x : CX h w T n) (h5 : hI h 9 5 = a) (h2 : hI h 9 2 = b) (h3 : hI h 9 3 = 3) (hab : 0 ≤ a ∧ a ≤ b ∧ b ≤ n) : ∀ (L : List (List Int)) (wd k : Int), 128 ≤ wd → wd + L.length ≤ 146 → 0 ≤ k → k ≤ 88 → SLw (txF 0) 88 k L = true → ∃ h', EX (d) m_Tokens_findWord 14 [(0, .inr (.inr (9))), (1, .inl (wd)), (2, .inl (a)), (3, .inl (1)), (4, .inl (k))] [] (h) = some (.inl 0, h') ∧ hI h' 9 3 = kwL L wd 3 (txt T a b) ∧ Fr (fun a k => a = 9 ∧ k = 3) h h' := by
  have st := x.2.1
  have sl2 : sL h 2 = 88 := by rw [sL_eq, st.2.1.1]; rfl
  intro L
  induction L with
  | nil =>
    intro wd k w0 w1 k0 k1 sl
    simp only [SLw, decide_eq_true_eq] at sl
    refine ⟨h, ?_, h3, Fr.rf⟩
    rw [Tokens_findWord_14]
    simp (disch := omega) only [Tokens_findWord_119, wr_id, ix_id, okx, if_pos, if_neg, Int.toNat_of_nonneg, bak_v, bak_n, wr_b01, wr_bt, b01_or, b01_0, b01_1, lc_lt0, lc_gt0, lc_eq0, wl_wr, wr_wr, wl_id, true_and, and_true, true_or, or_true, not_true_eq_false, not_false_eq_true, nc0, nc1, nc2, nc3, nc4, nc5, nc6, nc7, nc8, nc9, nc10, nc11, nc12, nc13, nc14, nc15, nc16, nc17, nc18, nc19, nc20, nc21, nc22, nc23, nc35, nc47, nc59, nc60, nc61, nc73, nc74, nc214, nc215, nc1115, nc2230, nc3345, if_true, if_false, Int.reduceToNat, cs1, st.1.1, sl2]
  | cons l r ih =>
    intro wd k w0 w1 k0 k1 sl
    simp only [SLw, Bool.and_eq_true, decide_eq_true_eq] at sl
    simp only [List.length_cons] at w1
    obtain ⟨s1, s2, s3⟩ := sl
    have e1 := c_word_3 (d := d) x h5 h2 h3 hab (wd := wd) (by omega) l a k (by omega) (by omega) k0 (by omega) s2
    simp only [kwL]
    by_cases c : txt T a b = l
    · rw [if_pos c] at e1
      rw [if_pos c]
      exact ⟨_, e1, by rw [hI_pI, if_pos ⟨rfl, rfl⟩], Fr.pI Fr.rf ⟨rfl, rfl⟩⟩
    · rw [if_neg c] at e1
      rw [if_neg c]
      obtain ⟨h', e3, k3, f3⟩ := ih (wd + 1) (k + l.length + 1) (by omega) (by omega) (by omega) (by omega) s3
      exact ⟨h', e1.trans e3, k3, f3⟩
theorem c_step {d w : Nat} {h : Hp} {T : Int → Int} {n p : Int} (x : CX h w T n) (h2 : hI h 9 2 = p) (hp : 0 ≤ p ∧ p ≤ n) : ∃ h', cal (d+3) m_Tokens_step [.inr (.inr (9))] (h) = some (.inl 0, h') ∧ CK h' T n (sk T n p) ∧ Fr pCk h h' := by
  obtain ⟨h1, e1, k1, f1⟩ := c_st_1 (d := d + 2) p hp.1 hp.2 h x h2
  have g1 : Fr pCk h h1 := f1.mo (fun a k z => by unfold pCk; omega)
  have x1 := x.k g1 (fun _ _ z => z)
  have sr := sk_rng (T := T) hp.2
  change hI h1 9 2 = sk T n p at k1
  generalize sk T n p = a at *
  have hc1 := x1.1
  have f2 : Fr pCk h1 (pI (pI h1 9 5 a) 9 3 0) := Fr.pI (Fr.pI Fr.rf ⟨rfl, Or.inr (Or.inr (Or.inr rfl))⟩) ⟨rfl, Or.inr (Or.inl rfl)⟩
  have x2 := x1.k f2 (fun _ _ z => z)
  have i2 : hI (pI (pI h1 9 5 a) 9 3 0) 9 2 = a := by rw [hI_pI, if_neg (by omega), hI_pI, if_neg (by omega)]; exact k1
  have i5 : hI (pI (pI h1 9 5 a) 9 3 0) 9 5 = a := by rw [hI_pI, if_neg (by omega), hI_pI, if_pos ⟨rfl, rfl⟩]
  have i3 : hI (pI (pI h1 9 5 a) 9 3 0) 9 3 = 0 := by rw [hI_pI, if_pos ⟨rfl, rfl⟩]
  have st : cal (d+3) m_Tokens_step [.inr (.inr (9))] (h) = EX (d+2) m_Tokens_step 65 [(0, .inr (.inr (9)))] [] (pI (pI h1 9 5 a) 9 3 0) := by
    refine e1.trans ?_
    simp (disch := omega) only [Tokens_step_52, Tokens_step_60, wr_id, ix_id, okx, if_pos, if_neg, Int.toNat_of_nonneg, bak_v, bak_n, wr_b01, wr_bt, b01_or, b01_0, b01_1, lc_lt0, lc_gt0, lc_eq0, wl_wr, wr_wr, wl_id, true_and, and_true, true_or, or_true, not_true_eq_false, not_false_eq_true, nc0, nc1, nc2, nc3, nc4, nc5, nc6, nc7, nc8, nc9, nc10, nc11, nc12, nc13, nc14, nc15, nc16, nc17, nc18, nc19, nc20, nc21, nc22, nc23, nc35, nc47, nc59, nc60, nc61, nc73, nc74, nc214, nc215, nc1115, nc2230, nc3345, if_true, if_false, Int.reduceToNat, hc1.k9, k1, sK_pI]
  have ff := g1.tr f2
  generalize hq : pI (pI h1 9 5 a) 9 3 0 = h2' at *
  clear hq f2 f1 e1 k1 g1
  have hc := x2.1
  have v1 := x2.2.2.2.2.2.1
  have nr := x2.2.2.2.2.2.2
  have r0 := x2.2.2.1
  by_cases c0 : a < n
  · have tt := x2.t (by omega) c0
    have tr := x2.2.2.2.2.1 a
    have ed := c_kind (d := d + 1) (h := h2') (t := T a) x2.2.1 tr
    have f3 : Fr pCk h2' (pI (pI h2' 9 3 (ckd (T a))) 9 2 (a + 1)) := Fr.pI (Fr.pI Fr.rf ⟨rfl, Or.inr (Or.inl rfl)⟩) ⟨rfl, Or.inl rfl⟩
    have st3 : cal (d+3) m_Tokens_step [.inr (.inr (9))] (h) = EX (d+2) m_Tokens_step 102 [(0, .inr (.inr (9)))] [] (pI (pI h2' 9 3 (ckd (T a))) 9 2 (a + 1)) := by
      refine st.trans ?_
      simp (disch := omega) only [Tokens_step_65, Tokens_step_76, Tokens_step_89, Tokens_step_92, wr_id, ix_id, okx, if_pos, if_neg, Int.toNat_of_nonneg, bak_v, bak_n, wr_b01, wr_bt, b01_or, b01_0, b01_1, lc_lt0, lc_gt0, lc_eq0, wl_wr, wr_wr, wl_id, true_and, and_true, true_or, or_true, not_true_eq_false, not_false_eq_true, nc0, nc1, nc2, nc3, nc4, nc5, nc6, nc7, nc8, nc9, nc10, nc11, nc12, nc13, nc14, nc15, nc16, nc17, nc18, nc19, nc20, nc21, nc22, nc23, nc35, nc47, nc59, nc60, nc61, nc73, nc74, nc214, nc215, nc1115, nc2230, nc3345, if_true, if_false, Int.reduceToNat, hc.k6, hc.r5, hc.r6, hc.r0, hc.r2, hc.r7, hc.r8, hc.r9, hc.r10, hc.r11, hc.r12, hc.r13, hc.r14, hc.r15, hc.r16, hc.r17, hc.r18, hc.r8_0, hc.r8_1, hc.r11_0, hc.r11_1, hc.r60_0, hc.r60_1, hc.r60_4, hc.r64_0, hc.r64_3, hc.r64_4, hc.r68_0, hc.r41_0, hc.r41_1, hc.r42_0, hc.r42_1, hc.k7, hc.k8, hc.k9, hc.k11, hc.k12, hc.k13, hc.k32, hc.k41, hc.k42, hc.k43, hc.k60, hc.k61, hc.k62, hc.k63, hc.k64, hc.k65, hc.k66, hc.k67, hc.k68, hc.k69, hc.k70, hc.k71, hc.n6, hc.n7, hc.n8, hc.n9, hc.n11, hc.n12, hc.n13, hc.n32, hc.n41, hc.n42, hc.n43, hc.n60, hc.n61, hc.n62, hc.n63, hc.n64, hc.n65, hc.n66, hc.n67, hc.n68, hc.n69, hc.n70, hc.n71, v1, i2, r0, tt, ed, sK_pI, hI_pI]
    have x3 := x2.k f3 (fun _ _ z => z)
    have j2 : hI (pI (pI h2' 9 3 (ckd (T a))) 9 2 (a + 1)) 9 2 = a + 1 := by rw [hI_pI, if_pos ⟨rfl, rfl⟩]
    have j3 : hI (pI (pI h2' 9 3 (ckd (T a))) 9 2 (a + 1)) 9 3 = ckd (T a) := by rw [hI_pI, if_neg (by omega), hI_pI, if_pos ⟨rfl, rfl⟩]
    have j5 : hI (pI (pI h2' 9 3 (ckd (T a))) 9 2 (a + 1)) 9 5 = a := by rw [hI_pI, if_neg (by omega), hI_pI, if_neg (by omega)]; exact i5
    have ff3 := ff.tr f3
    generalize hq : pI (pI h2' 9 3 (ckd (T a))) 9 2 (a + 1) = h3 at *
    clear hq f3 ff st ed tt i2 i3 i5 hc r0 v1
    have hc := x3.1
    have v1 := x3.2.2.2.2.2.1
    have r0 := x3.2.2.1
    by_cases qd : qD T a = true
    · have ql : ¬ qL T a = true := by unfold qD at qd; unfold qL; simp only [decide_eq_true_eq] at *; omega
      have k2 : ckd (T a) = 2 := ckd_2.mpr qd
      rw [k2] at j3
      obtain ⟨h4, e4, k4, f4⟩ := c_st_2 (d := d + 1) (K := 2) (q := qD T) (Or.inl ⟨rfl, rfl⟩) (a + 1) (by omega) (by omega) h3 x3 j2 j3
      rw [← adv_go c0 qd] at k4
      have g4 : Fr pCk h3 h4 := f4.mo (fun a k z => by unfold pCk; omega)
      have x4 := x3.k g4 (fun _ _ z => z)
      have hc4 := x4.1
      have ar := adv_rng (q := qD T) (n := n) a (by omega)
      have i54 : hI h4 9 5 = a := by rw [f4.I (by omega)]; exact j5
      have i34 : hI h4 9 3 = 2 := by rw [f4.I (by omega)]; exact j3
      have kk : tkK T n a = if 3 < adv (qD T) a n - a then 23 else 21 := by unfold tkK; rw [if_neg (by omega), if_neg ql, if_pos qd]
      have ee : tkE T n a = adv (qD T) a n := by unfold tkE; rw [if_neg (by omega), if_neg ql, if_pos qd]
      have fin : ∀ h5, cal (d+2) m_Tokens_readNumber [.inr (.inr (9))] (h4) = some (.inl 0, h5) → cal (d+3) m_Tokens_step [.inr (.inr (9))] (h) = some (.inl 0, h5) := by
        intro h5 e5
        refine (st3.trans e4).trans ?_
        simp (disch := omega) only [Tokens_step_161, Tokens_step_169, Tokens_step_173, Tokens_step_188, wr_id, ix_id, okx, if_pos, if_neg, Int.toNat_of_nonneg, bak_v, bak_n, wr_b01, wr_bt, b01_or, b01_0, b01_1, lc_lt0, lc_gt0, lc_eq0, wl_wr, wr_wr, wl_id, true_and, and_true, true_or, or_true, not_true_eq_false, not_false_eq_true, nc0, nc1, nc2, nc3, nc4, nc5, nc6, nc7, nc8, nc9, nc10, nc11, nc12, nc13, nc14, nc15, nc16, nc17, nc18, nc19, nc20, nc21, nc22, nc23, nc35, nc47, nc59, nc60, nc61, nc73, nc74, nc214, nc215, nc1115, nc2230, nc3345, if_true, if_false, Int.reduceToNat, hc4.k9, i34, e5]
      have f5 : Fr pCk h4 (pI h4 9 4 0) := Fr.pI Fr.rf ⟨rfl, Or.inr (Or.inr (Or.inl rfl))⟩
      by_cases c3 : 3 < adv (qD T) a n - a
      · rw [if_pos c3] at kk
        have f6 : Fr pCk (pI h4 9 4 0) (pI (pI h4 9 4 0) 9 3 1) := Fr.pI Fr.rf ⟨rfl, Or.inr (Or.inl rfl)⟩
        refine ⟨pI (pI h4 9 4 0) 9 3 1, fin _ ?_, ⟨?_, ?_, ?_, fun z => ?_⟩, (ff3.tr g4).tr (f5.tr f6)⟩
        · show EX (d+1) m_Tokens_readNumber 0 [(0, .inr (.inr (9)))] [] (h4) = _
          simp (disch := omega) only [Tokens_readNumber_0, Tokens_readNumber_5, Tokens_readNumber_18, Tokens_readNumber_23, wr_id, ix_id, okx, if_pos, if_neg, Int.toNat_of_nonneg, bak_v, bak_n, wr_b01, wr_bt, b01_or, b01_0, b01_1, lc_lt0, lc_gt0, lc_eq0, wl_wr, wr_wr, wl_id, true_and, and_true, true_or, or_true, not_true_eq_false, not_false_eq_true, nc0, nc1, nc2, nc3, nc4, nc5, nc6, nc7, nc8, nc9, nc10, nc11, nc12, nc13, nc14, nc15, nc16, nc17, nc18, nc19, nc20, nc21, nc22, nc23, nc35, nc47, nc59, nc60, nc61, nc73, nc74, nc214, nc215, nc1115, nc2230, nc3345, if_true, if_false, Int.reduceToNat, hc4.k9, i54, k4, sK_pI, hI_pI]
        · rw [hI_pI, if_neg (by omega), hI_pI, if_neg (by omega)]; exact i54
        · rw [hI_pI, if_neg (by omega), hI_pI, if_neg (by omega), k4, ee]
        · rw [hI_pI, if_pos ⟨rfl, rfl⟩, kk]; rfl
        · rw [kk] at z; omega
      · rw [if_neg c3] at kk
        obtain ⟨h6, e6, l6, f6⟩ := c_num (d := d + 1) (w := w) (T := T) (n := n) (a := a) (e := adv (qD T) a n) (by omega) a (by omega) (by omega) (pI h4 9 4 0) 0 (x4.k f5 (fun _ _ z => z)) (fun k k0 k1 => adv_sat a k k0 k1) (by rw [hI_pI, if_neg (by omega)]; exact k4) (by rw [hI_pI, if_pos ⟨rfl, rfl⟩])
        have g6 : Fr pCk (pI h4 9 4 0) h6 := f6.mo (fun a k z => by unfold pCk; omega)
        refine ⟨h6, fin _ ?_, ⟨?_, ?_, ?_, fun z => ?_⟩, (ff3.tr g4).tr (f5.tr g6)⟩
        · show EX (d+1) m_Tokens_readNumber 0 [(0, .inr (.inr (9)))] [] (h4) = _
          simp (disch := omega) only [Tokens_readNumber_0, Tokens_readNumber_5, Tokens_readNumber_24, wr_id, ix_id, okx, if_pos, if_neg, Int.toNat_of_nonneg, bak_v, bak_n, wr_b01, wr_bt, b01_or, b01_0, b01_1, lc_lt0, lc_gt0, lc_eq0, wl_wr, wr_wr, wl_id, true_and, and_true, true_or, or_true, not_true_eq_false, not_false_eq_true, nc0, nc1, nc2, nc3, nc4, nc5, nc6, nc7, nc8, nc9, nc10, nc11, nc12, nc13, nc14, nc15, nc16, nc17, nc18, nc19, nc20, nc21, nc22, nc23, nc35, nc47, nc59, nc60, nc61, nc73, nc74, nc214, nc215, nc1115, nc2230, nc3345, if_true, if_false, Int.reduceToNat, hc4.k9, i54, k4, sK_pI, hI_pI]
          exact e6
        · rw [f6.I (by omega), hI_pI, if_neg (by omega)]; exact i54
        · rw [f6.I (by omega), hI_pI, if_neg (by omega), k4, ee]
        · rw [f6.I (by omega), hI_pI, if_neg (by omega), i34, kk]; rfl
        · rw [l6]
          unfold tkN
          refine fo_congr a (fun j m j0 j1 => ?_) 0
          unfold nuF
          rw [if_pos (by omega)]
    · by_cases ql : qL T a = true
      · have k2 : ckd (T a) = 3 := ckd_3.mpr ql
        rw [k2] at j3
        obtain ⟨h4, e4, k4, f4⟩ := c_st_2 (d := d + 1) (K := 3) (q := qL T) (Or.inr ⟨rfl, rfl⟩) (a + 1) (by omega) (by omega) h3 x3 j2 j3
        rw [← adv_go c0 ql] at k4
        have g4 : Fr pCk h3 h4 := f4.mo (fun a k z => by unfold pCk; omega)
        have x4 := x3.k g4 (fun _ _ z => z)
        have hc4 := x4.1
        have ar := adv_rng (q := qL T) (n := n) a (by omega)
        have i54 : hI h4 9 5 = a := by rw [f4.I (by omega)]; exact j5
        have i34 : hI h4 9 3 = 3 := by rw [f4.I (by omega)]; exact j3
        obtain ⟨h5, e5, k5, f5⟩ := c_word_4 (d := d + 1) x4 i54 k4 i34 (by omega) Wc 128 0 (by omega) (by decide) (by omega) (by omega) SLw_c
        have g5 : Fr pCk h4 h5 := f5.mo (fun a k z => by unfold pCk; omega)
        rw [wc_eq] at k5
        have kk : tkK T n a = kwL Wm 0 20 (txt T a (adv (qL T) a n)) := by unfold tkK; rw [if_neg (by omega), if_pos ql]
        refine ⟨h5, ?_, ⟨?_, ?_, ?_, fun z => ?_⟩, (ff3.tr g4).tr g5⟩
        · refine (st3.trans e4).trans ?_
          have es : cal (d+2) m_Tokens_findWord [.inr (.inr (9))] (h4) = some (.inl 0, h5) := by
            show EX (d+1) m_Tokens_findWord 0 [(0, .inr (.inr (9)))] [] (h4) = _
            simp (disch := omega) only [Tokens_findWord_0, wr_id, ix_id, okx, if_pos, if_neg, Int.toNat_of_nonneg, bak_v, bak_n, wr_b01, wr_bt, b01_or, b01_0, b01_1, lc_lt0, lc_gt0, lc_eq0, wl_wr, wr_wr, wl_id, true_and, and_true, true_or, or_true, not_true_eq_false, not_false_eq_true, nc0, nc1, nc2, nc3, nc4, nc5, nc6, nc7, nc8, nc9, nc10, nc11, nc12, nc13, nc14, nc15, nc16, nc17, nc18, nc19, nc20, nc21, nc22, nc23, nc35, nc47, nc59, nc60, nc61, nc73, nc74, nc214, nc215, nc1115, nc2230, nc3345, if_true, if_false, Int.reduceToNat, hc4.k9, i54]
            exact e5
          simp (disch := omega) only [Tokens_step_161, Tokens_step_176, Tokens_step_184, Tokens_step_188, wr_id, ix_id, okx, if_pos, if_neg, Int.toNat_of_nonneg, bak_v, bak_n, wr_b01, wr_bt, b01_or, b01_0, b01_1, lc_lt0, lc_gt0, lc_eq0, wl_wr, wr_wr, wl_id, true_and, and_true, true_or, or_true, not_true_eq_false, not_false_eq_true, nc0, nc1, nc2, nc3, nc4, nc5, nc6, nc7, nc8, nc9, nc10, nc11, nc12, nc13, nc14, nc15, nc16, nc17, nc18, nc19, nc20, nc21, nc22, nc23, nc35, nc47, nc59, nc60, nc61, nc73, nc74, nc214, nc215, nc1115, nc2230, nc3345, if_true, if_false, Int.reduceToNat, hc4.k9, i34, es]
        · rw [f5.I (by omega)]; exact i54
        · rw [f5.I (by omega), k4]
          unfold tkE
          rw [if_neg (by omega), if_pos ql]
        · rw [k5, kk]
        · exact absurd ql (tkK_21 z).2.1
      · have nk := kcs_n (T a)
        have ke : ckd (T a) = kc (sgK (T a)) := by
          have a2 : ¬ ckd (T a) = 2 := fun z => qd (ckd_2.mp z)
          have a3 : ¬ ckd (T a) = 3 := fun z => ql (ckd_3.mp z)
          unfold ckd at *
          split
          · rename_i q; rw [if_pos q] at a2; exact absurd rfl a2
          · rename_i q
            rw [if_neg q] at a3
            split
            · rename_i q2; rw [if_pos q2] at a3; exact absurd rfl a3
            · rfl
        have kr := ckd_rng (T a)
        rw [← ke] at nk
        have kk : tkK T n a = sgK (T a) := by unfold tkK; rw [if_neg (by omega), if_neg ql, if_neg qd]
        refine ⟨h3, ?_, ⟨j5, ?_, ?_, fun z => ?_⟩, ff3⟩
        · refine st3.trans ?_
          rw [Tokens_step_102]
          by_cases c4 : a + 1 < n
          · simp (disch := omega) only [Tokens_step_113, Tokens_step_121, Tokens_step_161, Tokens_step_176, Tokens_step_188, wr_id, ix_id, okx, if_pos, if_neg, Int.toNat_of_nonneg, bak_v, bak_n, wr_b01, wr_bt, b01_or, b01_0, b01_1, lc_lt0, lc_gt0, lc_eq0, wl_wr, wr_wr, wl_id, true_and, and_true, true_or, or_true, not_true_eq_false, not_false_eq_true, nc0, nc1, nc2, nc3, nc4, nc5, nc6, nc7, nc8, nc9, nc10, nc11, nc12, nc13, nc14, nc15, nc16, nc17, nc18, nc19, nc20, nc21, nc22, nc23, nc35, nc47, nc59, nc60, nc61, nc73, nc74, nc214, nc215, nc1115, nc2230, nc3345, if_true, if_false, Int.reduceToNat, hc.k9, v1, j2, j3]
          · simp (disch := omega) only [Tokens_step_161, Tokens_step_176, Tokens_step_188, wr_id, ix_id, okx, if_pos, if_neg, Int.toNat_of_nonneg, bak_v, bak_n, wr_b01, wr_bt, b01_or, b01_0, b01_1, lc_lt0, lc_gt0, lc_eq0, wl_wr, wr_wr, wl_id, true_and, and_true, true_or, or_true, not_true_eq_false, not_false_eq_true, nc0, nc1, nc2, nc3, nc4, nc5, nc6, nc7, nc8, nc9, nc10, nc11, nc12, nc13, nc14, nc15, nc16, nc17, nc18, nc19, nc20, nc21, nc22, nc23, nc35, nc47, nc59, nc60, nc61, nc73, nc74, nc214, nc215, nc1115, nc2230, nc3345, if_true, if_false, Int.reduceToNat, hc.k9, v1, j2, j3]
        · rw [j2]
          unfold tkE
          rw [if_neg (by omega), if_neg ql, if_neg qd]
        · rw [j3, ke, kk]
        · exact absurd (tkK_21 z).2.2 qd
  · have kk : tkK T n a = 22 := by unfold tkK; rw [if_pos (by omega)]
    refine ⟨h2', ?_, ⟨i5, ?_, ?_, fun z => ?_⟩, ff⟩
    · refine st.trans ?_
      simp (disch := omega) only [Tokens_step_65, Tokens_step_161, Tokens_step_176, Tokens_step_188, wr_id, ix_id, okx, if_pos, if_neg, Int.toNat_of_nonneg, bak_v, bak_n, wr_b01, wr_bt, b01_or, b01_0, b01_1, lc_lt0, lc_gt0, lc_eq0, wl_wr, wr_wr, wl_id, true_and, and_true, true_or, or_true, not_true_eq_false, not_false_eq_true, nc0, nc1, nc2, nc3, nc4, nc5, nc6, nc7, nc8, nc9, nc10, nc11, nc12, nc13, nc14, nc15, nc16, nc17, nc18, nc19, nc20, nc21, nc22, nc23, nc35, nc47, nc59, nc60, nc61, nc73, nc74, nc214, nc215, nc1115, nc2230, nc3345, if_true, if_false, Int.reduceToNat, hc.k9, v1, i2, i3]
      rw [Tokens_step_102]
      simp (disch := omega) only [Tokens_step_161, Tokens_step_176, Tokens_step_188, wr_id, ix_id, okx, if_pos, if_neg, Int.toNat_of_nonneg, bak_v, bak_n, wr_b01, wr_bt, b01_or, b01_0, b01_1, lc_lt0, lc_gt0, lc_eq0, wl_wr, wr_wr, wl_id, true_and, and_true, true_or, or_true, not_true_eq_false, not_false_eq_true, nc0, nc1, nc2, nc3, nc4, nc5, nc6, nc7, nc8, nc9, nc10, nc11, nc12, nc13, nc14, nc15, nc16, nc17, nc18, nc19, nc20, nc21, nc22, nc23, nc35, nc47, nc59, nc60, nc61, nc73, nc74, nc214, nc215, nc1115, nc2230, nc3345, if_true, if_false, Int.reduceToNat, hc.k9, v1, i2, i3]
    · rw [i2]
      unfold tkE
      rw [if_pos (by omega)]
    · rw [i3, kk]
      rfl
    · omega
