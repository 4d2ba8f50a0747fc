/-! the class: Tokens -/
def kc (k : Int) : Int := if k = 22 then 0 else if k = 23 then 1 else if k = 21 then 2 else if k = 20 then 3 else if k = 0 then 128 else if k = 1 then 129 else if k = 2 then 130 else if k = 4 then 131 else if k = 5 then 132 else if k = 6 then 133 else if k = 7 then 134 else if k = 8 then 135 else if k = 9 then 136 else if k = 10 then 137 else if k = 3 then 138 else if k = 11 then 139 else if k = 12 then 140 else if k = 13 then 141 else if k = 14 then 142 else if k = 15 then 143 else if k = 16 then 144 else if k = 17 then 145 else if k = 25 then 59 else if k = 26 then 58 else if k = 27 then 43 else if k = 28 then 45 else if k = 29 then 42 else if k = 30 then 40 else if k = 31 then 41 else if k = 32 then 91 else if k = 33 then 93 else if k = 34 then 61 else if k = 35 then 60 else 62
def kdB (k : Int) : Bool := decide ((0 ≤ k ∧ k ≤ 17) ∨ (20 ≤ k ∧ k ≤ 23) ∨ (25 ≤ k ∧ k ≤ 36))
theorem kc_k1 : ∀ a : Fin 37, ∀ b : Fin 37, kdB (a.1 : Int) = true → kdB (b.1 : Int) = true → kc (a.1 : Int) = kc (b.1 : Int) → a = b := by decide +kernel
theorem kc_k2 : ∀ a : Fin 37, 0 ≤ kc (a.1 : Int) ∧ kc (a.1 : Int) ≤ 145 := by decide +kernel
theorem kc_inj {a b : Int} (ha : kdO a) (hb : kdO b) (h : kc a = kc b) : a = b := by
  unfold kdO at ha hb
  obtain ⟨x, rfl⟩ := Int.eq_ofNat_of_zero_le (show 0 ≤ a by omega)
  obtain ⟨y, rfl⟩ := Int.eq_ofNat_of_zero_le (show 0 ≤ b by omega)
  have := kc_k1 ⟨x, by omega⟩ ⟨y, by omega⟩ (by unfold kdB; simp only [decide_eq_true_eq]; exact ha) (by unfold kdB; simp only [decide_eq_true_eq]; exact hb) h
  have : x = y := by simpa using this
  omega
theorem kc_rng {a : Int} (ha : kdO a) : 0 ≤ kc a ∧ kc a ≤ 145 := by
  unfold kdO at ha
  obtain ⟨x, rfl⟩ := Int.eq_ofNat_of_zero_le (show 0 ≤ a by omega)
  exact kc_k2 ⟨x, by omega⟩
/-- a kind of the class is this one just if that of the model is -/
theorem kc_iff {a b c : Int} (ha : kdO a) (hb : kdO b) (e : kc b = c) : kc a = c ↔ a = b := ⟨fun h => kc_inj ha hb (h.trans e.symm), fun h => by rw [h]; exact e⟩
theorem wc_eq (s : List Int) : kwL Wc 128 3 s = kc (kwL Wm 0 20 s) := by
  by_cases h : s ∈ Wm
  · have : ∀ s ∈ Wm, kwL Wc 128 3 s = kc (kwL Wm 0 20 s) := by decide +kernel
    exact this s h
  · have a : ∀ (L : List (List Int)) (n e : Int), s ∉ L → kwL L n e s = e := by
      intro L
      induction L with
      | nil => intro n e _; rfl
      | cons l r ih =>
        intro n e hn
        simp only [List.mem_cons, not_or] at hn
        simp only [kwL]
        rw [if_neg hn.1]
        exact ih _ _ hn.2
    have sub : ∀ l ∈ Wc, l ∈ Wm := by decide +kernel
    rw [a Wc 128 3 (fun z => h (sub s z)), a Wm 0 20 h]
    rfl
/-- the class, its tape, the text -/
def CX (h : Hp) (w : Nat) (T : Int → Int) (n : Int) : Prop := CR h w ∧ STR h ∧ hR h 9 0 = 7 ∧ (∀ k : Nat, k < 900 → hI h 7 k = sb (T k)) ∧ tOk T ∧ hI h 9 1 = n ∧ (0 ≤ n ∧ n ≤ 900)
def CK (h : Hp) (T : Int → Int) (n a : Int) : Prop := hI h 9 5 = a ∧ hI h 9 2 = tkE T n a ∧ hI h 9 3 = kc (tkK T n a) ∧ (tkK T n a = 21 → hI h 9 4 = tkN T n a)
theorem CX.fr {h h' : Hp} {w : Nat} {T : Int → Int} {n : Int} (x : CX h w T n) {p : Nat → Nat → Prop} (f : Fr p h h') (hp : ∀ a k, p a k → 8 ≤ a ∧ ¬ (a = 9 ∧ k = 1)) : CX h' w T n := ⟨x.1.fr f, x.2.1.fr f (fun a k q => by have := hp a k q; omega), by rw [f.R]; exact x.2.2.1, fun k hk => by rw [f.I (fun q => by have := hp _ _ q; omega)]; exact x.2.2.2.1 k hk, x.2.2.2.2.1, by rw [f.I (fun q => (hp _ _ q).2 ⟨rfl, rfl⟩)]; exact x.2.2.2.2.2.1, x.2.2.2.2.2.2⟩
def pCk (a k : Nat) : Prop := a = 9 ∧ (k = 2 ∨ k = 3 ∨ k = 4 ∨ k = 5)
theorem CX.k {h h' : Hp} {w : Nat} {T : Int → Int} {n : Int} (x : CX h w T n) {p : Nat → Nat → Prop} (f : Fr p h h') (hp : ∀ a k, p a k → pCk a k) : CX h' w T n := x.fr f (fun a k q => by have := hp a k q; unfold pCk at this; omega)
theorem CX.t {h : Hp} {w : Nat} {T : Int → Int} {n k : Int} (x : CX h w T n) (k0 : 0 ≤ k) (k1 : k < n) : hI h 7 k.toNat = sb (T k) := by
  have := x.2.2.2.1 k.toNat (by have := x.2.2.2.2.2.2; omega)
  rw [Int.toNat_of_nonneg k0] at this
  exact this
theorem sb_rng (t : Int) (h : 0 ≤ t ∧ t ≤ 255) : -128 ≤ sb t ∧ sb t ≤ 127 ∧ (0 ≤ sb t → sb t = t ∧ t < 128) := by unfold sb; split <;> omega
theorem sb_pos {t c : Int} (h : 0 ≤ t ∧ t ≤ 255) (hc : 0 ≤ c ∧ c < 128) : sb t = c ↔ t = c := by unfold sb; split <;> omega
theorem c_digit {d : Nat} {h : Hp} {t : Int} (ht : 0 ≤ t ∧ t ≤ 255) : cal (d+1) m_Tokens_isDigit [.inl (sb t)] (h) = some (.inl (b01 (48 ≤ t ∧ t ≤ 57)), h) := by
  have := sb_rng t ht
  show EX (d) m_Tokens_isDigit 0 [(0, .inl (sb t))] [] (h) = _
  unfold b01
  by_cases h1 : sb t < 48
  · rw [if_neg (by unfold sb at h1; split at h1 <;> omega)]
    simp (disch := omega) only [Tokens_isDigit_0, Tokens_isDigit_16, Tokens_isDigit_17, wr_id, ix_id, okx, if_pos, if_neg, Int.toNat_of_nonneg, bak_v, bak_n, wr_b01, wr_bt, b01_or, b01_0, b01_1, lc_lt0, lc_gt0, lc_eq0, wl_wr, wr_wr, wl_id, true_and, and_true, true_or, or_true, not_true_eq_false, not_false_eq_true, nc0, nc1, nc2, nc3, nc4, nc5, nc6, nc7, nc8, nc9, nc10, nc11, nc12, nc13, nc14, nc15, nc16, nc17, nc18, nc19, nc20, nc21, nc22, nc23, nc35, nc47, nc59, nc60, nc61, nc73, nc74, nc214, nc215, nc1115, nc2230, nc3345, if_true, if_false, Int.reduceToNat]
  · by_cases h2 : 57 < sb t
    · rw [if_neg (by omega)]
      simp (disch := omega) only [Tokens_isDigit_0, Tokens_isDigit_6, Tokens_isDigit_16, Tokens_isDigit_17, wr_id, ix_id, okx, if_pos, if_neg, Int.toNat_of_nonneg, bak_v, bak_n, wr_b01, wr_bt, b01_or, b01_0, b01_1, lc_lt0, lc_gt0, lc_eq0, wl_wr, wr_wr, wl_id, true_and, and_true, true_or, or_true, not_true_eq_false, not_false_eq_true, nc0, nc1, nc2, nc3, nc4, nc5, nc6, nc7, nc8, nc9, nc10, nc11, nc12, nc13, nc14, nc15, nc16, nc17, nc18, nc19, nc20, nc21, nc22, nc23, nc35, nc47, nc59, nc60, nc61, nc73, nc74, nc214, nc215, nc1115, nc2230, nc3345, if_true, if_false, Int.reduceToNat]
    · rw [if_pos (by omega)]
      simp (disch := omega) only [Tokens_isDigit_0, Tokens_isDigit_6, Tokens_isDigit_12, Tokens_isDigit_17, wr_id, ix_id, okx, if_pos, if_neg, Int.toNat_of_nonneg, bak_v, bak_n, wr_b01, wr_bt, b01_or, b01_0, b01_1, lc_lt0, lc_gt0, lc_eq0, wl_wr, wr_wr, wl_id, true_and, and_true, true_or, or_true, not_true_eq_false, not_false_eq_true, nc0, nc1, nc2, nc3, nc4, nc5, nc6, nc7, nc8, nc9, nc10, nc11, nc12, nc13, nc14, nc15, nc16, nc17, nc18, nc19, nc20, nc21, nc22, nc23, nc35, nc47, nc59, nc60, nc61, nc73, nc74, nc214, nc215, nc1115, nc2230, nc3345, if_true, if_false, Int.reduceToNat]
theorem c_letter {d : Nat} {h : Hp} {t : Int} (ht : 0 ≤ t ∧ t ≤ 255) : cal (d+1) m_Tokens_isLetter [.inl (sb t)] (h) = some (.inl (b01 (97 ≤ t ∧ t ≤ 122)), h) := by
  have := sb_rng t ht
  show EX (d) m_Tokens_isLetter 0 [(0, .inl (sb t))] [] (h) = _
  unfold b01
  by_cases h1 : sb t < 97
  · rw [if_neg (by unfold sb at h1; split at h1 <;> omega)]
    simp (disch := omega) only [Tokens_isLetter_0, Tokens_isLetter_16, Tokens_isLetter_17, wr_id, ix_id, okx, if_pos, if_neg, Int.toNat_of_nonneg, bak_v, bak_n, wr_b01, wr_bt, b01_or, b01_0, b01_1, lc_lt0, lc_gt0, lc_eq0, wl_wr, wr_wr, wl_id, true_and, and_true, true_or, or_true, not_true_eq_false, not_false_eq_true, nc0, nc1, nc2, nc3, nc4, nc5, nc6, nc7, nc8, nc9, nc10, nc11, nc12, nc13, nc14, nc15, nc16, nc17, nc18, nc19, nc20, nc21, nc22, nc23, nc35, nc47, nc59, nc60, nc61, nc73, nc74, nc214, nc215, nc1115, nc2230, nc3345, if_true, if_false, Int.reduceToNat]
  · by_cases h2 : 122 < sb t
    · rw [if_neg (by omega)]
      simp (disch := omega) only [Tokens_isLetter_0, Tokens_isLetter_6, Tokens_isLetter_16, Tokens_isLetter_17, wr_id, ix_id, okx, if_pos, if_neg, Int.toNat_of_nonneg, bak_v, bak_n, wr_b01, wr_bt, b01_or, b01_0, b01_1, lc_lt0, lc_gt0, lc_eq0, wl_wr, wr_wr, wl_id, true_and, and_true, true_or, or_true, not_true_eq_false, not_false_eq_true, nc0, nc1, nc2, nc3, nc4, nc5, nc6, nc7, nc8, nc9, nc10, nc11, nc12, nc13, nc14, nc15, nc16, nc17, nc18, nc19, nc20, nc21, nc22, nc23, nc35, nc47, nc59, nc60, nc61, nc73, nc74, nc214, nc215, nc1115, nc2230, nc3345, if_true, if_false, Int.reduceToNat]
    · rw [if_pos (by omega)]
      simp (disch := omega) only [Tokens_isLetter_0, Tokens_isLetter_6, Tokens_isLetter_12, Tokens_isLetter_17, wr_id, ix_id, okx, if_pos, if_neg, Int.toNat_of_nonneg, bak_v, bak_n, wr_b01, wr_bt, b01_or, b01_0, b01_1, lc_lt0, lc_gt0, lc_eq0, wl_wr, wr_wr, wl_id, true_and, and_true, true_or, or_true, not_true_eq_false, not_false_eq_true, nc0, nc1, nc2, nc3, nc4, nc5, nc6, nc7, nc8, nc9, nc10, nc11, nc12, nc13, nc14, nc15, nc16, nc17, nc18, nc19, nc20, nc21, nc22, nc23, nc35, nc47, nc59, nc60, nc61, nc73, nc74, nc214, nc215, nc1115, nc2230, nc3345, if_true, if_false, Int.reduceToNat]
theorem i2c_k : ∀ x : Fin 128, bI2c (x.1 : Int) = (x.1 : Int) := by decide +kernel
def SGl : List Int := [59, 58, 43, 45, 42, 40, 41, 91, 93, 61, 60, 62]
theorem six_k : ∀ x : Fin 128, (-1 ≤ sIxF (x.1 : Int) SGl 0 ∧ sIxF (x.1 : Int) SGl 0 ≤ 11) ∧ (sIxF (x.1 : Int) SGl 0 < 0 ↔ sgK (x.1 : Int) = 23) := by decide +kernel
theorem kcs_k : ∀ x : Fin 128, ¬ sgK (x.1 : Int) = 23 → kc (sgK (x.1 : Int)) = (x.1 : Int) := by decide +kernel
theorem six_eq {h : Hp} (st : STR h) (c : Int) : sIx h 3 c = sIxF c SGl 0 := by
  unfold sIx
  rw [st.2.1.2.1]
  congr 1
  have e : ∀ k : Nat, hI h 3 k = txF 1 k := st.2.2.2.1
  show List.map (fun k => hI h 3 k) (List.range 12) = SGl
  have : (fun k => hI h 3 k) = (fun k : Nat => txF 1 k) := funext e
  rw [this]
  decide +kernel
theorem c_isSign {d : Nat} {h : Hp} {t : Int} (st : STR h) (ht : 0 ≤ t ∧ t ≤ 255) : cal (d+1) m_Tokens_isSign [.inl (sb t)] (h) = some (.inl (b01 (¬ sgK t = 23)), h) := by
  have sr := sb_rng t ht
  show EX (d) m_Tokens_isSign 0 [(0, .inl (sb t))] [] (h) = _
  unfold b01
  by_cases c0 : 0 < sb t
  · obtain ⟨e, t1⟩ := sr.2.2 (by omega)
    rw [e]
    obtain ⟨x, rfl⟩ := Int.eq_ofNat_of_zero_le ht.1
    have ic := i2c_k ⟨x, by omega⟩
    obtain ⟨s1, s2⟩ := six_k ⟨x, by omega⟩
    have ic' : bI2c (x : Int) = x := ic
    have s1' : -1 ≤ sIxF (x : Int) SGl 0 ∧ sIxF (x : Int) SGl 0 ≤ 11 := s1
    have s2' : sIxF (x : Int) SGl 0 < 0 ↔ sgK (x : Int) = 23 := s2
    by_cases c1 : sgK (x : Int) = 23
    · rw [if_neg (fun z => z c1)]
      have := s2'.mpr c1
      simp (disch := omega) only [Tokens_isSign_0, Tokens_isSign_4, Tokens_isSign_18, Tokens_isSign_19, wr_id, ix_id, okx, if_pos, if_neg, Int.toNat_of_nonneg, bak_v, bak_n, wr_b01, wr_bt, b01_or, b01_0, b01_1, lc_lt0, lc_gt0, lc_eq0, wl_wr, wr_wr, wl_id, true_and, and_true, true_or, or_true, not_true_eq_false, not_false_eq_true, nc0, nc1, nc2, nc3, nc4, nc5, nc6, nc7, nc8, nc9, nc10, nc11, nc12, nc13, nc14, nc15, nc16, nc17, nc18, nc19, nc20, nc21, nc22, nc23, nc35, nc47, nc59, nc60, nc61, nc73, nc74, nc214, nc215, nc1115, nc2230, nc3345, if_true, if_false, Int.reduceToNat, cs0, st.1.2.1, ic', six_eq st]
    · rw [if_pos c1]
      have : ¬ sIxF (x : Int) SGl 0 < 0 := fun z => c1 (s2'.mp z)
      simp (disch := omega) only [Tokens_isSign_0, Tokens_isSign_4, Tokens_isSign_14, Tokens_isSign_19, wr_id, ix_id, okx, if_pos, if_neg, Int.toNat_of_nonneg, bak_v, bak_n, wr_b01, wr_bt, b01_or, b01_0, b01_1, lc_lt0, lc_gt0, lc_eq0, wl_wr, wr_wr, wl_id, true_and, and_true, true_or, or_true, not_true_eq_false, not_false_eq_true, nc0, nc1, nc2, nc3, nc4, nc5, nc6, nc7, nc8, nc9, nc10, nc11, nc12, nc13, nc14, nc15, nc16, nc17, nc18, nc19, nc20, nc21, nc22, nc23, nc35, nc47, nc59, nc60, nc61, nc73, nc74, nc214, nc215, nc1115, nc2230, nc3345, if_true, if_false, Int.reduceToNat, cs0, st.1.2.1, ic', six_eq st]
  · have c1 : sgK t = 23 := by
      unfold sb at c0
      unfold sgK
      repeat' split
      all_goals first | rfl | (split at c0 <;> omega)
    rw [if_neg (fun z => z c1)]
    simp (disch := omega) only [Tokens_isSign_0, Tokens_isSign_18, Tokens_isSign_19, wr_id, ix_id, okx, if_pos, if_neg, Int.toNat_of_nonneg, bak_v, bak_n, wr_b01, wr_bt, b01_or, b01_0, b01_1, lc_lt0, lc_gt0, lc_eq0, wl_wr, wr_wr, wl_id, true_and, and_true, true_or, or_true, not_true_eq_false, not_false_eq_true, nc0, nc1, nc2, nc3, nc4, nc5, nc6, nc7, nc8, nc9, nc10, nc11, nc12, nc13, nc14, nc15, nc16, nc17, nc18, nc19, nc20, nc21, nc22, nc23, nc35, nc47, nc59, nc60, nc61, nc73, nc74, nc214, nc215, nc1115, nc2230, nc3345, if_true, if_false, Int.reduceToNat]
theorem c_st_1 {d w : Nat} {T : Int → Int} {n : Int} : ∀ p, 0 ≤ p → p ≤ n → ∀ h, CX h w T n → hI h 9 2 = p → ∃ h', EX (d) m_Tokens_step 0 [(0, .inr (.inr (9)))] [] (h) = EX (d) m_Tokens_step 52 [(0, .inr (.inr (9)))] [] (h') ∧ hI h' 9 2 = adv (qB T) p n ∧ Fr (fun a k => a = 9 ∧ k = 2) h h' := by
  refine up_ind (hi := n) ?_ ?_
  · intro p hp p0 p1 h x h2
    have hc := x.1
    have h1 := x.2.2.2.2.2.1
    have nr := x.2.2.2.2.2.2
    refine ⟨h, ?_, by rw [adv_stop hp, h2], Fr.rf⟩
    rw [Tokens_step_0]
    simp (disch := omega) only [wr_id, ix_id, okx, if_pos, if_neg, Int.toNat_of_nonneg, bak_v, bak_n, wr_b01, wr_bt, b01_or, b01_0, b01_1, lc_lt0, lc_gt0, lc_eq0, wl_wr, wr_wr, wl_id, true_and, and_true, true_or, or_true, not_true_eq_false, not_false_eq_true, nc0, nc1, nc2, nc3, nc4, nc5, nc6, nc7, nc8, nc9, nc10, nc11, nc12, nc13, nc14, nc15, nc16, nc17, nc18, nc19, nc20, nc21, nc22, nc23, nc35, nc47, nc59, nc60, nc61, nc73, nc74, nc214, nc215, nc1115, nc2230, nc3345, if_true, if_false, Int.reduceToNat, hc.k9, h1, h2]
  · intro p hp ih p0 p1 h x h2
    have hc := x.1
    have h1 := x.2.2.2.2.2.1
    have nr := x.2.2.2.2.2.2
    have r0 := x.2.2.1
    have tt := x.t p0 hp
    have tr := x.2.2.2.2.1 p
    have sr := sb_rng (T p) tr
    by_cases c : T p = 10 ∨ T p = 32
    · have qc : qB T p = true := by unfold qB; simp only [decide_eq_true_eq]; exact c
      have f0 : Fr (fun a k => a = 9 ∧ k = 2) h (pI h 9 2 (p + 1)) := Fr.pI Fr.rf ⟨rfl, rfl⟩
      obtain ⟨h2', e2, k2, f2⟩ := ih (by omega) (by omega) _ (x.k f0 (fun a k z => by unfold pCk; omega)) (by rw [hI_pI, if_pos ⟨rfl, rfl⟩])
      refine ⟨h2', ?_, by rw [adv_go hp qc]; exact k2, f0.tr f2⟩
      rw [Tokens_step_0]
      by_cases c1 : T p = 32
      · have s1 : sb (T p) = 32 := (sb_pos tr (by omega)).mpr c1
        rw [s1] at tt
        simp (disch := omega) only [Tokens_step_11, Tokens_step_39, Tokens_step_49, wr_id, ix_id, okx, if_pos, if_neg, Int.toNat_of_nonneg, bak_v, bak_n, wr_b01, wr_bt, b01_or, b01_0, b01_1, lc_lt0, lc_gt0, lc_eq0, wl_wr, wr_wr, wl_id, true_and, and_true, true_or, or_true, not_true_eq_false, not_false_eq_true, nc0, nc1, nc2, nc3, nc4, nc5, nc6, nc7, nc8, nc9, nc10, nc11, nc12, nc13, nc14, nc15, nc16, nc17, nc18, nc19, nc20, nc21, nc22, nc23, nc35, nc47, nc59, nc60, nc61, nc73, nc74, nc214, nc215, nc1115, nc2230, nc3345, if_true, if_false, Int.reduceToNat, hc.k6, hc.r5, hc.r6, hc.r0, hc.r2, hc.r7, hc.r8, hc.r9, hc.r10, hc.r11, hc.r12, hc.r13, hc.r14, hc.r15, hc.r16, hc.r17, hc.r18, hc.r8_0, hc.r8_1, hc.r11_0, hc.r11_1, hc.r60_0, hc.r60_1, hc.r60_4, hc.r64_0, hc.r64_3, hc.r64_4, hc.r68_0, hc.r41_0, hc.r41_1, hc.r42_0, hc.r42_1, hc.k7, hc.k8, hc.k9, hc.k11, hc.k12, hc.k13, hc.k32, hc.k41, hc.k42, hc.k43, hc.k60, hc.k61, hc.k62, hc.k63, hc.k64, hc.k65, hc.k66, hc.k67, hc.k68, hc.k69, hc.k70, hc.k71, hc.n6, hc.n7, hc.n8, hc.n9, hc.n11, hc.n12, hc.n13, hc.n32, hc.n41, hc.n42, hc.n43, hc.n60, hc.n61, hc.n62, hc.n63, hc.n64, hc.n65, hc.n66, hc.n67, hc.n68, hc.n69, hc.n70, hc.n71, h1, h2, r0, tt]
        exact e2
      · have s1 : sb (T p) = 10 := (sb_pos tr (by omega)).mpr (by omega)
        rw [s1] at tt
        simp (disch := omega) only [Tokens_step_11, Tokens_step_25, Tokens_step_39, Tokens_step_49, wr_id, ix_id, okx, if_pos, if_neg, Int.toNat_of_nonneg, bak_v, bak_n, wr_b01, wr_bt, b01_or, b01_0, b01_1, lc_lt0, lc_gt0, lc_eq0, wl_wr, wr_wr, wl_id, true_and, and_true, true_or, or_true, not_true_eq_false, not_false_eq_true, nc0, nc1, nc2, nc3, nc4, nc5, nc6, nc7, nc8, nc9, nc10, nc11, nc12, nc13, nc14, nc15, nc16, nc17, nc18, nc19, nc20, nc21, nc22, nc23, nc35, nc47, nc59, nc60, nc61, nc73, nc74, nc214, nc215, nc1115, nc2230, nc3345, if_true, if_false, Int.reduceToNat, hc.k6, hc.r5, hc.r6, hc.r0, hc.r2, hc.r7, hc.r8, hc.r9, hc.r10, hc.r11, hc.r12, hc.r13, hc.r14, hc.r15, hc.r16, hc.r17, hc.r18, hc.r8_0, hc.r8_1, hc.r11_0, hc.r11_1, hc.r60_0, hc.r60_1, hc.r60_4, hc.r64_0, hc.r64_3, hc.r64_4, hc.r68_0, hc.r41_0, hc.r41_1, hc.r42_0, hc.r42_1, hc.k7, hc.k8, hc.k9, hc.k11, hc.k12, hc.k13, hc.k32, hc.k41, hc.k42, hc.k43, hc.k60, hc.k61, hc.k62, hc.k63, hc.k64, hc.k65, hc.k66, hc.k67, hc.k68, hc.k69, hc.k70, hc.k71, hc.n6, hc.n7, hc.n8, hc.n9, hc.n11, hc.n12, hc.n13, hc.n32, hc.n41, hc.n42, hc.n43, hc.n60, hc.n61, hc.n62, hc.n63, hc.n64, hc.n65, hc.n66, hc.n67, hc.n68, hc.n69, hc.n70, hc.n71, h1, h2, r0, tt]
        exact e2
    · have qc : ¬ qB T p = true := by unfold qB; simp only [decide_eq_true_eq]; exact c
      have s1 : ¬ sb (T p) = 32 := fun z => c (Or.inr ((sb_pos tr (by omega)).mp z))
      have s2 : ¬ sb (T p) = 10 := fun z => c (Or.inl ((sb_pos tr (by omega)).mp z))
      refine ⟨h, ?_, by rw [adv_no hp qc, h2], Fr.rf⟩
      rw [Tokens_step_0]
      simp (disch := omega) only [Tokens_step_11, Tokens_step_25, wr_id, ix_id, okx, if_pos, if_neg, Int.toNat_of_nonneg, bak_v, bak_n, wr_b01, wr_bt, b01_or, b01_0, b01_1, lc_lt0, lc_gt0, lc_eq0, wl_wr, wr_wr, wl_id, true_and, and_true, true_or, or_true, not_true_eq_false, not_false_eq_true, nc0, nc1, nc2, nc3, nc4, nc5, nc6, nc7, nc8, nc9, nc10, nc11, nc12, nc13, nc14, nc15, nc16, nc17, nc18, nc19, nc20, nc21, nc22, nc23, nc35, nc47, nc59, nc60, nc61, nc73, nc74, nc214, nc215, nc1115, nc2230, nc3345, if_true, if_false, Int.reduceToNat, hc.k6, hc.r5, hc.r6, hc.r0, hc.r2, hc.r7, hc.r8, hc.r9, hc.r10, hc.r11, hc.r12, hc.r13, hc.r14, hc.r15, hc.r16, hc.r17, hc.r18, hc.r8_0, hc.r8_1, hc.r11_0, hc.r11_1, hc.r60_0, hc.r60_1, hc.r60_4, hc.r64_0, hc.r64_3, hc.r64_4, hc.r68_0, hc.r41_0, hc.r41_1, hc.r42_0, hc.r42_1, hc.k7, hc.k8, hc.k9, hc.k11, hc.k12, hc.k13, hc.k32, hc.k41, hc.k42, hc.k43, hc.k60, hc.k61, hc.k62, hc.k63, hc.k64, hc.k65, hc.k66, hc.k67, hc.k68, hc.k69, hc.k70, hc.k71, hc.n6, hc.n7, hc.n8, hc.n9, hc.n11, hc.n12, hc.n13, hc.n32, hc.n41, hc.n42, hc.n43, hc.n60, hc.n61, hc.n62, hc.n63, hc.n64, hc.n65, hc.n66, hc.n67, hc.n68, hc.n69, hc.n70, hc.n71, h1, h2, r0, tt]
theorem c_num {d w : Nat} {T : Int → Int} {n a : Int} (a0 : 0 ≤ a) : ∀ p, a ≤ p → p ≤ n → ∀ h v, CX h w T n → hI h 9 5 = a → hI h 9 2 = p → hI h 9 4 = v → ∃ h', EX (d+1) m_Tokens_scanNumber 5 [(0, .inr (.inr (9)))] [] (h) = EX (d+1) m_Tokens_scanNumber 81 [(0, .inr (.inr (9)))] [] (h') ∧ hI h' 9 2 = adv (qD T) p n ∧ hI h' 9 4 = fo (nuF T a) p (adv (qD T) p n) v ∧ Fr (fun a k => a = 9 ∧ (k = 2 ∨ k = 4)) h h' := by
  refine up_ind (hi := n) ?_ ?_
  · intro p hp p0 p1 h v x h5 h2 h4
    have hc := x.1
    have h1 := x.2.2.2.2.2.1
    have nr := x.2.2.2.2.2.2
    refine ⟨h, ?_, by rw [adv_stop hp, h2], by rw [adv_stop hp, fo_stop (Int.le_refl _), h4], Fr.rf⟩
    rw [Tokens_scanNumber_5]
    simp (disch := omega) only [wr_id, ix_id, okx, if_pos, if_neg, Int.toNat_of_nonneg, bak_v, bak_n, wr_b01, wr_bt, b01_or, b01_0, b01_1, lc_lt0, lc_gt0, lc_eq0, wl_wr, wr_wr, wl_id, true_and, and_true, true_or, or_true, not_true_eq_false, not_false_eq_true, nc0, nc1, nc2, nc3, nc4, nc5, nc6, nc7, nc8, nc9, nc10, nc11, nc12, nc13, nc14, nc15, nc16, nc17, nc18, nc19, nc20, nc21, nc22, nc23, nc35, nc47, nc59, nc60, nc61, nc73, nc74, nc214, nc215, nc1115, nc2230, nc3345, if_true, if_false, Int.reduceToNat, hc.k9, h1, h2]
  · intro p hp ih p0 p1 h v x h5 h2 h4
    have hc := x.1
    have h1 := x.2.2.2.2.2.1
    have nr := x.2.2.2.2.2.2
    have r0 := x.2.2.1
    have tt := x.t (by omega) hp
    have tr := x.2.2.2.2.1 p
    have sr := sb_rng (T p) tr
    have ed := c_digit (d := d) (h := h) (t := T p) tr
    by_cases c : 48 ≤ T p ∧ T p ≤ 57
    · have qc : qD T p = true := by unfold qD; simp only [decide_eq_true_eq]; exact c
      have ap := adv_pos hp qc
      have b1 : b01 (48 ≤ T p ∧ T p ≤ 57) = 1 := by unfold b01; rw [if_pos c]
      rw [b1] at ed
      have st : sb (T p) = T p := (sb_pos tr (by omega)).mpr rfl
      by_cases c3 : p - a < 3
      · have f0 : Fr (fun a k => a = 9 ∧ (k = 2 ∨ k = 4)) h (pI (pI h 9 4 (10 * v + T p - 48)) 9 2 (p + 1)) := Fr.pI (Fr.pI Fr.rf ⟨rfl, Or.inr rfl⟩) ⟨rfl, Or.inl rfl⟩
        obtain ⟨h2', e3, k2, l2, f2⟩ := ih (by omega) (by omega) _ (10 * v + T p - 48) (x.k f0 (fun a k z => by unfold pCk; omega)) (by rw [f0.I (by omega)]; exact h5) (by rw [hI_pI, if_pos ⟨rfl, rfl⟩]) (by simp [hI_pI])
        refine ⟨h2', ?_, by rw [adv_go hp qc]; exact k2, ?_, f0.tr f2⟩
        · rw [Tokens_scanNumber_5]
          simp (disch := omega) only [Tokens_scanNumber_16, Tokens_scanNumber_28, Tokens_scanNumber_31, wr_id, ix_id, okx, if_pos, if_neg, Int.toNat_of_nonneg, bak_v, bak_n, wr_b01, wr_bt, b01_or, b01_0, b01_1, lc_lt0, lc_gt0, lc_eq0, wl_wr, wr_wr, wl_id, true_and, and_true, true_or, or_true, not_true_eq_false, not_false_eq_true, nc0, nc1, nc2, nc3, nc4, nc5, nc6, nc7, nc8, nc9, nc10, nc11, nc12, nc13, nc14, nc15, nc16, nc17, nc18, nc19, nc20, nc21, nc22, nc23, nc35, nc47, nc59, nc60, nc61, nc73, nc74, nc214, nc215, nc1115, nc2230, nc3345, if_true, if_false, Int.reduceToNat, hc.k6, hc.r5, hc.r6, hc.r0, hc.r2, hc.r7, hc.r8, hc.r9, hc.r10, hc.r11, hc.r12, hc.r13, hc.r14, hc.r15, hc.r16, hc.r17, hc.r18, hc.r8_0, hc.r8_1, hc.r11_0, hc.r11_1, hc.r60_0, hc.r60_1, hc.r60_4, hc.r64_0, hc.r64_3, hc.r64_4, hc.r68_0, hc.r41_0, hc.r41_1, hc.r42_0, hc.r42_1, hc.k7, hc.k8, hc.k9, hc.k11, hc.k12, hc.k13, hc.k32, hc.k41, hc.k42, hc.k43, hc.k60, hc.k61, hc.k62, hc.k63, hc.k64, hc.k65, hc.k66, hc.k67, hc.k68, hc.k69, hc.k70, hc.k71, hc.n6, hc.n7, hc.n8, hc.n9, hc.n11, hc.n12, hc.n13, hc.n32, hc.n41, hc.n42, hc.n43, hc.n60, hc.n61, hc.n62, hc.n63, hc.n64, hc.n65, hc.n66, hc.n67, hc.n68, hc.n69, hc.n70, hc.n71, h1, h2, h5, r0, tt, ed]
          rw [st] at tt
          simp (disch := omega) only [Tokens_scanNumber_44, Tokens_scanNumber_68, Tokens_scanNumber_78, wr_id, ix_id, okx, if_pos, if_neg, Int.toNat_of_nonneg, bak_v, bak_n, wr_b01, wr_bt, b01_or, b01_0, b01_1, lc_lt0, lc_gt0, lc_eq0, wl_wr, wr_wr, wl_id, true_and, and_true, true_or, or_true, not_true_eq_false, not_false_eq_true, nc0, nc1, nc2, nc3, nc4, nc5, nc6, nc7, nc8, nc9, nc10, nc11, nc12, nc13, nc14, nc15, nc16, nc17, nc18, nc19, nc20, nc21, nc22, nc23, nc35, nc47, nc59, nc60, nc61, nc73, nc74, nc214, nc215, nc1115, nc2230, nc3345, if_true, if_false, Int.reduceToNat, hc.k6, hc.r5, hc.r6, hc.r0, hc.r2, hc.r7, hc.r8, hc.r9, hc.r10, hc.r11, hc.r12, hc.r13, hc.r14, hc.r15, hc.r16, hc.r17, hc.r18, hc.r8_0, hc.r8_1, hc.r11_0, hc.r11_1, hc.r60_0, hc.r60_1, hc.r60_4, hc.r64_0, hc.r64_3, hc.r64_4, hc.r68_0, hc.r41_0, hc.r41_1, hc.r42_0, hc.r42_1, hc.k7, hc.k8, hc.k9, hc.k11, hc.k12, hc.k13, hc.k32, hc.k41, hc.k42, hc.k43, hc.k60, hc.k61, hc.k62, hc.k63, hc.k64, hc.k65, hc.k66, hc.k67, hc.k68, hc.k69, hc.k70, hc.k71, hc.n6, hc.n7, hc.n8, hc.n9, hc.n11, hc.n12, hc.n13, hc.n32, hc.n41, hc.n42, hc.n43, hc.n60, hc.n61, hc.n62, hc.n63, hc.n64, hc.n65, hc.n66, hc.n67, hc.n68, hc.n69, hc.n70, hc.n71, h1, h2, h4, r0, tt, sK_pI, hI_pI]
          rw [show v * 10 + T p - 48 = 10 * v + T p - 48 by omega]
          exact e3
        · rw [l2, fo_step (show p < adv (qD T) p n by omega), ← adv_go hp qc]
          have : nuF T a p v = 10 * v + T p - 48 := by unfold nuF; rw [if_pos c3]
          rw [this]
      · have f0 : Fr (fun a k => a = 9 ∧ (k = 2 ∨ k = 4)) h (pI h 9 2 (p + 1)) := Fr.pI Fr.rf ⟨rfl, Or.inl rfl⟩
        obtain ⟨h2', e3, k2, l2, f2⟩ := ih (by omega) (by omega) _ v (x.k f0 (fun a k z => by unfold pCk; omega)) (by rw [f0.I (by omega)]; exact h5) (by rw [hI_pI, if_pos ⟨rfl, rfl⟩]) (by rw [hI_pI, if_neg (by omega)]; exact h4)
        refine ⟨h2', ?_, by rw [adv_go hp qc]; exact k2, ?_, f0.tr f2⟩
        · rw [Tokens_scanNumber_5]
          simp (disch := omega) only [Tokens_scanNumber_16, Tokens_scanNumber_28, Tokens_scanNumber_31, Tokens_scanNumber_68, Tokens_scanNumber_78, wr_id, ix_id, okx, if_pos, if_neg, Int.toNat_of_nonneg, bak_v, bak_n, wr_b01, wr_bt, b01_or, b01_0, b01_1, lc_lt0, lc_gt0, lc_eq0, wl_wr, wr_wr, wl_id, true_and, and_true, true_or, or_true, not_true_eq_false, not_false_eq_true, nc0, nc1, nc2, nc3, nc4, nc5, nc6, nc7, nc8, nc9, nc10, nc11, nc12, nc13, nc14, nc15, nc16, nc17, nc18, nc19, nc20, nc21, nc22, nc23, nc35, nc47, nc59, nc60, nc61, nc73, nc74, nc214, nc215, nc1115, nc2230, nc3345, if_true, if_false, Int.reduceToNat, hc.k6, hc.r5, hc.r6, hc.r0, hc.r2, hc.r7, hc.r8, hc.r9, hc.r10, hc.r11, hc.r12, hc.r13, hc.r14, hc.r15, hc.r16, hc.r17, hc.r18, hc.r8_0, hc.r8_1, hc.r11_0, hc.r11_1, hc.r60_0, hc.r60_1, hc.r60_4, hc.r64_0, hc.r64_3, hc.r64_4, hc.r68_0, hc.r41_0, hc.r41_1, hc.r42_0, hc.r42_1, hc.k7, hc.k8, hc.k9, hc.k11, hc.k12, hc.k13, hc.k32, hc.k41, hc.k42, hc.k43, hc.k60, hc.k61, hc.k62, hc.k63, hc.k64, hc.k65, hc.k66, hc.k67, hc.k68, hc.k69, hc.k70, hc.k71, hc.n6, hc.n7, hc.n8, hc.n9, hc.n11, hc.n12, hc.n13, hc.n32, hc.n41, hc.n42, hc.n43, hc.n60, hc.n61, hc.n62, hc.n63, hc.n64, hc.n65, hc.n66, hc.n67, hc.n68, hc.n69, hc.n70, hc.n71, h1, h2, h5, r0, tt, ed]
          exact e3
        · rw [l2, fo_step (show p < adv (qD T) p n by omega), ← adv_go hp qc]
          have : nuF T a p v = v := by unfold nuF; rw [if_neg c3]
          rw [this]
    · have qc : ¬ qD T p = true := by unfold qD; simp only [decide_eq_true_eq]; exact c
      have b1 : b01 (48 ≤ T p ∧ T p ≤ 57) = 0 := by unfold b01; rw [if_neg c]
      rw [b1] at ed
      refine ⟨h, ?_, by rw [adv_no hp qc, h2], by rw [adv_no hp qc, fo_stop (Int.le_refl _), h4], Fr.rf⟩
      rw [Tokens_scanNumber_5]
      simp (disch := omega) only [Tokens_scanNumber_16, Tokens_scanNumber_28, wr_id, ix_id, okx, if_pos, if_neg, Int.toNat_of_nonneg, bak_v, bak_n, wr_b01, wr_bt, b01_or, b01_0, b01_1, lc_lt0, lc_gt0, lc_eq0, wl_wr, wr_wr, wl_id, true_and, and_true, true_or, or_true, not_true_eq_false, not_false_eq_true, nc0, nc1, nc2, nc3, nc4, nc5, nc6, nc7, nc8, nc9, nc10, nc11, nc12, nc13, nc14, nc15, nc16, nc17, nc18, nc19, nc20, nc21, nc22, nc23, nc35, nc47, nc59, nc60, nc61, nc73, nc74, nc214, nc215, nc1115, nc2230, nc3345, if_true, if_false, Int.reduceToNat, hc.k6, hc.r5, hc.r6, hc.r0, hc.r2, hc.r7, hc.r8, hc.r9, hc.r10, hc.r11, hc.r12, hc.r13, hc.r14, hc.r15, hc.r16, hc.r17, hc.r18, hc.r8_0, hc.r8_1, hc.r11_0, hc.r11_1, hc.r60_0, hc.r60_1, hc.r60_4, hc.r64_0, hc.r64_3, hc.r64_4, hc.r68_0, hc.r41_0, hc.r41_1, hc.r42_0, hc.r42_1, hc.k7, hc.k8, hc.k9, hc.k11, hc.k12, hc.k13, hc.k32, hc.k41, hc.k42, hc.k43, hc.k60, hc.k61, hc.k62, hc.k63, hc.k64, hc.k65, hc.k66, hc.k67, hc.k68, hc.k69, hc.k70, hc.k71, hc.n6, hc.n7, hc.n8, hc.n9, hc.n11, hc.n12, hc.n13, hc.n32, hc.n41, hc.n42, hc.n43, hc.n60, hc.n61, hc.n62, hc.n63, hc.n64, hc.n65, hc.n66, hc.n67, hc.n68, hc.n69, hc.n70, hc.n71, h1, h2, r0, tt, ed]
theorem c_word_1 {d w : Nat} {T : Int → Int} {n : Int} : ∀ p, 0 ≤ p → p ≤ n → ∀ h, CX h w T n → hI h 9 2 = p → ∃ h', EX (d+1) m_Tokens_scanWord 0 [(0, .inr (.inr (9)))] [] (h) = EX (d+1) m_Tokens_scanWord 39 [(0, .inr (.inr (9)))] [] (h') ∧ hI h' 9 2 = adv (qL T) p n ∧ Fr (fun a k => a = 9 ∧ k = 2) h h' := by
  refine up_ind (hi := n) ?_ ?_
  · intro p hp p0 p1 h x h2
    have hc := x.1
    have h1 := x.2.2.2.2.2.1
    have nr := x.2.2.2.2.2.2
    refine ⟨h, ?_, by rw [adv_stop hp, h2], Fr.rf⟩
    rw [Tokens_scanWord_0]
    simp (disch := omega) only [wr_id, ix_id, okx, if_pos, if_neg, Int.toNat_of_nonneg, bak_v, bak_n, wr_b01, wr_bt, b01_or, b01_0, b01_1, lc_lt0, lc_gt0, lc_eq0, wl_wr, wr_wr, wl_id, true_and, and_true, true_or, or_true, not_true_eq_false, not_false_eq_true, nc0, nc1, nc2, nc3, nc4, nc5, nc6, nc7, nc8, nc9, nc10, nc11, nc12, nc13, nc14, nc15, nc16, nc17, nc18, nc19, nc20, nc21, nc22, nc23, nc35, nc47, nc59, nc60, nc61, nc73, nc74, nc214, nc215, nc1115, nc2230, nc3345, if_true, if_false, Int.reduceToNat, hc.k9, h1, h2]
  · intro p hp ih p0 p1 h x h2
    have hc := x.1
    have h1 := x.2.2.2.2.2.1
    have nr := x.2.2.2.2.2.2
    have r0 := x.2.2.1
    have tt := x.t (by omega) hp
    have tr := x.2.2.2.2.1 p
    have el := c_letter (d := d) (h := h) (t := T p) tr
    by_cases c : 97 ≤ T p ∧ T p ≤ 122
    · have qc : qL T p = true := by unfold qL; simp only [decide_eq_true_eq]; exact c
      have b1 : b01 (97 ≤ T p ∧ T p ≤ 122) = 1 := by unfold b01; rw [if_pos c]
      rw [b1] at el
      have f0 : Fr (fun a k => a = 9 ∧ k = 2) h (pI h 9 2 (p + 1)) := Fr.pI Fr.rf ⟨rfl, rfl⟩
      obtain ⟨h2', e2, k2, f2⟩ := ih (by omega) (by omega) _ (x.k f0 (fun a k z => by unfold pCk; omega)) (by rw [hI_pI, if_pos ⟨rfl, rfl⟩])
      refine ⟨h2', ?_, by rw [adv_go hp qc]; exact k2, f0.tr f2⟩
      rw [Tokens_scanWord_0]
      simp (disch := omega) only [Tokens_scanWord_11, Tokens_scanWord_23, Tokens_scanWord_26, Tokens_scanWord_36, wr_id, ix_id, okx, if_pos, if_neg, Int.toNat_of_nonneg, bak_v, bak_n, wr_b01, wr_bt, b01_or, b01_0, b01_1, lc_lt0, lc_gt0, lc_eq0, wl_wr, wr_wr, wl_id, true_and, and_true, true_or, or_true, not_true_eq_false, not_false_eq_true, nc0, nc1, nc2, nc3, nc4, nc5, nc6, nc7, nc8, nc9, nc10, nc11, nc12, nc13, nc14, nc15, nc16, nc17, nc18, nc19, nc20, nc21, nc22, nc23, nc35, nc47, nc59, nc60, nc61, nc73, nc74, nc214, nc215, nc1115, nc2230, nc3345, if_true, if_false, Int.reduceToNat, hc.k6, hc.r5, hc.r6, hc.r0, hc.r2, hc.r7, hc.r8, hc.r9, hc.r10, hc.r11, hc.r12, hc.r13, hc.r14, hc.r15, hc.r16, hc.r17, hc.r18, hc.r8_0, hc.r8_1, hc.r11_0, hc.r11_1, hc.r60_0, hc.r60_1, hc.r60_4, hc.r64_0, hc.r64_3, hc.r64_4, hc.r68_0, hc.r41_0, hc.r41_1, hc.r42_0, hc.r42_1, hc.k7, hc.k8, hc.k9, hc.k11, hc.k12, hc.k13, hc.k32, hc.k41, hc.k42, hc.k43, hc.k60, hc.k61, hc.k62, hc.k63, hc.k64, hc.k65, hc.k66, hc.k67, hc.k68, hc.k69, hc.k70, hc.k71, hc.n6, hc.n7, hc.n8, hc.n9, hc.n11, hc.n12, hc.n13, hc.n32, hc.n41, hc.n42, hc.n43, hc.n60, hc.n61, hc.n62, hc.n63, hc.n64, hc.n65, hc.n66, hc.n67, hc.n68, hc.n69, hc.n70, hc.n71, h1, h2, r0, tt, el]
      exact e2
    · have qc : ¬ qL T p = true := by unfold qL; simp only [decide_eq_true_eq]; exact c
      have b1 : b01 (97 ≤ T p ∧ T p ≤ 122) = 0 := by unfold b01; rw [if_neg c]
      rw [b1] at el
      refine ⟨h, ?_, by rw [adv_no hp qc, h2], Fr.rf⟩
      rw [Tokens_scanWord_0]
      simp (disch := omega) only [Tokens_scanWord_11, Tokens_scanWord_23, wr_id, ix_id, okx, if_pos, if_neg, Int.toNat_of_nonneg, bak_v, bak_n, wr_b01, wr_bt, b01_or, b01_0, b01_1, lc_lt0, lc_gt0, lc_eq0, wl_wr, wr_wr, wl_id, true_and, and_true, true_or, or_true, not_true_eq_false, not_false_eq_true, nc0, nc1, nc2, nc3, nc4, nc5, nc6, nc7, nc8, nc9, nc10, nc11, nc12, nc13, nc14, nc15, nc16, nc17, nc18, nc19, nc20, nc21, nc22, nc23, nc35, nc47, nc59, nc60, nc61, nc73, nc74, nc214, nc215, nc1115, nc2230, nc3345, if_true, if_false, Int.reduceToNat, hc.k6, hc.r5, hc.r6, hc.r0, hc.r2, hc.r7, hc.r8, hc.r9, hc.r10, hc.r11, hc.r12, hc.r13, hc.r14, hc.r15, hc.r16, hc.r17, hc.r18, hc.r8_0, hc.r8_1, hc.r11_0, hc.r11_1, hc.r60_0, hc.r60_1, hc.r60_4, hc.r64_0, hc.r64_3, hc.r64_4, hc.r68_0, hc.r41_0, hc.r41_1, hc.r42_0, hc.r42_1, hc.k7, hc.k8, hc.k9, hc.k11, hc.k12, hc.k13, hc.k32, hc.k41, hc.k42, hc.k43, hc.k60, hc.k61, hc.k62, hc.k63, hc.k64, hc.k65, hc.k66, hc.k67, hc.k68, hc.k69, hc.k70, hc.k71, hc.n6, hc.n7, hc.n8, hc.n9, hc.n11, hc.n12, hc.n13, hc.n32, hc.n41, hc.n42, hc.n43, hc.n60, hc.n61, hc.n62, hc.n63, hc.n64, hc.n65, hc.n66, hc.n67, hc.n68, hc.n69, hc.n70, hc.n71, h1, h2, r0, tt, el]
theorem sgK_lt {t : Int} (h : ¬ sgK t = 23) : t < 128 := by
  by_cases c : t < 128
  · exact c
  · exfalso
    refine h ?_
    unfold sgK
    simp (disch := omega) only [if_neg]
theorem tx0_rng : ∀ k : Fin 88, 0 ≤ txF 0 (k.1 : Int) ∧ txF 0 (k.1 : Int) ≤ 127 := by decide +kernel
/-- the rest of a word that is unlike -/
theorem c_word_2 {d w : Nat} {h : Hp} {T : Int → Int} {n a b : Int} (x : CX h w T n) (h5 : hI h 9 5 = a) (h2 : hI h 9 2 = b) (h3 : hI h 9 3 = 3) (hab : 0 ≤ a ∧ a ≤ b ∧ b ≤ n) {wd : Int} : ∀ (l : List Int) (i k : Int), 0 ≤ k → k + l.length < 88 → SLr (txF 0) k l = true → EX (d) m_Tokens_scanWord 58 [(0, .inr (.inr (9))), (1, .inl (wd)), (2, .inl (i)), (3, .inl (0)), (4, .inl (k))] [] (h) = EX (d) m_Tokens_scanWord 58 [(0, .inr (.inr (9))), (1, .inl (wd + 1)), (2, .inl (a)), (3, .inl (1)), (4, .inl (k + l.length + 1))] [] (h) := by
  have hc := x.1
  have st := x.2.1
  have sl2 : sL h 2 = 88 := by rw [sL_eq, st.2.1.1]; rfl
  intro l
  induction l with
  | nil =>
    intro i k k0 hl sl
    simp only [SLr, decide_eq_true_eq] at sl
    simp only [List.length_nil] at hl
    have e4 := st.2.2.1 k.toNat
    rw [Int.toNat_of_nonneg k0, sl] at e4
    rw [Tokens_scanWord_58]
    simp (disch := omega) only [Tokens_scanWord_68, Tokens_scanWord_76, Tokens_scanWord_127, Tokens_scanWord_147, Tokens_scanWord_157, wr_id, ix_id, okx, if_pos, if_neg, Int.toNat_of_nonneg, bak_v, bak_n, wr_b01, wr_bt, b01_or, b01_0, b01_1, lc_lt0, lc_gt0, lc_eq0, wl_wr, wr_wr, wl_id, true_and, and_true, true_or, or_true, not_true_eq_false, not_false_eq_true, nc0, nc1, nc2, nc3, nc4, nc5, nc6, nc7, nc8, nc9, nc10, nc11, nc12, nc13, nc14, nc15, nc16, nc17, nc18, nc19, nc20, nc21, nc22, nc23, nc35, nc47, nc59, nc60, nc61, nc73, nc74, nc214, nc215, nc1115, nc2230, nc3345, if_true, if_false, Int.reduceToNat, cs0, cs1, st.1.1, st.2.1.1, sl2, hc.k9, h3, h5, e4, List.length_nil, Int.add_zero]
  | cons c r ih =>
    intro i k k0 hl sl
    simp only [SLr, Bool.and_eq_true, decide_eq_true_eq, Bool.not_eq_true', decide_eq_false_iff_not] at sl
    simp only [List.length_cons] at hl
    obtain ⟨s1, s2, s4, s3⟩ := sl
    have e4 := st.2.2.1 k.toNat
    rw [Int.toNat_of_nonneg k0, s1] at e4
    have ih := ih (i + 1) (k + 1) (by omega) (by omega) s3
    rw [Tokens_scanWord_58]
    simp (disch := omega) only [Tokens_scanWord_68, Tokens_scanWord_76, Tokens_scanWord_92, Tokens_scanWord_119, Tokens_scanWord_120, Tokens_scanWord_157, wr_id, ix_id, okx, if_pos, if_neg, Int.toNat_of_nonneg, bak_v, bak_n, wr_b01, wr_bt, b01_or, b01_0, b01_1, lc_lt0, lc_gt0, lc_eq0, wl_wr, wr_wr, wl_id, true_and, and_true, true_or, or_true, not_true_eq_false, not_false_eq_true, nc0, nc1, nc2, nc3, nc4, nc5, nc6, nc7, nc8, nc9, nc10, nc11, nc12, nc13, nc14, nc15, nc16, nc17, nc18, nc19, nc20, nc21, nc22, nc23, nc35, nc47, nc59, nc60, nc61, nc73, nc74, nc214, nc215, nc1115, nc2230, nc3345, if_true, if_false, Int.reduceToNat, cs0, cs1, st.1.1, st.2.1.1, sl2, hc.k9, h3, e4]
    refine ih.trans ?_
    congr 1
    simp only [List.length_cons]
    rw [show k + 1 + (r.length : Int) + 1 = k + ((r.length + 1 : Nat) : Int) + 1 by omega]
theorem c_word_3 {d w : Nat} {h : Hp} {T : Int → Int} {n a b : Int} (x : CX h w T n) (h5 : hI h 9 5 = a) (h2 : hI h 9 2 = b) (h3 : hI h 9 3 = 3) (hab : 0 ≤ a ∧ a ≤ b ∧ b ≤ n) {wd : Int} (hw : 128 ≤ wd ∧ wd ≤ 146) : ∀ (l : List Int) (i k : Int), a ≤ i → i ≤ b → 0 ≤ k → k + l.length < 88 → SLr (txF 0) k l = true → EX (d) m_Tokens_scanWord 58 [(0, .inr (.inr (9))), (1, .inl (wd)), (2, .inl (i)), (3, .inl (1)), (4, .inl (k))] [] (h) = if txt T i b = l then some (.inl 0, pI h 9 3 wd) else EX (d) m_Tokens_scanWord 58 [(0, .inr (.inr (9))), (1, .inl (wd + 1)), (2, .inl (a)), (3, .inl (1)), (4, .inl (k + l.length + 1))] [] (h) := by
  have hc := x.1
  have st := x.2.1
  have nr := x.2.2.2.2.2.2
  have r0 := x.2.2.1
  have sl2 : sL h 2 = 88 := by rw [sL_eq, st.2.1.1]; rfl
  intro l
  induction l with
  | nil =>
    intro i k i0 i1 k0 hl sl
    simp only [SLr, decide_eq_true_eq] at sl
    simp only [List.length_nil] at hl
    have e4 := st.2.2.1 k.toNat
    rw [Int.toNat_of_nonneg k0, sl] at e4
    rw [Tokens_scanWord_58]
    by_cases c : i = b
    · rw [if_pos (show txt T i b = [] from txt_nil (by omega))]
      simp (disch := omega) only [Tokens_scanWord_68, Tokens_scanWord_76, Tokens_scanWord_127, Tokens_scanWord_131, Tokens_scanWord_139, Tokens_scanWord_144, Tokens_scanWord_157, wr_id, ix_id, okx, if_pos, if_neg, Int.toNat_of_nonneg, bak_v, bak_n, wr_b01, wr_bt, b01_or, b01_0, b01_1, lc_lt0, lc_gt0, lc_eq0, wl_wr, wr_wr, wl_id, true_and, and_true, true_or, or_true, not_true_eq_false, not_false_eq_true, nc0, nc1, nc2, nc3, nc4, nc5, nc6, nc7, nc8, nc9, nc10, nc11, nc12, nc13, nc14, nc15, nc16, nc17, nc18, nc19, nc20, nc21, nc22, nc23, nc35, nc47, nc59, nc60, nc61, nc73, nc74, nc214, nc215, nc1115, nc2230, nc3345, if_true, if_false, Int.reduceToNat, cs0, cs1, st.1.1, st.2.1.1, sl2, hc.k9, h2, h3, e4]
      rw [Tokens_scanWord_58]
      have sl2' : sL (pI h 9 3 wd) 2 = 88 := sl2
      by_cases c2 : k + 1 < 88
      · simp (disch := omega) only [Tokens_scanWord_68, Tokens_scanWord_163, wr_id, ix_id, okx, if_pos, if_neg, Int.toNat_of_nonneg, bak_v, bak_n, wr_b01, wr_bt, b01_or, b01_0, b01_1, lc_lt0, lc_gt0, lc_eq0, wl_wr, wr_wr, wl_id, true_and, and_true, true_or, or_true, not_true_eq_false, not_false_eq_true, nc0, nc1, nc2, nc3, nc4, nc5, nc6, nc7, nc8, nc9, nc10, nc11, nc12, nc13, nc14, nc15, nc16, nc17, nc18, nc19, nc20, nc21, nc22, nc23, nc35, nc47, nc59, nc60, nc61, nc73, nc74, nc214, nc215, nc1115, nc2230, nc3345, if_true, if_false, Int.reduceToNat, cs0, cs1, sK_pI, st.1.1, sl2', hc.k9, hI_pI, and_self]
      · simp (disch := omega) only [Tokens_scanWord_163, wr_id, ix_id, okx, if_pos, if_neg, Int.toNat_of_nonneg, bak_v, bak_n, wr_b01, wr_bt, b01_or, b01_0, b01_1, lc_lt0, lc_gt0, lc_eq0, wl_wr, wr_wr, wl_id, true_and, and_true, true_or, or_true, not_true_eq_false, not_false_eq_true, nc0, nc1, nc2, nc3, nc4, nc5, nc6, nc7, nc8, nc9, nc10, nc11, nc12, nc13, nc14, nc15, nc16, nc17, nc18, nc19, nc20, nc21, nc22, nc23, nc35, nc47, nc59, nc60, nc61, nc73, nc74, nc214, nc215, nc1115, nc2230, nc3345, if_true, if_false, Int.reduceToNat, cs0, cs1, sK_pI, st.1.1, sl2']
    · have nt : ¬ txt T i b = [] := by rw [txt_cons (by omega)]; exact List.cons_ne_nil _ _
      rw [if_neg nt]
      simp (disch := omega) only [Tokens_scanWord_68, Tokens_scanWord_76, Tokens_scanWord_127, Tokens_scanWord_131, Tokens_scanWord_147, Tokens_scanWord_157, wr_id, ix_id, okx, if_pos, if_neg, Int.toNat_of_nonneg, bak_v, bak_n, wr_b01, wr_bt, b01_or, b01_0, b01_1, lc_lt0, lc_gt0, lc_eq0, wl_wr, wr_wr, wl_id, true_and, and_true, true_or, or_true, not_true_eq_false, not_false_eq_true, nc0, nc1, nc2, nc3, nc4, nc5, nc6, nc7, nc8, nc9, nc10, nc11, nc12, nc13, nc14, nc15, nc16, nc17, nc18, nc19, nc20, nc21, nc22, nc23, nc35, nc47, nc59, nc60, nc61, nc73, nc74, nc214, nc215, nc1115, nc2230, nc3345, if_true, if_false, Int.reduceToNat, cs0, cs1, st.1.1, st.2.1.1, sl2, hc.k9, h2, h3, h5, e4, List.length_nil, Int.add_zero]
  | cons c r ih =>
    intro i k i0 i1 k0 hl sl
    simp only [SLr, Bool.and_eq_true, decide_eq_true_eq, Bool.not_eq_true', decide_eq_false_iff_not] at sl
    simp only [List.length_cons] at hl
    obtain ⟨s1, s2, s4, s3⟩ := sl
    have e4 := st.2.2.1 k.toNat
    rw [Int.toNat_of_nonneg k0, s1] at e4
    have el : (k + 1 + (r.length : Int) + 1) = k + ((c :: r).length : Nat) + 1 := by simp only [List.length_cons]; omega
    have no := c_word_2 (d := d) (wd := wd) x h5 h2 h3 hab r (i + 1) (k + 1) (by omega) (by omega) s3
    rw [el] at no
    rw [Tokens_scanWord_58]
    by_cases c1 : i < b
    · have tt := x.t (k := i) (by omega) (by omega)
      have tr := x.2.2.2.2.1 i
      have sr := sb_rng (T i) tr
      by_cases c2 : sb (T i) = c
      · have c3 : T i = c := by have := (sr.2.2 (by omega)).1; omega
        have ih := ih (i + 1) (k + 1) (by omega) (by omega) (by omega) (by omega) s3
        rw [el] at ih
        have et : (txt T i b = c :: r) = (txt T (i + 1) b = r) := by
          rw [txt_cons c1, c3]
          simp
        simp only [et]
        rw [c2] at tt
        simp (disch := omega) only [Tokens_scanWord_68, Tokens_scanWord_76, Tokens_scanWord_92, Tokens_scanWord_96, Tokens_scanWord_104, Tokens_scanWord_115, Tokens_scanWord_120, Tokens_scanWord_157, wr_id, ix_id, okx, if_pos, if_neg, Int.toNat_of_nonneg, bak_v, bak_n, wr_b01, wr_bt, b01_or, b01_0, b01_1, lc_lt0, lc_gt0, lc_eq0, wl_wr, wr_wr, wl_id, true_and, and_true, true_or, or_true, not_true_eq_false, not_false_eq_true, nc0, nc1, nc2, nc3, nc4, nc5, nc6, nc7, nc8, nc9, nc10, nc11, nc12, nc13, nc14, nc15, nc16, nc17, nc18, nc19, nc20, nc21, nc22, nc23, nc35, nc47, nc59, nc60, nc61, nc73, nc74, nc214, nc215, nc1115, nc2230, nc3345, if_true, if_false, Int.reduceToNat, hc.k6, hc.r5, hc.r6, hc.r0, hc.r2, hc.r7, hc.r8, hc.r9, hc.r10, hc.r11, hc.r12, hc.r13, hc.r14, hc.r15, hc.r16, hc.r17, hc.r18, hc.r8_0, hc.r8_1, hc.r11_0, hc.r11_1, hc.r60_0, hc.r60_1, hc.r60_4, hc.r64_0, hc.r64_3, hc.r64_4, hc.r68_0, hc.r41_0, hc.r41_1, hc.r42_0, hc.r42_1, hc.k7, hc.k8, hc.k9, hc.k11, hc.k12, hc.k13, hc.k32, hc.k41, hc.k42, hc.k43, hc.k60, hc.k61, hc.k62, hc.k63, hc.k64, hc.k65, hc.k66, hc.k67, hc.k68, hc.k69, hc.k70, hc.k71, hc.n6, hc.n7, hc.n8, hc.n9, hc.n11, hc.n12, hc.n13, hc.n32, hc.n41, hc.n42, hc.n43, hc.n60, hc.n61, hc.n62, hc.n63, hc.n64, hc.n65, hc.n66, hc.n67, hc.n68, hc.n69, hc.n70, hc.n71, cs0, cs1, st.1.1, st.2.1.1, sl2, h2, h3, r0, e4, tt]
        exact ih
      · have nt : ¬ txt T i b = c :: r := by
          rw [txt_cons c1]
          intro z
          have z' : T i = c := by injection z
          have t0 := tx0_rng ⟨k.toNat, by omega⟩
          have e0 : (((⟨k.toNat, by omega⟩ : Fin 88).1 : Nat) : Int) = k := by show ((k.toNat : Nat) : Int) = k; omega
          rw [e0, s1] at t0
          refine c2 ?_
          unfold sb
          rw [if_pos (by omega)]
          exact z'
        rw [if_neg nt]
        simp (disch := omega) only [Tokens_scanWord_68, Tokens_scanWord_76, Tokens_scanWord_92, Tokens_scanWord_96, Tokens_scanWord_104, Tokens_scanWord_119, Tokens_scanWord_120, Tokens_scanWord_157, wr_id, ix_id, okx, if_pos, if_neg, Int.toNat_of_nonneg, bak_v, bak_n, wr_b01, wr_bt, b01_or, b01_0, b01_1, lc_lt0, lc_gt0, lc_eq0, wl_wr, wr_wr, wl_id, true_and, and_true, true_or, or_true, not_true_eq_false, not_false_eq_true, nc0, nc1, nc2, nc3, nc4, nc5, nc6, nc7, nc8, nc9, nc10, nc11, nc12, nc13, nc14, nc15, nc16, nc17, nc18, nc19, nc20, nc21, nc22, nc23, nc35, nc47, nc59, nc60, nc61, nc73, nc74, nc214, nc215, nc1115, nc2230, nc3345, if_true, if_false, Int.reduceToNat, hc.k6, hc.r5, hc.r6, hc.r0, hc.r2, hc.r7, hc.r8, hc.r9, hc.r10, hc.r11, hc.r12, hc.r13, hc.r14, hc.r15, hc.r16, hc.r17, hc.r18, hc.r8_0, hc.r8_1, hc.r11_0, hc.r11_1, hc.r60_0, hc.r60_1, hc.r60_4, hc.r64_0, hc.r64_3, hc.r64_4, hc.r68_0, hc.r41_0, hc.r41_1, hc.r42_0, hc.r42_1, hc.k7, hc.k8, hc.k9, hc.k11, hc.k12, hc.k13, hc.k32, hc.k41, hc.k42, hc.k43, hc.k60, hc.k61, hc.k62, hc.k63, hc.k64, hc.k65, hc.k66, hc.k67, hc.k68, hc.k69, hc.k70, hc.k71, hc.n6, hc.n7, hc.n8, hc.n9, hc.n11, hc.n12, hc.n13, hc.n32, hc.n41, hc.n42, hc.n43, hc.n60, hc.n61, hc.n62, hc.n63, hc.n64, hc.n65, hc.n66, hc.n67, hc.n68, hc.n69, hc.n70, hc.n71, cs0, cs1, st.1.1, st.2.1.1, sl2, h2, h3, r0, e4, tt]
        exact no
    · have nt : ¬ txt T i b = c :: r := by rw [txt_nil (by omega)]; intro z; cases z
      rw [if_neg nt]
      simp (disch := omega) only [Tokens_scanWord_68, Tokens_scanWord_76, Tokens_scanWord_92, Tokens_scanWord_96, Tokens_scanWord_119, Tokens_scanWord_120, Tokens_scanWord_157, wr_id, ix_id, okx, if_pos, if_neg, Int.toNat_of_nonneg, bak_v, bak_n, wr_b01, wr_bt, b01_or, b01_0, b01_1, lc_lt0, lc_gt0, lc_eq0, wl_wr, wr_wr, wl_id, true_and, and_true, true_or, or_true, not_true_eq_false, not_false_eq_true, nc0, nc1, nc2, nc3, nc4, nc5, nc6, nc7, nc8, nc9, nc10, nc11, nc12, nc13, nc14, nc15, nc16, nc17, nc18, nc19, nc20, nc21, nc22, nc23, nc35, nc47, nc59, nc60, nc61, nc73, nc74, nc214, nc215, nc1115, nc2230, nc3345, if_true, if_false, Int.reduceToNat, hc.k6, hc.r5, hc.r6, hc.r0, hc.r2, hc.r7, hc.r8, hc.r9, hc.r10, hc.r11, hc.r12, hc.r13, hc.r14, hc.r15, hc.r16, hc.r17, hc.r18, hc.r8_0, hc.r8_1, hc.r11_0, hc.r11_1, hc.r60_0, hc.r60_1, hc.r60_4, hc.r64_0, hc.r64_3, hc.r64_4, hc.r68_0, hc.r41_0, hc.r41_1, hc.r42_0, hc.r42_1, hc.k7, hc.k8, hc.k9, hc.k11, hc.k12, hc.k13, hc.k32, hc.k41, hc.k42, hc.k43, hc.k60, hc.k61, hc.k62, hc.k63, hc.k64, hc.k65, hc.k66, hc.k67, hc.k68, hc.k69, hc.k70, hc.k71, hc.n6, hc.n7, hc.n8, hc.n9, hc.n11, hc.n12, hc.n13, hc.n32, hc.n41, hc.n42, hc.n43, hc.n60, hc.n61, hc.n62, hc.n63, hc.n64, hc.n65, hc.n66, hc.n67, hc.n68, hc.n69, hc.n70, hc.n71, cs0, cs1, st.1.1, st.2.1.1, sl2, h2, h3, e4]
      exact no
theorem c_word_4 {d w : Nat} {h : Hp} {T : Int → Int} {n a b : Int} (x : CX h w T n) (h5 : hI h 9 5 = a) (h2 : hI h 9 2 = b) (h3 : hI h 9 3 = 3) (hab : 0 ≤ a ∧ a ≤ b ∧ b ≤ n) : ∀ (L : List (List Int)) (wd k : Int), 128 ≤ wd → wd + L.length ≤ 146 → 0 ≤ k → k ≤ 88 → SLw (txF 0) 88 k L = true → ∃ h', EX (d) m_Tokens_scanWord 58 [(0, .inr (.inr (9))), (1, .inl (wd)), (2, .inl (a)), (3, .inl (1)), (4, .inl (k))] [] (h) = some (.inl 0, h') ∧ hI h' 9 3 = kwL L wd 3 (txt T a b) ∧ Fr (fun a k => a = 9 ∧ k = 3) h h' := by
  have st := x.2.1
  have sl2 : sL h 2 = 88 := by rw [sL_eq, st.2.1.1]; rfl
  intro L
  induction L with
  | nil =>
    intro wd k w0 w1 k0 k1 sl
    simp only [SLw, decide_eq_true_eq] at sl
    refine ⟨h, ?_, h3, Fr.rf⟩
    rw [Tokens_scanWord_58]
    simp (disch := omega) only [Tokens_scanWord_163, wr_id, ix_id, okx, if_pos, if_neg, Int.toNat_of_nonneg, bak_v, bak_n, wr_b01, wr_bt, b01_or, b01_0, b01_1, lc_lt0, lc_gt0, lc_eq0, wl_wr, wr_wr, wl_id, true_and, and_true, true_or, or_true, not_true_eq_false, not_false_eq_true, nc0, nc1, nc2, nc3, nc4, nc5, nc6, nc7, nc8, nc9, nc10, nc11, nc12, nc13, nc14, nc15, nc16, nc17, nc18, nc19, nc20, nc21, nc22, nc23, nc35, nc47, nc59, nc60, nc61, nc73, nc74, nc214, nc215, nc1115, nc2230, nc3345, if_true, if_false, Int.reduceToNat, cs1, st.1.1, sl2]
  | cons l r ih =>
    intro wd k w0 w1 k0 k1 sl
    simp only [SLw, Bool.and_eq_true, decide_eq_true_eq] at sl
    simp only [List.length_cons] at w1
    obtain ⟨s1, s2, s3⟩ := sl
    have e1 := c_word_3 (d := d) x h5 h2 h3 hab (wd := wd) (by omega) l a k (by omega) (by omega) k0 (by omega) s2
    simp only [kwL]
    by_cases c : txt T a b = l
    · rw [if_pos c] at e1
      rw [if_pos c]
      exact ⟨_, e1, by rw [hI_pI, if_pos ⟨rfl, rfl⟩], Fr.pI Fr.rf ⟨rfl, rfl⟩⟩
    · rw [if_neg c] at e1
      rw [if_neg c]
      obtain ⟨h', e3, k3, f3⟩ := ih (wd + 1) (k + l.length + 1) (by omega) (by omega) (by omega) (by omega) s3
      exact ⟨h', e1.trans e3, k3, f3⟩
theorem c_step {d w : Nat} {h : Hp} {T : Int → Int} {n p : Int} (x : CX h w T n) (h2 : hI h 9 2 = p) (hp : 0 ≤ p ∧ p ≤ n) : ∃ h', cal (d+3) m_Tokens_step [.inr (.inr (9))] (h) = some (.inl 0, h') ∧ CK h' T n (sk T n p) ∧ Fr pCk h h' := by
  obtain ⟨h1, e1, k1, f1⟩ := c_st_1 (d := d + 2) p hp.1 hp.2 h x h2
  have g1 : Fr pCk h h1 := f1.mo (fun a k z => by unfold pCk; omega)
  have x1 := x.k g1 (fun _ _ z => z)
  have sr := sk_rng (T := T) hp.2
  change hI h1 9 2 = sk T n p at k1
  generalize sk T n p = a at *
  have hc1 := x1.1
  have f2 : Fr pCk h1 (pI h1 9 5 a) := Fr.pI Fr.rf ⟨rfl, Or.inr (Or.inr (Or.inr rfl))⟩
  have x2 := x1.k f2 (fun _ _ z => z)
  have i2 : hI (pI h1 9 5 a) 9 2 = a := by rw [hI_pI, if_neg (by omega)]; exact k1
  have i5 : hI (pI h1 9 5 a) 9 5 = a := by rw [hI_pI, if_pos ⟨rfl, rfl⟩]
  have st : cal (d+3) m_Tokens_step [.inr (.inr (9))] (h) = EX (d+2) m_Tokens_step 60 [(0, .inr (.inr (9)))] [] (pI h1 9 5 a) := by
    refine e1.trans ?_
    simp (disch := omega) only [Tokens_step_52, wr_id, ix_id, okx, if_pos, if_neg, Int.toNat_of_nonneg, bak_v, bak_n, wr_b01, wr_bt, b01_or, b01_0, b01_1, lc_lt0, lc_gt0, lc_eq0, wl_wr, wr_wr, wl_id, true_and, and_true, true_or, or_true, not_true_eq_false, not_false_eq_true, nc0, nc1, nc2, nc3, nc4, nc5, nc6, nc7, nc8, nc9, nc10, nc11, nc12, nc13, nc14, nc15, nc16, nc17, nc18, nc19, nc20, nc21, nc22, nc23, nc35, nc47, nc59, nc60, nc61, nc73, nc74, nc214, nc215, nc1115, nc2230, nc3345, if_true, if_false, Int.reduceToNat, hc1.k9, k1]
  have ff := g1.tr f2
  generalize hq : pI h1 9 5 a = h2' at *
  have hc := x2.1
  have v1 := x2.2.2.2.2.2.1
  have nr := x2.2.2.2.2.2.2
  have r0 := x2.2.2.1
  by_cases c0 : a < n
  · have tt := x2.t (by omega) c0
    have tr := x2.2.2.2.2.1 a
    have sb' := sb_rng (T a) tr
    have ed := c_digit (d := d + 1) (h := h2') (t := T a) tr
    have el := c_letter (d := d + 1) (h := h2') (t := T a) tr
    by_cases cd : 48 ≤ T a ∧ T a ≤ 57
    · have qd : qD T a = true := by unfold qD; simp only [decide_eq_true_eq]; exact cd
      have ql : ¬ qL T a = true := by unfold qL; simp only [decide_eq_true_eq]; omega
      have b2 : b01 (48 ≤ T a ∧ T a ≤ 57) = 1 := by unfold b01; rw [if_pos cd]
      rw [b2] at ed
      have f3 : Fr pCk h2' (pI h2' 9 4 0) := Fr.pI Fr.rf ⟨rfl, Or.inr (Or.inr (Or.inl rfl))⟩
      obtain ⟨h4, e4, k4, l4, f4⟩ := c_num (d := d) (a := a) (by omega) a (by omega) (by omega) (pI h2' 9 4 0) 0 (x2.k f3 (fun _ _ z => z)) (by rw [hI_pI, if_neg (by omega)]; exact i5) (by rw [hI_pI, if_neg (by omega)]; exact i2) (by rw [hI_pI, if_pos ⟨rfl, rfl⟩])
      have g4 : Fr pCk (pI h2' 9 4 0) h4 := f4.mo (fun a k z => by unfold pCk; omega)
      have x4 := (x2.k f3 (fun _ _ z => z)).k g4 (fun _ _ z => z)
      have hc4 := x4.1
      have ar := adv_rng (q := qD T) (n := n) a (by omega)
      have i54 : hI h4 9 5 = a := by rw [f4.I (by omega), hI_pI, if_neg (by omega)]; exact i5
      have kk : tkK T n a = if 3 < adv (qD T) a n - a then 23 else 21 := by unfold tkK; rw [if_neg (by omega), if_neg ql, if_pos qd]
      have ee : tkE T n a = adv (qD T) a n := by unfold tkE; rw [if_neg (by omega), if_neg ql, if_pos qd]
      have f5 : Fr pCk h4 (pI h4 9 3 (kc (tkK T n a))) := Fr.pI Fr.rf ⟨rfl, Or.inr (Or.inl rfl)⟩
      refine ⟨pI h4 9 3 (kc (tkK T n a)), ?_, ⟨?_, ?_, ?_, fun z => ?_⟩, (ff.tr f3).tr (g4.tr f5)⟩
      · refine st.trans ?_
        have es : cal (d+2) m_Tokens_scanNumber [.inr (.inr (9))] (h2') = some (.inl 0, pI h4 9 3 (kc (tkK T n a))) := by
          show EX (d+1) m_Tokens_scanNumber 0 [(0, .inr (.inr (9)))] [] (h2') = _
          simp (disch := omega) only [Tokens_scanNumber_0, wr_id, ix_id, okx, if_pos, if_neg, Int.toNat_of_nonneg, bak_v, bak_n, wr_b01, wr_bt, b01_or, b01_0, b01_1, lc_lt0, lc_gt0, lc_eq0, wl_wr, wr_wr, wl_id, true_and, and_true, true_or, or_true, not_true_eq_false, not_false_eq_true, nc0, nc1, nc2, nc3, nc4, nc5, nc6, nc7, nc8, nc9, nc10, nc11, nc12, nc13, nc14, nc15, nc16, nc17, nc18, nc19, nc20, nc21, nc22, nc23, nc35, nc47, nc59, nc60, nc61, nc73, nc74, nc214, nc215, nc1115, nc2230, nc3345, if_true, if_false, Int.reduceToNat, hc.k9]
          refine e4.trans ?_
          rw [kk]
          by_cases c3 : 3 < adv (qD T) a n - a
          · rw [if_pos c3, show kc 23 = 1 from rfl]
            simp (disch := omega) only [Tokens_scanNumber_81, Tokens_scanNumber_99, Tokens_scanNumber_100, Tokens_scanNumber_103, wr_id, ix_id, okx, if_pos, if_neg, Int.toNat_of_nonneg, bak_v, bak_n, wr_b01, wr_bt, b01_or, b01_0, b01_1, lc_lt0, lc_gt0, lc_eq0, wl_wr, wr_wr, wl_id, true_and, and_true, true_or, or_true, not_true_eq_false, not_false_eq_true, nc0, nc1, nc2, nc3, nc4, nc5, nc6, nc7, nc8, nc9, nc10, nc11, nc12, nc13, nc14, nc15, nc16, nc17, nc18, nc19, nc20, nc21, nc22, nc23, nc35, nc47, nc59, nc60, nc61, nc73, nc74, nc214, nc215, nc1115, nc2230, nc3345, if_true, if_false, Int.reduceToNat, hc4.k9, i54, k4]
          · rw [if_neg c3, show kc 21 = 2 from rfl]
            simp (disch := omega) only [Tokens_scanNumber_81, Tokens_scanNumber_95, Tokens_scanNumber_100, Tokens_scanNumber_103, wr_id, ix_id, okx, if_pos, if_neg, Int.toNat_of_nonneg, bak_v, bak_n, wr_b01, wr_bt, b01_or, b01_0, b01_1, lc_lt0, lc_gt0, lc_eq0, wl_wr, wr_wr, wl_id, true_and, and_true, true_or, or_true, not_true_eq_false, not_false_eq_true, nc0, nc1, nc2, nc3, nc4, nc5, nc6, nc7, nc8, nc9, nc10, nc11, nc12, nc13, nc14, nc15, nc16, nc17, nc18, nc19, nc20, nc21, nc22, nc23, nc35, nc47, nc59, nc60, nc61, nc73, nc74, nc214, nc215, nc1115, nc2230, nc3345, if_true, if_false, Int.reduceToNat, hc4.k9, i54, k4]
        simp (disch := omega) only [Tokens_step_60, Tokens_step_79, Tokens_step_91, Tokens_step_94, Tokens_step_98, Tokens_step_165, wr_id, ix_id, okx, if_pos, if_neg, Int.toNat_of_nonneg, bak_v, bak_n, wr_b01, wr_bt, b01_or, b01_0, b01_1, lc_lt0, lc_gt0, lc_eq0, wl_wr, wr_wr, wl_id, true_and, and_true, true_or, or_true, not_true_eq_false, not_false_eq_true, nc0, nc1, nc2, nc3, nc4, nc5, nc6, nc7, nc8, nc9, nc10, nc11, nc12, nc13, nc14, nc15, nc16, nc17, nc18, nc19, nc20, nc21, nc22, nc23, nc35, nc47, nc59, nc60, nc61, nc73, nc74, nc214, nc215, nc1115, nc2230, nc3345, if_true, if_false, Int.reduceToNat, hc.k6, hc.r5, hc.r6, hc.r0, hc.r2, hc.r7, hc.r8, hc.r9, hc.r10, hc.r11, hc.r12, hc.r13, hc.r14, hc.r15, hc.r16, hc.r17, hc.r18, hc.r8_0, hc.r8_1, hc.r11_0, hc.r11_1, hc.r60_0, hc.r60_1, hc.r60_4, hc.r64_0, hc.r64_3, hc.r64_4, hc.r68_0, hc.r41_0, hc.r41_1, hc.r42_0, hc.r42_1, hc.k7, hc.k8, hc.k9, hc.k11, hc.k12, hc.k13, hc.k32, hc.k41, hc.k42, hc.k43, hc.k60, hc.k61, hc.k62, hc.k63, hc.k64, hc.k65, hc.k66, hc.k67, hc.k68, hc.k69, hc.k70, hc.k71, hc.n6, hc.n7, hc.n8, hc.n9, hc.n11, hc.n12, hc.n13, hc.n32, hc.n41, hc.n42, hc.n43, hc.n60, hc.n61, hc.n62, hc.n63, hc.n64, hc.n65, hc.n66, hc.n67, hc.n68, hc.n69, hc.n70, hc.n71, v1, i2, r0, tt, ed, es]
      · rw [hI_pI, if_neg (by omega)]; exact i54
      · rw [hI_pI, if_neg (by omega), k4, ee]
      · rw [hI_pI, if_pos ⟨rfl, rfl⟩]
      · rw [hI_pI, if_neg (by omega), l4]
        rfl
    · have qd : ¬ qD T a = true := by unfold qD; simp only [decide_eq_true_eq]; exact cd
      have b2 : b01 (48 ≤ T a ∧ T a ≤ 57) = 0 := by unfold b01; rw [if_neg cd]
      rw [b2] at ed
      by_cases cl : 97 ≤ T a ∧ T a ≤ 122
      · have ql : qL T a = true := by unfold qL; simp only [decide_eq_true_eq]; exact cl
        have b1 : b01 (97 ≤ T a ∧ T a ≤ 122) = 1 := by unfold b01; rw [if_pos cl]
        rw [b1] at el
        obtain ⟨h3, e3, k3, f3⟩ := c_word_1 (d := d) a (by omega) (by omega) h2' x2 i2
        have g3 : Fr pCk h2' h3 := f3.mo (fun a k z => by unfold pCk; omega)
        have x3 := x2.k g3 (fun _ _ z => z)
        have hc3 := x3.1
        have ar := adv_rng (q := qL T) (n := n) a (by omega)
        have i53 : hI h3 9 5 = a := by rw [f3.I (by omega)]; exact i5
        have f4 : Fr pCk h3 (pI h3 9 3 3) := Fr.pI Fr.rf ⟨rfl, Or.inr (Or.inl rfl)⟩
        have x4 := x3.k f4 (fun _ _ z => z)
        have i54 : hI (pI h3 9 3 3) 9 5 = a := by rw [hI_pI, if_neg (by omega)]; exact i53
        have i24 : hI (pI h3 9 3 3) 9 2 = adv (qL T) a n := by rw [hI_pI, if_neg (by omega)]; exact k3
        obtain ⟨h5, e5, k5, f5⟩ := c_word_4 (d := d + 1) x4 i54 i24 (by rw [hI_pI, if_pos ⟨rfl, rfl⟩]) (by omega) Wc 128 0 (by omega) (by decide) (by omega) (by omega) SLw_c
        have g5 : Fr pCk (pI h3 9 3 3) h5 := f5.mo (fun a k z => by unfold pCk; omega)
        rw [wc_eq] at k5
        have kk : tkK T n a = kwL Wm 0 20 (txt T a (adv (qL T) a n)) := by unfold tkK; rw [if_neg (by omega), if_pos ql]
        refine ⟨h5, ?_, ⟨?_, ?_, ?_, fun z => ?_⟩, (ff.tr g3).tr (f4.tr g5)⟩
        · refine st.trans ?_
          have es : cal (d+2) m_Tokens_scanWord [.inr (.inr (9))] (h2') = some (.inl 0, h5) := by
            refine e3.trans ?_
            have hk4 : sK (pI h3 9 3 3) 9 = 6 := hc3.k9
            simp (disch := omega) only [Tokens_scanWord_39, wr_id, ix_id, okx, if_pos, if_neg, Int.toNat_of_nonneg, bak_v, bak_n, wr_b01, wr_bt, b01_or, b01_0, b01_1, lc_lt0, lc_gt0, lc_eq0, wl_wr, wr_wr, wl_id, true_and, and_true, true_or, or_true, not_true_eq_false, not_false_eq_true, nc0, nc1, nc2, nc3, nc4, nc5, nc6, nc7, nc8, nc9, nc10, nc11, nc12, nc13, nc14, nc15, nc16, nc17, nc18, nc19, nc20, nc21, nc22, nc23, nc35, nc47, nc59, nc60, nc61, nc73, nc74, nc214, nc215, nc1115, nc2230, nc3345, if_true, if_false, Int.reduceToNat, hc3.k9]
            rw [Tokens_scanWord_44, if_pos hk4, i54]
            exact e5
          simp (disch := omega) only [Tokens_step_60, Tokens_step_79, Tokens_step_91, Tokens_step_101, Tokens_step_113, Tokens_step_116, Tokens_step_120, Tokens_step_165, wr_id, ix_id, okx, if_pos, if_neg, Int.toNat_of_nonneg, bak_v, bak_n, wr_b01, wr_bt, b01_or, b01_0, b01_1, lc_lt0, lc_gt0, lc_eq0, wl_wr, wr_wr, wl_id, true_and, and_true, true_or, or_true, not_true_eq_false, not_false_eq_true, nc0, nc1, nc2, nc3, nc4, nc5, nc6, nc7, nc8, nc9, nc10, nc11, nc12, nc13, nc14, nc15, nc16, nc17, nc18, nc19, nc20, nc21, nc22, nc23, nc35, nc47, nc59, nc60, nc61, nc73, nc74, nc214, nc215, nc1115, nc2230, nc3345, if_true, if_false, Int.reduceToNat, hc.k6, hc.r5, hc.r6, hc.r0, hc.r2, hc.r7, hc.r8, hc.r9, hc.r10, hc.r11, hc.r12, hc.r13, hc.r14, hc.r15, hc.r16, hc.r17, hc.r18, hc.r8_0, hc.r8_1, hc.r11_0, hc.r11_1, hc.r60_0, hc.r60_1, hc.r60_4, hc.r64_0, hc.r64_3, hc.r64_4, hc.r68_0, hc.r41_0, hc.r41_1, hc.r42_0, hc.r42_1, hc.k7, hc.k8, hc.k9, hc.k11, hc.k12, hc.k13, hc.k32, hc.k41, hc.k42, hc.k43, hc.k60, hc.k61, hc.k62, hc.k63, hc.k64, hc.k65, hc.k66, hc.k67, hc.k68, hc.k69, hc.k70, hc.k71, hc.n6, hc.n7, hc.n8, hc.n9, hc.n11, hc.n12, hc.n13, hc.n32, hc.n41, hc.n42, hc.n43, hc.n60, hc.n61, hc.n62, hc.n63, hc.n64, hc.n65, hc.n66, hc.n67, hc.n68, hc.n69, hc.n70, hc.n71, v1, i2, r0, tt, ed, el, es]
        · rw [f5.I (by omega)]; exact i54
        · rw [f5.I (by omega), i24]
          unfold tkE
          rw [if_neg (by omega), if_pos ql]
        · rw [k5, kk]
        · exact absurd ql (tkK_21 z).2.1
      · have ql : ¬ qL T a = true := by unfold qL; simp only [decide_eq_true_eq]; exact cl
        have b1 : b01 (97 ≤ T a ∧ T a ≤ 122) = 0 := by unfold b01; rw [if_neg cl]
        rw [b1] at el
        have es := c_isSign (d := d + 1) (h := h2') (t := T a) x2.2.1 tr
        have kk : tkK T n a = sgK (T a) := by unfold tkK; rw [if_neg (by omega), if_neg ql, if_neg qd]
        have f3 : Fr pCk h2' (pI (pI h2' 9 3 (kc (sgK (T a)))) 9 2 (a + 1)) := Fr.pI (Fr.pI Fr.rf ⟨rfl, Or.inr (Or.inl rfl)⟩) ⟨rfl, Or.inl rfl⟩
        refine ⟨pI (pI h2' 9 3 (kc (sgK (T a)))) 9 2 (a + 1), ?_, ⟨?_, ?_, ?_, fun z => ?_⟩, ff.tr f3⟩
        · refine st.trans ?_
          by_cases cs : sgK (T a) = 23
          · have b3 : b01 (¬ sgK (T a) = 23) = 0 := by unfold b01; rw [if_neg (fun z => z cs)]
            rw [b3] at es
            rw [cs, show kc 23 = 1 from rfl]
            simp (disch := omega) only [Tokens_step_60, Tokens_step_79, Tokens_step_91, Tokens_step_101, Tokens_step_113, Tokens_step_123, Tokens_step_136, Tokens_step_151, Tokens_step_152, Tokens_step_155, Tokens_step_165, wr_id, ix_id, okx, if_pos, if_neg, Int.toNat_of_nonneg, bak_v, bak_n, wr_b01, wr_bt, b01_or, b01_0, b01_1, lc_lt0, lc_gt0, lc_eq0, wl_wr, wr_wr, wl_id, true_and, and_true, true_or, or_true, not_true_eq_false, not_false_eq_true, nc0, nc1, nc2, nc3, nc4, nc5, nc6, nc7, nc8, nc9, nc10, nc11, nc12, nc13, nc14, nc15, nc16, nc17, nc18, nc19, nc20, nc21, nc22, nc23, nc35, nc47, nc59, nc60, nc61, nc73, nc74, nc214, nc215, nc1115, nc2230, nc3345, if_true, if_false, Int.reduceToNat, hc.k6, hc.r5, hc.r6, hc.r0, hc.r2, hc.r7, hc.r8, hc.r9, hc.r10, hc.r11, hc.r12, hc.r13, hc.r14, hc.r15, hc.r16, hc.r17, hc.r18, hc.r8_0, hc.r8_1, hc.r11_0, hc.r11_1, hc.r60_0, hc.r60_1, hc.r60_4, hc.r64_0, hc.r64_3, hc.r64_4, hc.r68_0, hc.r41_0, hc.r41_1, hc.r42_0, hc.r42_1, hc.k7, hc.k8, hc.k9, hc.k11, hc.k12, hc.k13, hc.k32, hc.k41, hc.k42, hc.k43, hc.k60, hc.k61, hc.k62, hc.k63, hc.k64, hc.k65, hc.k66, hc.k67, hc.k68, hc.k69, hc.k70, hc.k71, hc.n6, hc.n7, hc.n8, hc.n9, hc.n11, hc.n12, hc.n13, hc.n32, hc.n41, hc.n42, hc.n43, hc.n60, hc.n61, hc.n62, hc.n63, hc.n64, hc.n65, hc.n66, hc.n67, hc.n68, hc.n69, hc.n70, hc.n71, v1, i2, r0, tt, ed, el, es, sK_pI, hI_pI]
          · have b3 : b01 (¬ sgK (T a) = 23) = 1 := by unfold b01; rw [if_pos cs]
            rw [b3] at es
            have ta : T a < 128 := sgK_lt cs
            have sa : sb (T a) = T a := by unfold sb; rw [if_pos ta]
            have kt : kc (sgK (T a)) = T a := by
              have := kcs_k ⟨(T a).toNat, by omega⟩
              have e : (((⟨(T a).toNat, by omega⟩ : Fin 128).1 : Nat) : Int) = T a := by show (((T a).toNat : Nat) : Int) = T a; omega
              rw [e] at this
              exact this cs
            rw [kt]
            simp (disch := omega) only [Tokens_step_60, Tokens_step_79, Tokens_step_91, Tokens_step_101, Tokens_step_113, Tokens_step_123, Tokens_step_136, wr_id, ix_id, okx, if_pos, if_neg, Int.toNat_of_nonneg, bak_v, bak_n, wr_b01, wr_bt, b01_or, b01_0, b01_1, lc_lt0, lc_gt0, lc_eq0, wl_wr, wr_wr, wl_id, true_and, and_true, true_or, or_true, not_true_eq_false, not_false_eq_true, nc0, nc1, nc2, nc3, nc4, nc5, nc6, nc7, nc8, nc9, nc10, nc11, nc12, nc13, nc14, nc15, nc16, nc17, nc18, nc19, nc20, nc21, nc22, nc23, nc35, nc47, nc59, nc60, nc61, nc73, nc74, nc214, nc215, nc1115, nc2230, nc3345, if_true, if_false, Int.reduceToNat, hc.k6, hc.r5, hc.r6, hc.r0, hc.r2, hc.r7, hc.r8, hc.r9, hc.r10, hc.r11, hc.r12, hc.r13, hc.r14, hc.r15, hc.r16, hc.r17, hc.r18, hc.r8_0, hc.r8_1, hc.r11_0, hc.r11_1, hc.r60_0, hc.r60_1, hc.r60_4, hc.r64_0, hc.r64_3, hc.r64_4, hc.r68_0, hc.r41_0, hc.r41_1, hc.r42_0, hc.r42_1, hc.k7, hc.k8, hc.k9, hc.k11, hc.k12, hc.k13, hc.k32, hc.k41, hc.k42, hc.k43, hc.k60, hc.k61, hc.k62, hc.k63, hc.k64, hc.k65, hc.k66, hc.k67, hc.k68, hc.k69, hc.k70, hc.k71, hc.n6, hc.n7, hc.n8, hc.n9, hc.n11, hc.n12, hc.n13, hc.n32, hc.n41, hc.n42, hc.n43, hc.n60, hc.n61, hc.n62, hc.n63, hc.n64, hc.n65, hc.n66, hc.n67, hc.n68, hc.n69, hc.n70, hc.n71, v1, i2, r0, tt, ed, el, es]
            rw [sa] at tt
            simp (disch := omega) only [Tokens_step_139, Tokens_step_152, Tokens_step_155, Tokens_step_165, wr_id, ix_id, okx, if_pos, if_neg, Int.toNat_of_nonneg, bak_v, bak_n, wr_b01, wr_bt, b01_or, b01_0, b01_1, lc_lt0, lc_gt0, lc_eq0, wl_wr, wr_wr, wl_id, true_and, and_true, true_or, or_true, not_true_eq_false, not_false_eq_true, nc0, nc1, nc2, nc3, nc4, nc5, nc6, nc7, nc8, nc9, nc10, nc11, nc12, nc13, nc14, nc15, nc16, nc17, nc18, nc19, nc20, nc21, nc22, nc23, nc35, nc47, nc59, nc60, nc61, nc73, nc74, nc214, nc215, nc1115, nc2230, nc3345, if_true, if_false, Int.reduceToNat, hc.k6, hc.r5, hc.r6, hc.r0, hc.r2, hc.r7, hc.r8, hc.r9, hc.r10, hc.r11, hc.r12, hc.r13, hc.r14, hc.r15, hc.r16, hc.r17, hc.r18, hc.r8_0, hc.r8_1, hc.r11_0, hc.r11_1, hc.r60_0, hc.r60_1, hc.r60_4, hc.r64_0, hc.r64_3, hc.r64_4, hc.r68_0, hc.r41_0, hc.r41_1, hc.r42_0, hc.r42_1, hc.k7, hc.k8, hc.k9, hc.k11, hc.k12, hc.k13, hc.k32, hc.k41, hc.k42, hc.k43, hc.k60, hc.k61, hc.k62, hc.k63, hc.k64, hc.k65, hc.k66, hc.k67, hc.k68, hc.k69, hc.k70, hc.k71, hc.n6, hc.n7, hc.n8, hc.n9, hc.n11, hc.n12, hc.n13, hc.n32, hc.n41, hc.n42, hc.n43, hc.n60, hc.n61, hc.n62, hc.n63, hc.n64, hc.n65, hc.n66, hc.n67, hc.n68, hc.n69, hc.n70, hc.n71, i2, r0, tt, sK_pI, hI_pI]
        · rw [hI_pI, if_neg (by omega), hI_pI, if_neg (by omega)]; exact i5
        · rw [hI_pI, if_pos ⟨rfl, rfl⟩]
          unfold tkE
          rw [if_neg (by omega), if_neg ql, if_neg qd]
        · rw [hI_pI, if_neg (by omega), hI_pI, if_pos ⟨rfl, rfl⟩, kk]
        · exact absurd (tkK_21 z).2.2 qd
  · have f3 : Fr pCk h2' (pI h2' 9 3 0) := Fr.pI Fr.rf ⟨rfl, Or.inr (Or.inl rfl)⟩
    have kk : tkK T n a = 22 := by unfold tkK; rw [if_pos (by omega)]
    refine ⟨pI h2' 9 3 0, ?_, ⟨?_, ?_, ?_, fun z => ?_⟩, ff.tr f3⟩
    · refine st.trans ?_
      simp (disch := omega) only [Tokens_step_60, Tokens_step_71, Tokens_step_76, Tokens_step_165, wr_id, ix_id, okx, if_pos, if_neg, Int.toNat_of_nonneg, bak_v, bak_n, wr_b01, wr_bt, b01_or, b01_0, b01_1, lc_lt0, lc_gt0, lc_eq0, wl_wr, wr_wr, wl_id, true_and, and_true, true_or, or_true, not_true_eq_false, not_false_eq_true, nc0, nc1, nc2, nc3, nc4, nc5, nc6, nc7, nc8, nc9, nc10, nc11, nc12, nc13, nc14, nc15, nc16, nc17, nc18, nc19, nc20, nc21, nc22, nc23, nc35, nc47, nc59, nc60, nc61, nc73, nc74, nc214, nc215, nc1115, nc2230, nc3345, if_true, if_false, Int.reduceToNat, hc.k9, v1, i2]
    · rw [hI_pI, if_neg (by omega)]; exact i5
    · rw [hI_pI, if_neg (by omega), i2]
      unfold tkE
      rw [if_pos (by omega)]
    · rw [hI_pI, if_pos ⟨rfl, rfl⟩, kk]
      rfl
    · omega
