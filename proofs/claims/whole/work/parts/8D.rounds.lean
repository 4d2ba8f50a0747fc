/-! rounds: pure -/
def pc8 (g : Int) : Int := bt g 0 + bt g 1 + bt g 2 + bt g 3 + bt g 4 + bt g 5 + bt g 6 + bt g 7
theorem rd_k1 : ∀ u : Fin 256, ∀ i : Fin 8, bt (u.1 : Int) (i.1 : Int) = 0 → bOr (u.1 : Int) (bShl 1 (i.1 : Int)) = (u.1 : Int) + pw (i.1 : Int) := by decide +kernel
theorem rd_k2 : ∀ u : Fin 256, ∀ i : Fin 8, bt (u.1 : Int) (i.1 : Int) = 0 → pc8 ((u.1 : Int) + pw (i.1 : Int)) = pc8 (u.1 : Int) + 1 := by decide +kernel
theorem rd_k3 : ∀ N : Fin 9, ∀ u : Fin 256, ∀ i : Fin 8, (u.1 : Int) < pw (N.1 : Int) → i.1 < N.1 → bt (u.1 : Int) (i.1 : Int) = 0 → (u.1 : Int) + pw (i.1 : Int) < pw (N.1 : Int) := by decide +kernel
theorem rd_k4 : ∀ N : Fin 9, ∀ u : Fin 256, (u.1 : Int) < pw (N.1 : Int) → 0 ≤ pc8 (u.1 : Int) ∧ pc8 (u.1 : Int) ≤ (N.1 : Int) ∧ (pc8 (u.1 : Int) = (N.1 : Int) → (u.1 : Int) = pw (N.1 : Int) - 1) ∧ ((u.1 : Int) = pw (N.1 : Int) - 1 → pc8 (u.1 : Int) = (N.1 : Int)) := by decide +kernel
theorem rd_k5 : ∀ N : Fin 9, ∀ u : Fin 256, (u.1 : Int) < pw (N.1 : Int) → pc8 (u.1 : Int) < (N.1 : Int) → ∃ i : Fin 8, i.1 < N.1 ∧ bt (u.1 : Int) (i.1 : Int) = 0 := by decide +kernel
theorem rd_A {N u i : Int} (hN : 1 ≤ N ∧ N ≤ 8) (hu : 0 ≤ u ∧ u < pw N) (hi : 0 ≤ i ∧ i < N) (hb : bt u i = 0) : bOr u (bShl 1 i) = u + pw i ∧ 0 ≤ u + pw i ∧ u + pw i < pw N ∧ pc8 (u + pw i) = pc8 u + 1 := by
  have h8 : pw N ≤ pw 8 := pw_mono hN.2
  have e8 : pw 8 = 256 := by decide
  have p1 := pw_pos i
  obtain ⟨n, rfl⟩ := Int.eq_ofNat_of_zero_le (show 0 ≤ N by omega)
  obtain ⟨v, rfl⟩ := Int.eq_ofNat_of_zero_le hu.1
  obtain ⟨j, rfl⟩ := Int.eq_ofNat_of_zero_le hi.1
  exact ⟨rd_k1 ⟨v, by omega⟩ ⟨j, by omega⟩ hb, by omega, rd_k3 ⟨n, by omega⟩ ⟨v, by omega⟩ ⟨j, by omega⟩ hu.2 (show j < n by omega) hb, rd_k2 ⟨v, by omega⟩ ⟨j, by omega⟩ hb⟩
theorem rd_B {N u : Int} (hN : 1 ≤ N ∧ N ≤ 8) (hu : 0 ≤ u ∧ u < pw N) : 0 ≤ pc8 u ∧ pc8 u ≤ N ∧ (pc8 u = N → u = pw N - 1) ∧ (u = pw N - 1 → pc8 u = N) := by
  have h8 : pw N ≤ pw 8 := pw_mono hN.2
  have e8 : pw 8 = 256 := by decide
  obtain ⟨n, rfl⟩ := Int.eq_ofNat_of_zero_le (show 0 ≤ N by omega)
  obtain ⟨v, rfl⟩ := Int.eq_ofNat_of_zero_le hu.1
  exact rd_k4 ⟨n, by omega⟩ ⟨v, by omega⟩ hu.2
theorem rd_C {N u : Int} (hN : 1 ≤ N ∧ N ≤ 8) (hu : 0 ≤ u ∧ u < pw N) (hp : pc8 u < N) : ∃ i, 0 ≤ i ∧ i < N ∧ bt u i = 0 := by
  have h8 : pw N ≤ pw 8 := pw_mono hN.2
  have e8 : pw 8 = 256 := by decide
  obtain ⟨n, rfl⟩ := Int.eq_ofNat_of_zero_le (show 0 ≤ N by omega)
  obtain ⟨v, rfl⟩ := Int.eq_ofNat_of_zero_le hu.1
  obtain ⟨i, i1, i2⟩ := rd_k5 ⟨n, by omega⟩ ⟨v, by omega⟩ hu.2 hp
  have i1' : i.1 < n := i1
  exact ⟨i.1, by omega, by omega, i2⟩
/-- the fewest seconds for those not gone by -/
def rdF (S q : Int → Int) (N : Int) : Nat → Int → Int → Int
  | 0, _, _ => 0
  | n + 1, g, c => fo (fun i m => mn1 (if bt g i = 0 then scA S c (q i) + rdF S q N n (g + pw i) (chF S c (q i)) else -1) m) 0 N (-1)
def rdV (S q : Int → Int) (N : Int) (n : Nat) (g c i : Int) : Int := if bt g i = 0 then scA S c (q i) + rdF S q N n (g + pw i) (chF S c (q i)) else -1
theorem rdF_s (S q : Int → Int) (N : Int) (n : Nat) (g c : Int) : rdF S q N (n + 1) g c = fo (fun i m => mn1 (rdV S q N n g c i) m) 0 N (-1) := rfl
/-- the order: the first by which it is the fewest -/
def rdI (S q : Int → Int) (N : Int) (n : Nat) (g c : Int) : Int := ff (fun i => decide (rdV S q N n g c i = rdF S q N (n + 1) g c)) 0 N
def roF (S q : Int → Int) (N : Int) : Nat → Int → Int → Int → Int
  | 0, _, _, _ => 0
  | n + 1, g, c, z => if z = 0 then q (rdI S q N n g c) else roF S q N n (g + pw (rdI S q N n g c)) (chF S c (q (rdI S q N n g c))) (z - 1)
def roG (S q : Int → Int) (N : Int) (n : Nat) (g c i z : Int) : Int := if z = 0 then q i else roF S q N n (g + pw i) (chF S c (q i)) (z - 1)
theorem roF_s (S q : Int → Int) (N : Int) (n : Nat) (g c z : Int) : roF S q N (n + 1) g c z = roG S q N n g c (rdI S q N n g c) z := rfl
def qOk (q : Int → Int) (N : Int) : Prop := ∀ i, 0 ≤ i → i < N → 0 ≤ q i ∧ q i ≤ 11
theorem rdF_rng {S q : Int → Int} {N : Int} (gS : GdW S) (hN : 1 ≤ N ∧ N ≤ 8) (hq : qOk q N) : ∀ (n : Nat) (g c : Int), pc8 g + n = N → 0 ≤ g → g < pw N → 0 ≤ c → c ≤ 11 → 0 ≤ rdF S q N n g c ∧ rdF S q N n g c ≤ 220 * n := by
  intro n
  induction n with
  | zero => intro g c _ _ _ _ _; simp only [rdF]; omega
  | succ n ih =>
    intro g c hp g0 g1 c0 c1
    rw [rdF_s]
    have pr : ∀ i, 0 ≤ i → i < N → -1 ≤ rdV S q N n g c i ∧ rdV S q N n g c i ≤ 220 * ((n + 1 : Nat) : Int) ∧ (bt g i = 0 → 0 ≤ rdV S q N n g c i) := fun i i0 i1 => by
      unfold rdV
      have qi := hq i i0 i1
      by_cases cb : bt g i = 0
      · rw [if_pos cb]
        obtain ⟨-, a1, a2, a3⟩ := rd_A hN ⟨g0, g1⟩ ⟨i0, i1⟩ cb
        have sr := scA_rng gS (c := c) (r := q i) (by omega) (by omega)
        have cr := chF_rng gS (c := c) (r := q i) (by omega) (by omega)
        have := ih (g + pw i) (chF S c (q i)) (by omega) a1 a2 cr.1 (by omega)
        omega
      · rw [if_neg cb]
        exact ⟨by omega, by omega, fun z => absurd z cb⟩
    have a := fo_inv (F := fun i m => mn1 (rdV S q N n g c i) m) (N := N) (P := fun m => -1 ≤ m ∧ m ≤ 220 * ((n + 1 : Nat) : Int)) 0 (fun k m k1 k2 hm => by
      have := pr k k1 k2
      unfold mn1
      split <;> omega) (-1) (by omega)
    obtain ⟨i, i0, i1, ib⟩ := rd_C hN ⟨g0, g1⟩ (by omega)
    have b := mo_ne (f := rdV S q N n g c) (N := N) 0 (-1) (Or.inr ⟨i, i0, i1, by have := (pr i i0 i1).2.2 ib; omega⟩)
    omega
theorem rdV_rng {S q : Int → Int} {N : Int} (gS : GdW S) (hN : 1 ≤ N ∧ N ≤ 8) (hq : qOk q N) {n : Nat} {g c i : Int} (hp : pc8 g + n + 1 = N) (g0 : 0 ≤ g) (g1 : g < pw N) (c0 : 0 ≤ c) (c1 : c ≤ 11) (i0 : 0 ≤ i) (i1 : i < N) (cb : bt g i = 0) : 0 ≤ rdV S q N n g c i ∧ rdV S q N n g c i ≤ 220 * n + 220 := by
  unfold rdV
  have qi := hq i i0 i1
  rw [if_pos cb]
  obtain ⟨-, a1, a2, a3⟩ := rd_A hN ⟨g0, g1⟩ ⟨i0, i1⟩ cb
  have sr := scA_rng gS (c := c) (r := q i) (by omega) (by omega)
  have cr := chF_rng gS (c := c) (r := q i) (by omega) (by omega)
  have := rdF_rng gS hN hq n (g + pw i) (chF S c (q i)) (by omega) a1 a2 cr.1 (by omega)
  omega
/-- a fold of least ones begun with v -/
theorem mo_from {f : Int → Int} {N : Int} : ∀ i v, fo (fun s m => mn1 (f s) m) i N v = mn1 (fo (fun s m => mn1 (f s) m) i N (-1)) v := by
  refine up_ind (hi := N) ?_ ?_
  · intro i hi v
    rw [fo_stop hi, fo_stop hi]
    unfold mn1
    rw [if_neg (by omega)]
  · intro i hi ih v
    rw [fo_step hi, fo_step hi, ih (mn1 (f i) v), ih (mn1 (f i) (-1))]
    generalize fo (fun s m => mn1 (f s) m) (i + 1) N (-1) = w
    unfold mn1
    repeat' split
    all_goals omega
theorem rdI_ok {S q : Int → Int} {N : Int} (gS : GdW S) (hN : 1 ≤ N ∧ N ≤ 8) (hq : qOk q N) {n : Nat} {g c : Int} (hp : pc8 g + n + 1 = N) (g0 : 0 ≤ g) (g1 : g < pw N) (c0 : 0 ≤ c) (c1 : c ≤ 11) : 0 ≤ rdI S q N n g c ∧ rdI S q N n g c < N ∧ bt g (rdI S q N n g c) = 0 ∧ rdV S q N n g c (rdI S q N n g c) = rdF S q N (n + 1) g c := by
  have r := rdF_rng gS hN hq (n + 1) g c (by omega) g0 g1 c0 c1
  rw [rdF_s] at r
  rcases ff_spec (p := fun i => decide (rdV S q N n g c i = rdF S q N (n + 1) g c)) (N := N) 0 with ⟨z1, z2⟩ | ⟨z1, z2, z3, z4⟩
  · exfalso
    rcases mo_att (f := rdV S q N n g c) (N := N) 0 (-1) with e | ⟨s, s0, s1, s2, s3⟩
    · omega
    · have := z2 s s0 s1
      rw [rdF_s] at this
      simp [s2] at this
  · have z3' : rdV S q N n g c (rdI S q N n g c) = rdF S q N (n + 1) g c := of_decide_eq_true z3
    refine ⟨z1, z2, ?_, z3'⟩
    rcases bt_01 g (rdI S q N n g c) with e | e
    · exact e
    · exfalso
      have : rdV S q N n g c (rdI S q N n g c) = -1 := by unfold rdV; rw [if_neg (by omega)]
      rw [rdF_s] at z3'
      omega
/-! rounds: the model -/
def rdP (a k : Nat) : Prop := a = 85 ∨ a = 86 ∨ (a = 72 ∧ k = 32)
def rdQ (h h' : Hp) (N k sec m : Int) (P RO : Int → Int) : Prop :=
  ((¬ m = -1 ∧ (hI h 72 32 = -1 ∨ sec + m < hI h 72 32)) → hI h' 72 32 = sec + m ∧ ∀ z, 0 ≤ z → z < N → hI h' 86 z.toNat = (if z < k then P z else RO (z - k))) ∧
  (¬ (¬ m = -1 ∧ (hI h 72 32 = -1 ∨ sec + m < hI h 72 32)) → hI h' 72 32 = hI h 72 32 ∧ ∀ z, 0 ≤ z → z < N → hI h' 86 z.toNat = hI h 86 z.toNat)
theorem m_gr_leaf {d : Nat} {N : Int} (hN : 0 ≤ N ∧ N ≤ 8) {P : Int → Int} : ∀ i, 0 ≤ i → i ≤ 8 → ∀ h, MR h → (∀ z, 0 ≤ z → z < N → hI h 85 z.toNat = P z) → (∀ z, 0 ≤ z → z < i → hI h 86 z.toNat = P z) → ∃ h', EX (d) m_Mod_goesRound 37 [(0, .inr (.inr (72))), (2, .inl (N)), (6, .inl (i))] [] (h) = some (.inl 0, h') ∧ (∀ z, 0 ≤ z → z < N → hI h' 86 z.toNat = P z) ∧ Fr (fun a _ => a = 86) h h' := by
  refine up_ind (hi := N) ?_ ?_
  · intro i hi i0 i1 h hm tk br
    refine ⟨h, ?_, fun z z0 z1 => br z z0 (by omega), Fr.rf⟩
    rw [Mod_goesRound_37]
    simp (disch := omega) only [Mod_goesRound_63, wr_id, ix_id, okx, if_pos, if_neg, Int.toNat_of_nonneg, bak_v, bak_n, wr_b01, wr_bt, b01_or, b01_0, b01_1, lc_lt0, lc_gt0, lc_eq0, wl_wr, wr_wr, wl_id, true_and, and_true, true_or, or_true, not_true_eq_false, not_false_eq_true, nc0, nc1, nc2, nc3, nc4, nc5, nc6, nc7, nc8, nc9, nc10, nc11, nc12, nc13, nc14, nc15, nc16, nc17, nc18, nc19, nc20, nc21, nc22, nc23, nc35, nc47, nc59, nc60, nc61, nc73, nc74, nc214, nc215, nc1115, nc2230, nc3345, if_true, if_false, Int.reduceToNat]
  · intro i hi ih i0 i1 h hm tk br
    have f0 : Fr (fun a _ => a = 86) h (pI h 86 i.toNat (P i)) := Fr.pI Fr.rf (by rfl)
    obtain ⟨h2, e2, k2, f2⟩ := ih (by omega) (by omega) _ (hm.fr f0) (fun z z0 z1 => by rw [f0.I (by omega)]; exact tk z z0 z1) (fun z z0 z1 => by
      rw [hI_pI]
      by_cases c : z = i
      · rw [if_pos ⟨rfl, by rw [c]⟩, c]
      · rw [if_neg (fun q => c (by have := q.2; omega))]; exact br z z0 (by omega))
    refine ⟨h2, ?_, k2, f0.tr f2⟩
    have ti := tk i i0 hi
    rw [Mod_goesRound_37]
    simp (disch := omega) only [Mod_goesRound_43, Mod_goesRound_57, wr_id, ix_id, okx, if_pos, if_neg, Int.toNat_of_nonneg, bak_v, bak_n, wr_b01, wr_bt, b01_or, b01_0, b01_1, lc_lt0, lc_gt0, lc_eq0, wl_wr, wr_wr, wl_id, true_and, and_true, true_or, or_true, not_true_eq_false, not_false_eq_true, nc0, nc1, nc2, nc3, nc4, nc5, nc6, nc7, nc8, nc9, nc10, nc11, nc12, nc13, nc14, nc15, nc16, nc17, nc18, nc19, nc20, nc21, nc22, nc23, nc35, nc47, nc59, nc60, nc61, nc73, nc74, nc214, nc215, nc1115, nc2230, nc3345, if_true, if_false, Int.reduceToNat, hm.k, hm.r1, hm.r2, hm.r3, hm.r4, hm.r15, hm.r16, hm.r19, hm.r23, hm.r24, hm.r25, hm.r26, hm.r29, hm.r30, hm.r31, hm.r33, hm.r34, hm.r35, hm.k73, hm.k74, hm.k75, hm.k76, hm.k77, hm.k78, hm.k79, hm.k80, hm.k81, hm.k82, hm.k83, hm.k84, hm.k85, hm.k86, hm.k87, hm.k88, hm.k89, hm.n73, hm.n74, hm.n75, hm.n76, hm.n77, hm.n78, hm.n79, hm.n80, hm.n81, hm.n82, hm.n83, hm.n84, hm.n85, hm.n86, hm.n87, hm.n88, hm.n89, ti]
    exact e2
def grC (d : Nat) (S rs rm nb : Int → Int) (t N : Int) (n : Nat) : Prop := ∀ (k g c sec : Int) (P : Int → Int) (h : Hp), MS h S → MT h rs rm nb → 0 ≤ k → k + n = N → 0 ≤ g → g < pw N → pc8 g = k → (0 ≤ c ∧ c ≤ 11) → (0 ≤ sec ∧ sec ≤ 220 * k) → (-1 ≤ hI h 72 32 ∧ hI h 72 32 ≤ 1760) → (∀ z, 0 ≤ z → z < k → hI h 85 z.toNat = P z) → ∃ h', cal (d+n+3) m_Mod_goesRound [.inr (.inr (72)), .inl (t), .inl (k), .inl (g), .inl (c), .inl (sec)] (h) = some (.inl 0, h') ∧ rdQ h h' N k sec (rdF S (fun i => nb (40 * t + i)) N n g c) P (roF S (fun i => nb (40 * t + i)) N n g c) ∧ (∀ z, 0 ≤ z → z < k → hI h' 85 z.toNat = P z) ∧ Fr rdP h h'
theorem m_gr_loop {d n : Nat} {S rs rm nb : Int → Int} {t N : Int} (gS : GdW S) (ht : 0 ≤ t ∧ t < 4) (hN : 1 ≤ N ∧ N ≤ 8) (hrm : rm t = N) (hq : qOk (fun i => nb (40 * t + i)) N) (IH : grC d S rs rm nb t N n) {k g c sec : Int} (k0 : 0 ≤ k) (kn : k + n + 1 = N) (g0 : 0 ≤ g) (g1 : g < pw N) (pg : pc8 g = k) (hc : 0 ≤ c ∧ c ≤ 11) (hs : 0 ≤ sec ∧ sec ≤ 220 * k) {P : Int → Int} : ∀ i, 0 ≤ i → i ≤ 8 → ∀ h, MS h S → MT h rs rm nb → (-1 ≤ hI h 72 32 ∧ hI h 72 32 ≤ 1760) → (∀ z, 0 ≤ z → z < k → hI h 85 z.toNat = P z) → ∃ h', EX (d+n+3) m_Mod_goesRound 67 [(0, .inr (.inr (72))), (1, .inl (t)), (2, .inl (k)), (3, .inl (g)), (4, .inl (c)), (5, .inl (sec)), (6, .inl (i))] [] (h) = some (.inl 0, h') ∧ rdQ h h' N k sec (fo (fun i m => mn1 (rdV S (fun i => nb (40 * t + i)) N n g c i) m) i N (-1)) P (roG S (fun i => nb (40 * t + i)) N n g c (ff (fun j => decide (rdV S (fun i => nb (40 * t + i)) N n g c j = fo (fun i m => mn1 (rdV S (fun i => nb (40 * t + i)) N n g c i) m) i N (-1))) i N)) ∧ (∀ z, 0 ≤ z → z < k → hI h' 85 z.toNat = P z) ∧ Fr rdP h h' := by
  refine up_ind (hi := N) ?_ ?_
  · intro i hi i0 i1 h ms mt hl tk
    have hm := ms.1
    have m2 := mt.2.1 t.toNat
    rw [show (t.toNat : Int) = t by omega] at m2
    refine ⟨h, ?_, ?_, tk, Fr.rf⟩
    · rw [Mod_goesRound_67]
      simp (disch := omega) only [Mod_goesRound_153, wr_id, ix_id, okx, if_pos, if_neg, Int.toNat_of_nonneg, bak_v, bak_n, wr_b01, wr_bt, b01_or, b01_0, b01_1, lc_lt0, lc_gt0, lc_eq0, wl_wr, wr_wr, wl_id, true_and, and_true, true_or, or_true, not_true_eq_false, not_false_eq_true, nc0, nc1, nc2, nc3, nc4, nc5, nc6, nc7, nc8, nc9, nc10, nc11, nc12, nc13, nc14, nc15, nc16, nc17, nc18, nc19, nc20, nc21, nc22, nc23, nc35, nc47, nc59, nc60, nc61, nc73, nc74, nc214, nc215, nc1115, nc2230, nc3345, if_true, if_false, Int.reduceToNat, hm.k, hm.r1, hm.r2, hm.r3, hm.r4, hm.r15, hm.r16, hm.r19, hm.r23, hm.r24, hm.r25, hm.r26, hm.r29, hm.r30, hm.r31, hm.r33, hm.r34, hm.r35, hm.k73, hm.k74, hm.k75, hm.k76, hm.k77, hm.k78, hm.k79, hm.k80, hm.k81, hm.k82, hm.k83, hm.k84, hm.k85, hm.k86, hm.k87, hm.k88, hm.k89, hm.n73, hm.n74, hm.n75, hm.n76, hm.n77, hm.n78, hm.n79, hm.n80, hm.n81, hm.n82, hm.n83, hm.n84, hm.n85, hm.n86, hm.n87, hm.n88, hm.n89, m2, hrm]
    · rw [fo_stop hi]
      exact ⟨fun q => absurd rfl q.1, fun _ => ⟨rfl, fun _ _ _ => rfl⟩⟩
  · intro i hi ih i0 i1 h ms mt hl tk
    have hm := ms.1
    have m2 := mt.2.1 t.toNat
    rw [show (t.toNat : Int) = t by omega] at m2
    have m3 := mt.2.2 (40 * t + i).toNat
    rw [show ((40 * t + i).toNat : Int) = 40 * t + i by omega] at m3
    have qi : 0 ≤ nb (40 * t + i) ∧ nb (40 * t + i) ≤ 11 := hq i i0 hi
    have h8 : pw N ≤ pw 8 := pw_mono hN.2
    have e8 : pw 8 = 256 := by decide
    rcases bt_01 g i with cb | cb
    · obtain ⟨ob, a1, a2, a3⟩ := rd_A hN ⟨g0, g1⟩ ⟨i0, hi⟩ cb
      have sr := scA_rng gS (c := c) (r := nb (40 * t + i)) (by omega) (by omega)
      have cr := chF_rng gS (c := c) (r := nb (40 * t + i)) (by omega) (by omega)
      have f0 : Fr rdP h (pI h 85 k.toNat (nb (40 * t + i))) := Fr.pI Fr.rf (Or.inl rfl)
      have ms0 : MS (pI h 85 k.toNat (nb (40 * t + i))) S := ms.o (by omega)
      have mt0 := mt.fr f0 (fun a k q1 q2 => by unfold rdP; omega)
      obtain ⟨h1, e1, Q1, t1, f1⟩ := IH (k + 1) (g + pw i) (chF S c (nb (40 * t + i))) (sec + scA S c (nb (40 * t + i))) (fun z => if z = k then nb (40 * t + i) else P z) (pI h 85 k.toNat (nb (40 * t + i))) ms0 mt0 (by omega) (by omega) a1 a2 (by omega) (by omega) (by omega) (by rw [hI_pI, if_neg (by omega)]; exact hl) (fun z z0 z1 => by
        rw [hI_pI]
        by_cases cz : z = k
        · rw [if_pos ⟨rfl, by rw [cz]⟩, if_pos cz]
        · rw [if_neg (fun q => cz (by have := q.2; omega)), if_neg cz]; exact tk z z0 (by omega))
      have ms1 := ms0.q f1 (fun k => by unfold rdP; omega)
      have mt1 := mt0.fr f1 (fun a k q1 q2 => by unfold rdP; omega)
      have vr := rdV_rng gS hN hq (n := n) (g := g) (c := c) (i := i) (by omega) g0 g1 hc.1 hc.2 i0 hi cb
      have ev : rdV S (fun i => nb (40 * t + i)) N n g c i = scA S c (nb (40 * t + i)) + rdF S (fun i => nb (40 * t + i)) N n (g + pw i) (chF S c (nb (40 * t + i))) := by unfold rdV; rw [if_pos cb]
      have rr := rdF_rng gS hN hq n (g + pw i) (chF S c (nb (40 * t + i))) (by omega) a1 a2 cr.1 (by omega)
      have e32 : hI (pI h 85 k.toNat (nb (40 * t + i))) 72 32 = hI h 72 32 := by rw [hI_pI, if_neg (by omega)]
      unfold rdQ at Q1
      rw [e32] at Q1
      have hl1 : -1 ≤ hI h1 72 32 ∧ hI h1 72 32 ≤ 1760 := by
        by_cases cc : ¬ rdF S (fun i => nb (40 * t + i)) N n (g + pw i) (chF S c (nb (40 * t + i))) = -1 ∧ (hI h 72 32 = -1 ∨ sec + scA S c (nb (40 * t + i)) + rdF S (fun i => nb (40 * t + i)) N n (g + pw i) (chF S c (nb (40 * t + i))) < hI h 72 32)
        · have := (Q1.1 cc).1
          omega
        · have := (Q1.2 cc).1
          omega
      obtain ⟨h2, e2, Q2, t2, f2⟩ := ih (by omega) (by omega) h1 ms1 mt1 hl1 (fun z z0 z1 => by
        have := t1 z z0 (by omega)
        rw [if_neg (by omega)] at this
        exact this)
      refine ⟨h2, ?_, ?_, t2, (f0.tr f1).tr f2⟩
      · rw [Mod_goesRound_67]
        have ew := m_works (d := d + n + 1) ms0 gS (c := c) (r := nb (40 * t + i)) (by omega) (by omega)
        have es := m_standsFor (d := d + n + 2) ms0 gS (c := c) (r := nb (40 * t + i)) (by omega) (by omega)
        rw [show d + n + 1 + 2 = d + n + 3 by omega] at ew
        rw [show d + n + 2 + 1 = d + n + 3 by omega] at es
        have hm0 := ms0.1
        simp (disch := omega) only [Mod_goesRound_78, Mod_goesRound_85, Mod_goesRound_91, wr_id, ix_id, okx, if_pos, if_neg, Int.toNat_of_nonneg, bak_v, bak_n, wr_b01, wr_bt, b01_or, b01_0, b01_1, lc_lt0, lc_gt0, lc_eq0, wl_wr, wr_wr, wl_id, true_and, and_true, true_or, or_true, not_true_eq_false, not_false_eq_true, nc0, nc1, nc2, nc3, nc4, nc5, nc6, nc7, nc8, nc9, nc10, nc11, nc12, nc13, nc14, nc15, nc16, nc17, nc18, nc19, nc20, nc21, nc22, nc23, nc35, nc47, nc59, nc60, nc61, nc73, nc74, nc214, nc215, nc1115, nc2230, nc3345, if_true, if_false, Int.reduceToNat, hm.k, hm.r1, hm.r2, hm.r3, hm.r4, hm.r15, hm.r16, hm.r19, hm.r23, hm.r24, hm.r25, hm.r26, hm.r29, hm.r30, hm.r31, hm.r33, hm.r34, hm.r35, hm.k73, hm.k74, hm.k75, hm.k76, hm.k77, hm.k78, hm.k79, hm.k80, hm.k81, hm.k82, hm.k83, hm.k84, hm.k85, hm.k86, hm.k87, hm.k88, hm.k89, hm.n73, hm.n74, hm.n75, hm.n76, hm.n77, hm.n78, hm.n79, hm.n80, hm.n81, hm.n82, hm.n83, hm.n84, hm.n85, hm.n86, hm.n87, hm.n88, hm.n89, m2, m3, hrm, m_isIn, cb]
        simp (disch := omega) only [Mod_goesRound_114, Mod_goesRound_133, Mod_goesRound_143, wr_id, ix_id, okx, if_pos, if_neg, Int.toNat_of_nonneg, bak_v, bak_n, wr_b01, wr_bt, b01_or, b01_0, b01_1, lc_lt0, lc_gt0, lc_eq0, wl_wr, wr_wr, wl_id, true_and, and_true, true_or, or_true, not_true_eq_false, not_false_eq_true, nc0, nc1, nc2, nc3, nc4, nc5, nc6, nc7, nc8, nc9, nc10, nc11, nc12, nc13, nc14, nc15, nc16, nc17, nc18, nc19, nc20, nc21, nc22, nc23, nc35, nc47, nc59, nc60, nc61, nc73, nc74, nc214, nc215, nc1115, nc2230, nc3345, if_true, if_false, Int.reduceToNat, hm0.k, es, ew, ob, e1, Mod_goesRound_147, e2]
      · have em : fo (fun i m => mn1 (rdV S (fun i => nb (40 * t + i)) N n g c i) m) i N (-1) = mn1 (fo (fun i m => mn1 (rdV S (fun i => nb (40 * t + i)) N n g c i) m) (i + 1) N (-1)) (rdV S (fun i => nb (40 * t + i)) N n g c i) := by
          rw [fo_step hi, mo_from]
          congr 1
          unfold mn1
          rw [if_pos ⟨by omega, Or.inl rfl⟩]
        rw [ff_step hi]
        unfold rdQ at Q2
        generalize hm' : fo (fun i m => mn1 (rdV S (fun i => nb (40 * t + i)) N n g c i) m) (i + 1) N (-1) = m' at *
        generalize hmm : fo (fun i m => mn1 (rdV S (fun i => nb (40 * t + i)) N n g c i) m) i N (-1) = m at *
        generalize hvv : rdV S (fun i => nb (40 * t + i)) N n g c i = v at *
        generalize hrr : rdF S (fun i => nb (40 * t + i)) N n (g + pw i) (chF S c (nb (40 * t + i))) = rv at *
        generalize hsc : scA S c (nb (40 * t + i)) = sv at *
        have nr : -1 ≤ m' := by
          rw [← hm']
          exact fo_inv (F := fun i m => mn1 (rdV S (fun i => nb (40 * t + i)) N n g c i) m) (N := N) (P := fun m => -1 ≤ m) (i + 1) (fun j m j0 j1 hm => by
            have : -1 ≤ rdV S (fun i => nb (40 * t + i)) N n g c j := by
              rcases bt_01 g j with q | q
              · have := rdV_rng gS hN hq (n := n) (g := g) (c := c) (i := j) (by omega) g0 g1 hc.1 hc.2 (by omega) j1 q
                omega
              · unfold rdV; rw [if_neg (by omega)]; omega
            unfold mn1
            split <;> omega) (-1) (by omega)
        unfold rdQ
        by_cases cA : hI h 72 32 = -1 ∨ sec + v < hI h 72 32
        · obtain ⟨L1, B1⟩ := Q1.1 ⟨by omega, by omega⟩
          by_cases cB : ¬ m' = -1 ∧ m' < v
          · have emm : m = m' := by rw [em]; unfold mn1; rw [if_pos ⟨cB.1, Or.inr cB.2⟩]
            obtain ⟨L2, B2⟩ := Q2.1 ⟨cB.1, Or.inr (by omega)⟩
            rw [if_neg (show ¬ decide (v = m) = true by simp; omega), emm]
            exact ⟨fun _ => ⟨L2, B2⟩, fun q => absurd ⟨cB.1, by omega⟩ q⟩
          · have emm : m = v := by rw [em]; unfold mn1; rw [if_neg (by omega)]
            obtain ⟨L2, B2⟩ := Q2.2 (by omega)
            rw [if_pos (show decide (v = m) = true by simp [emm]), emm]
            refine ⟨fun _ => ⟨by omega, fun z z0 z1 => ?_⟩, fun q => absurd ⟨by omega, cA⟩ q⟩
            rw [B2 z z0 z1, B1 z z0 z1]
            by_cases c1 : z < k
            · rw [if_pos (show z < k + 1 by omega), if_pos c1]; dsimp only; rw [if_neg (by omega)]
            · rw [if_neg c1]
              unfold roG
              by_cases c2 : z = k
              · rw [if_pos (show z < k + 1 by omega)]; dsimp only; rw [if_pos c2, if_pos (by omega)]
              · rw [if_neg (show ¬ z < k + 1 by omega), if_neg (show ¬ z - k = 0 by omega), show z - (k + 1) = z - k - 1 by omega]
        · obtain ⟨L1, B1⟩ := Q1.2 (by omega)
          by_cases cB : ¬ m' = -1 ∧ sec + m' < hI h 72 32
          · have emm : m = m' := by rw [em]; unfold mn1; rw [if_pos ⟨cB.1, Or.inr (by omega)⟩]
            obtain ⟨L2, B2⟩ := Q2.1 ⟨cB.1, Or.inr (by omega)⟩
            rw [if_neg (show ¬ decide (v = m) = true by simp; omega), emm]
            exact ⟨fun _ => ⟨L2, B2⟩, fun q => absurd ⟨cB.1, by omega⟩ q⟩
          · obtain ⟨L2, B2⟩ := Q2.2 (by omega)
            have nm : ¬ (¬ m = -1 ∧ (hI h 72 32 = -1 ∨ sec + m < hI h 72 32)) := by
              rw [em]
              unfold mn1
              split <;> omega
            exact ⟨fun q => absurd q nm, fun _ => ⟨by omega, fun z z0 z1 => by rw [B2 z z0 z1, B1 z z0 z1, hI_pI, if_neg (by omega)]⟩⟩
    · obtain ⟨h2, e2, Q2, t2, f2⟩ := ih (by omega) (by omega) h ms mt hl tk
      have ev : rdV S (fun i => nb (40 * t + i)) N n g c i = -1 := by unfold rdV; rw [if_neg (by omega)]
      refine ⟨h2, ?_, ?_, t2, f2⟩
      · rw [Mod_goesRound_67]
        simp (disch := omega) only [Mod_goesRound_78, Mod_goesRound_85, Mod_goesRound_88, Mod_goesRound_147, wr_id, ix_id, okx, if_pos, if_neg, Int.toNat_of_nonneg, bak_v, bak_n, wr_b01, wr_bt, b01_or, b01_0, b01_1, lc_lt0, lc_gt0, lc_eq0, wl_wr, wr_wr, wl_id, true_and, and_true, true_or, or_true, not_true_eq_false, not_false_eq_true, nc0, nc1, nc2, nc3, nc4, nc5, nc6, nc7, nc8, nc9, nc10, nc11, nc12, nc13, nc14, nc15, nc16, nc17, nc18, nc19, nc20, nc21, nc22, nc23, nc35, nc47, nc59, nc60, nc61, nc73, nc74, nc214, nc215, nc1115, nc2230, nc3345, if_true, if_false, Int.reduceToNat, hm.k, hm.r1, hm.r2, hm.r3, hm.r4, hm.r15, hm.r16, hm.r19, hm.r23, hm.r24, hm.r25, hm.r26, hm.r29, hm.r30, hm.r31, hm.r33, hm.r34, hm.r35, hm.k73, hm.k74, hm.k75, hm.k76, hm.k77, hm.k78, hm.k79, hm.k80, hm.k81, hm.k82, hm.k83, hm.k84, hm.k85, hm.k86, hm.k87, hm.k88, hm.k89, hm.n73, hm.n74, hm.n75, hm.n76, hm.n77, hm.n78, hm.n79, hm.n80, hm.n81, hm.n82, hm.n83, hm.n84, hm.n85, hm.n86, hm.n87, hm.n88, hm.n89, m2, hrm, m_isIn, cb]
        exact e2
      · have em : fo (fun i m => mn1 (rdV S (fun i => nb (40 * t + i)) N n g c i) m) i N (-1) = fo (fun i m => mn1 (rdV S (fun i => nb (40 * t + i)) N n g c i) m) (i + 1) N (-1) := by
          rw [fo_step hi, ev]
          rfl
        rw [em, ff_step hi, ev]
        refine ⟨fun q => ?_, Q2.2⟩
        rw [if_neg (show ¬ decide (-1 = fo (fun i m => mn1 (rdV S (fun i => nb (40 * t + i)) N n g c i) m) (i + 1) N (-1)) = true by simp; omega)]
        exact Q2.1 q
theorem m_goesRound {d : Nat} {S rs rm nb : Int → Int} {t N : Int} (gS : GdW S) (ht : 0 ≤ t ∧ t < 4) (hN : 1 ≤ N ∧ N ≤ 8) (hrm : rm t = N) (hq : qOk (fun i => nb (40 * t + i)) N) : ∀ n : Nat, grC d S rs rm nb t N n := by
  intro n
  induction n with
  | zero =>
    intro k g c sec P h ms mt k0 kn g0 g1 pg hc hs hl tk
    have hm := ms.1
    have m2 := mt.2.1 t.toNat
    rw [show (t.toNat : Int) = t by omega] at m2
    have ek : k = N := by omega
    by_cases cc : hI h 72 32 = -1 ∨ sec < hI h 72 32
    · have f0 : Fr rdP h (pI h 72 32 sec) := Fr.pI Fr.rf (Or.inr (Or.inr ⟨rfl, rfl⟩))
      obtain ⟨h1, e1, k1, f1⟩ := m_gr_leaf (d := d + 0 + 2) (N := N) ⟨by omega, hN.2⟩ (P := P) 0 (by omega) (by omega) (pI h 72 32 sec) (hm.fr f0) (fun z z0 z1 => by rw [hI_pI, if_neg (by omega)]; exact tk z z0 (by omega)) (fun z z0 z1 => by omega)
      have f1' : Fr rdP (pI h 72 32 sec) h1 := f1.mo (fun a k q => Or.inr (Or.inl q))
      refine ⟨h1, ?_, ?_, fun z z0 z1 => ?_, f0.tr f1'⟩
      · show EX (d+0+2) m_Mod_goesRound 0 [(0, .inr (.inr (72))), (1, .inl (t)), (2, .inl (k)), (3, .inl (g)), (4, .inl (c)), (5, .inl (sec))] [] (h) = _
        rw [Mod_goesRound_0]
        simp (disch := omega) only [wr_id, ix_id, okx, if_pos, if_neg, Int.toNat_of_nonneg, bak_v, bak_n, wr_b01, wr_bt, b01_or, b01_0, b01_1, lc_lt0, lc_gt0, lc_eq0, wl_wr, wr_wr, wl_id, true_and, and_true, true_or, or_true, not_true_eq_false, not_false_eq_true, nc0, nc1, nc2, nc3, nc4, nc5, nc6, nc7, nc8, nc9, nc10, nc11, nc12, nc13, nc14, nc15, nc16, nc17, nc18, nc19, nc20, nc21, nc22, nc23, nc35, nc47, nc59, nc60, nc61, nc73, nc74, nc214, nc215, nc1115, nc2230, nc3345, if_true, if_false, Int.reduceToNat, hm.k, hm.r1, hm.r2, hm.r3, hm.r4, hm.r15, hm.r16, hm.r19, hm.r23, hm.r24, hm.r25, hm.r26, hm.r29, hm.r30, hm.r31, hm.r33, hm.r34, hm.r35, hm.k73, hm.k74, hm.k75, hm.k76, hm.k77, hm.k78, hm.k79, hm.k80, hm.k81, hm.k82, hm.k83, hm.k84, hm.k85, hm.k86, hm.k87, hm.k88, hm.k89, hm.n73, hm.n74, hm.n75, hm.n76, hm.n77, hm.n78, hm.n79, hm.n80, hm.n81, hm.n82, hm.n83, hm.n84, hm.n85, hm.n86, hm.n87, hm.n88, hm.n89, m2, hrm]
        subst ek
        by_cases c1 : hI h 72 32 = -1
        · simp (disch := omega) only [Mod_goesRound_10, Mod_goesRound_28, Mod_goesRound_34, wr_id, ix_id, okx, if_pos, if_neg, Int.toNat_of_nonneg, bak_v, bak_n, wr_b01, wr_bt, b01_or, b01_0, b01_1, lc_lt0, lc_gt0, lc_eq0, wl_wr, wr_wr, wl_id, true_and, and_true, true_or, or_true, not_true_eq_false, not_false_eq_true, nc0, nc1, nc2, nc3, nc4, nc5, nc6, nc7, nc8, nc9, nc10, nc11, nc12, nc13, nc14, nc15, nc16, nc17, nc18, nc19, nc20, nc21, nc22, nc23, nc35, nc47, nc59, nc60, nc61, nc73, nc74, nc214, nc215, nc1115, nc2230, nc3345, if_true, if_false, Int.reduceToNat, hm.k, hm.r1, hm.r2, hm.r3, hm.r4, hm.r15, hm.r16, hm.r19, hm.r23, hm.r24, hm.r25, hm.r26, hm.r29, hm.r30, hm.r31, hm.r33, hm.r34, hm.r35, hm.k73, hm.k74, hm.k75, hm.k76, hm.k77, hm.k78, hm.k79, hm.k80, hm.k81, hm.k82, hm.k83, hm.k84, hm.k85, hm.k86, hm.k87, hm.k88, hm.k89, hm.n73, hm.n74, hm.n75, hm.n76, hm.n77, hm.n78, hm.n79, hm.n80, hm.n81, hm.n82, hm.n83, hm.n84, hm.n85, hm.n86, hm.n87, hm.n88, hm.n89, c1]
          exact e1
        · simp (disch := omega) only [Mod_goesRound_10, Mod_goesRound_18, Mod_goesRound_28, Mod_goesRound_34, wr_id, ix_id, okx, if_pos, if_neg, Int.toNat_of_nonneg, bak_v, bak_n, wr_b01, wr_bt, b01_or, b01_0, b01_1, lc_lt0, lc_gt0, lc_eq0, wl_wr, wr_wr, wl_id, true_and, and_true, true_or, or_true, not_true_eq_false, not_false_eq_true, nc0, nc1, nc2, nc3, nc4, nc5, nc6, nc7, nc8, nc9, nc10, nc11, nc12, nc13, nc14, nc15, nc16, nc17, nc18, nc19, nc20, nc21, nc22, nc23, nc35, nc47, nc59, nc60, nc61, nc73, nc74, nc214, nc215, nc1115, nc2230, nc3345, if_true, if_false, Int.reduceToNat, hm.k, hm.r1, hm.r2, hm.r3, hm.r4, hm.r15, hm.r16, hm.r19, hm.r23, hm.r24, hm.r25, hm.r26, hm.r29, hm.r30, hm.r31, hm.r33, hm.r34, hm.r35, hm.k73, hm.k74, hm.k75, hm.k76, hm.k77, hm.k78, hm.k79, hm.k80, hm.k81, hm.k82, hm.k83, hm.k84, hm.k85, hm.k86, hm.k87, hm.k88, hm.k89, hm.n73, hm.n74, hm.n75, hm.n76, hm.n77, hm.n78, hm.n79, hm.n80, hm.n81, hm.n82, hm.n83, hm.n84, hm.n85, hm.n86, hm.n87, hm.n88, hm.n89]
          exact e1
      · unfold rdQ
        simp only [rdF, Int.add_zero]
        refine ⟨fun _ => ⟨?_, fun z z0 z1 => ?_⟩, fun q => absurd ⟨by omega, cc⟩ q⟩
        · rw [f1.I (by omega), hI_pI, if_pos ⟨rfl, rfl⟩]
        · rw [k1 z z0 z1, if_pos (by omega)]
      · rw [f1.I (by omega), hI_pI, if_neg (by omega)]
        exact tk z z0 z1
    · refine ⟨h, ?_, ?_, tk, Fr.rf⟩
      · show EX (d+0+2) m_Mod_goesRound 0 [(0, .inr (.inr (72))), (1, .inl (t)), (2, .inl (k)), (3, .inl (g)), (4, .inl (c)), (5, .inl (sec))] [] (h) = _
        rw [Mod_goesRound_0]
        simp (disch := omega) only [Mod_goesRound_10, Mod_goesRound_18, Mod_goesRound_27, wr_id, ix_id, okx, if_pos, if_neg, Int.toNat_of_nonneg, bak_v, bak_n, wr_b01, wr_bt, b01_or, b01_0, b01_1, lc_lt0, lc_gt0, lc_eq0, wl_wr, wr_wr, wl_id, true_and, and_true, true_or, or_true, not_true_eq_false, not_false_eq_true, nc0, nc1, nc2, nc3, nc4, nc5, nc6, nc7, nc8, nc9, nc10, nc11, nc12, nc13, nc14, nc15, nc16, nc17, nc18, nc19, nc20, nc21, nc22, nc23, nc35, nc47, nc59, nc60, nc61, nc73, nc74, nc214, nc215, nc1115, nc2230, nc3345, if_true, if_false, Int.reduceToNat, hm.k, hm.r1, hm.r2, hm.r3, hm.r4, hm.r15, hm.r16, hm.r19, hm.r23, hm.r24, hm.r25, hm.r26, hm.r29, hm.r30, hm.r31, hm.r33, hm.r34, hm.r35, hm.k73, hm.k74, hm.k75, hm.k76, hm.k77, hm.k78, hm.k79, hm.k80, hm.k81, hm.k82, hm.k83, hm.k84, hm.k85, hm.k86, hm.k87, hm.k88, hm.k89, hm.n73, hm.n74, hm.n75, hm.n76, hm.n77, hm.n78, hm.n79, hm.n80, hm.n81, hm.n82, hm.n83, hm.n84, hm.n85, hm.n86, hm.n87, hm.n88, hm.n89, m2, hrm]
      · unfold rdQ
        simp only [rdF, Int.add_zero]
        exact ⟨fun q => absurd q.2 cc, fun _ => ⟨trivial, fun _ _ _ => trivial⟩⟩
  | succ n ih =>
    intro k g c sec P h ms mt k0 kn g0 g1 pg hc hs hl tk
    have hm := ms.1
    have m2 := mt.2.1 t.toNat
    rw [show (t.toNat : Int) = t by omega] at m2
    obtain ⟨h1, e1, Q1, t1, f1⟩ := m_gr_loop gS ht hN hrm hq ih (k := k) (g := g) (c := c) (sec := sec) k0 (by omega) g0 g1 pg hc hs (P := P) 0 (by omega) (by omega) h ms mt hl tk
    refine ⟨h1, ?_, Q1, t1, f1⟩
    show EX (d+n+3) m_Mod_goesRound 0 [(0, .inr (.inr (72))), (1, .inl (t)), (2, .inl (k)), (3, .inl (g)), (4, .inl (c)), (5, .inl (sec))] [] (h) = _
    rw [Mod_goesRound_0]
    simp (disch := omega) only [Mod_goesRound_64, wr_id, ix_id, okx, if_pos, if_neg, Int.toNat_of_nonneg, bak_v, bak_n, wr_b01, wr_bt, b01_or, b01_0, b01_1, lc_lt0, lc_gt0, lc_eq0, wl_wr, wr_wr, wl_id, true_and, and_true, true_or, or_true, not_true_eq_false, not_false_eq_true, nc0, nc1, nc2, nc3, nc4, nc5, nc6, nc7, nc8, nc9, nc10, nc11, nc12, nc13, nc14, nc15, nc16, nc17, nc18, nc19, nc20, nc21, nc22, nc23, nc35, nc47, nc59, nc60, nc61, nc73, nc74, nc214, nc215, nc1115, nc2230, nc3345, if_true, if_false, Int.reduceToNat, hm.k, hm.r1, hm.r2, hm.r3, hm.r4, hm.r15, hm.r16, hm.r19, hm.r23, hm.r24, hm.r25, hm.r26, hm.r29, hm.r30, hm.r31, hm.r33, hm.r34, hm.r35, hm.k73, hm.k74, hm.k75, hm.k76, hm.k77, hm.k78, hm.k79, hm.k80, hm.k81, hm.k82, hm.k83, hm.k84, hm.k85, hm.k86, hm.k87, hm.k88, hm.k89, hm.n73, hm.n74, hm.n75, hm.n76, hm.n77, hm.n78, hm.n79, hm.n80, hm.n81, hm.n82, hm.n83, hm.n84, hm.n85, hm.n86, hm.n87, hm.n88, hm.n89, m2, hrm]
    exact e1
