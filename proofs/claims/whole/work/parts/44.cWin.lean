/-! the class: Window, over a row S -/
theorem WinAt.k {h : Hp} {w : Nat} (q : WinAt h w) : sK h w = 9 := q.1
theorem WinAt.r0 {h : Hp} {w : Nat} (q : WinAt h w) : hR h w 0 = w + 1 := q.2.1.1
theorem WinAt.r1 {h : Hp} {w : Nat} (q : WinAt h w) : hR h w 1 = w + 2 := q.2.1.2.1
theorem WinAt.r2 {h : Hp} {w : Nat} (q : WinAt h w) : hR h w 2 = w + 3 := q.2.1.2.2.1
theorem WinAt.r3 {h : Hp} {w : Nat} (q : WinAt h w) : hR h w 3 = w + 4 := q.2.1.2.2.2.1
theorem WinAt.r4 {h : Hp} {w : Nat} (q : WinAt h w) : hR h w 4 = w + 5 := q.2.1.2.2.2.2
theorem WinAt.k1 {h : Hp} {w : Nat} (q : WinAt h w) : sK h (w + 1) = 20 := (q.2.2 1 (by omega) (by omega)).1
theorem WinAt.k2 {h : Hp} {w : Nat} (q : WinAt h w) : sK h (w + 2) = 20 := (q.2.2 2 (by omega) (by omega)).1
theorem WinAt.k3 {h : Hp} {w : Nat} (q : WinAt h w) : sK h (w + 3) = 20 := (q.2.2 3 (by omega) (by omega)).1
theorem WinAt.k4 {h : Hp} {w : Nat} (q : WinAt h w) : sK h (w + 4) = 20 := (q.2.2 4 (by omega) (by omega)).1
theorem WinAt.k5 {h : Hp} {w : Nat} (q : WinAt h w) : sK h (w + 5) = 20 := (q.2.2 5 (by omega) (by omega)).1
theorem WinAt.n1 {h : Hp} {w : Nat} (q : WinAt h w) : sN h (w + 1) = 12 := (q.2.2 1 (by omega) (by omega)).2
theorem WinAt.n2 {h : Hp} {w : Nat} (q : WinAt h w) : sN h (w + 2) = 12 := (q.2.2 2 (by omega) (by omega)).2
theorem WinAt.n3 {h : Hp} {w : Nat} (q : WinAt h w) : sN h (w + 3) = 12 := (q.2.2 3 (by omega) (by omega)).2
theorem WinAt.n4 {h : Hp} {w : Nat} (q : WinAt h w) : sN h (w + 4) = 12 := (q.2.2 4 (by omega) (by omega)).2
theorem WinAt.n5 {h : Hp} {w : Nat} (q : WinAt h w) : sN h (w + 5) = 12 := (q.2.2 5 (by omega) (by omega)).2
theorem HangAt.k {h : Hp} {a : Nat} (q : HangAt h a) : sK h a = 0 := q.1
theorem HangAt.r {h : Hp} {a : Nat} (q : HangAt h a) : hR h a 0 = a + 1 := q.2.1
theorem HangAt.k1 {h : Hp} {a : Nat} (q : HangAt h a) : sK h (a + 1) = 20 := q.2.2.1
theorem HangAt.n1 {h : Hp} {a : Nat} (q : HangAt h a) : sN h (a + 1) = 12 := q.2.2.2
/-- window w is told as in row S -/
def WVf (h : Hp) (w : Nat) (S : Int → Int) : Prop := hI h w 5 = S 1 ∧ hI h w 6 = S 2 ∧ hI h w 7 = S 10 ∧ hI h w 8 = S 3 ∧ hI h w 9 = S 4 ∧ hI h w 10 = S 5 ∧ hI h w 11 = S 6 ∧ hI h w 12 = S 7 ∧ hI h w 13 = S 8 ∧ hI h w 14 = S 0
def WVa (h : Hp) (w : Nat) (S : Int → Int) : Prop := (∀ k : Nat, (k : Int) < S 1 → hI h (w + 1) k = sm (fun j => S (11 + j)) 0 k) ∧ (∀ k : Nat, (k : Int) < S 2 → hI h (w + 2) k = sm (fun j => S (23 + j)) 0 k) ∧ (∀ k : Nat, k < 12 → hI h (w + 3) k = S (35 + k)) ∧ (∀ k : Nat, k < 12 → hI h (w + 4) k = S (47 + k))
def WV (h : Hp) (w : Nat) (S : Int → Int) : Prop := WinAt h w ∧ WVf h w S ∧ WVa h w S
/-- its right bits are the law's -/
def RV (h : Hp) (w : Nat) (S : Int → Int) : Prop := ∀ k : Nat, (k : Int) < S 1 → ∀ r, 0 ≤ r → r < S 2 → bt (hI h (w + 5) k) r = lawV S k r
def HV (h : Hp) (a : Nat) (S : Int → Int) : Prop := HangAt h a ∧ hI h a 1 = S 59 ∧ hI h a 2 = S 60 ∧ ∀ k : Nat, k < 12 → hI h (a + 1) k = S (61 + k)
theorem WV.f5 {h : Hp} {w : Nat} {S : Int → Int} (v : WV h w S) : hI h w 5 = S 1 := v.2.1.1
theorem WV.f6 {h : Hp} {w : Nat} {S : Int → Int} (v : WV h w S) : hI h w 6 = S 2 := v.2.1.2.1
theorem WV.f7 {h : Hp} {w : Nat} {S : Int → Int} (v : WV h w S) : hI h w 7 = S 10 := v.2.1.2.2.1
theorem WV.f8 {h : Hp} {w : Nat} {S : Int → Int} (v : WV h w S) : hI h w 8 = S 3 := v.2.1.2.2.2.1
theorem WV.f9 {h : Hp} {w : Nat} {S : Int → Int} (v : WV h w S) : hI h w 9 = S 4 := v.2.1.2.2.2.2.1
theorem WV.f10 {h : Hp} {w : Nat} {S : Int → Int} (v : WV h w S) : hI h w 10 = S 5 := v.2.1.2.2.2.2.2.1
theorem WV.f11 {h : Hp} {w : Nat} {S : Int → Int} (v : WV h w S) : hI h w 11 = S 6 := v.2.1.2.2.2.2.2.2.1
theorem WV.f12 {h : Hp} {w : Nat} {S : Int → Int} (v : WV h w S) : hI h w 12 = S 7 := v.2.1.2.2.2.2.2.2.2.1
theorem WV.f13 {h : Hp} {w : Nat} {S : Int → Int} (v : WV h w S) : hI h w 13 = S 8 := v.2.1.2.2.2.2.2.2.2.2.1
theorem WV.f14 {h : Hp} {w : Nat} {S : Int → Int} (v : WV h w S) : hI h w 14 = S 0 := v.2.1.2.2.2.2.2.2.2.2.2
theorem WV.pk {h : Hp} {w : Nat} {S : Int → Int} (v : WV h w S) : ∀ k : Nat, (k : Int) < S 1 → hI h (w + 1) k = sm (fun j => S (11 + j)) 0 k := v.2.2.1
theorem WV.qk {h : Hp} {w : Nat} {S : Int → Int} (v : WV h w S) : ∀ k : Nat, (k : Int) < S 2 → hI h (w + 2) k = sm (fun j => S (23 + j)) 0 k := v.2.2.2.1
theorem WV.hk {h : Hp} {w : Nat} {S : Int → Int} (v : WV h w S) : ∀ k : Nat, k < 12 → hI h (w + 3) k = S (35 + k) := v.2.2.2.2.1
theorem WV.rk {h : Hp} {w : Nat} {S : Int → Int} (v : WV h w S) : ∀ k : Nat, k < 12 → hI h (w + 4) k = S (47 + k) := v.2.2.2.2.2

theorem c_isHook {d w : Nat} {h : Hp} {S : Int → Int} (wv : WV h w S) (ga : 0 ≤ S 1 ∧ S 1 ≤ 12) {x : Int} (rx : -2147483648 ≤ x ∧ x ≤ 2147483647) : cal (d+1) m_Window_isHook [.inr (.inr (w)), .inl (x)] (h) = some (.inl (b01 (0 ≤ x ∧ x < S 1)), h) := by
  have hw := wv.1
  show EX (d) m_Window_isHook 0 [(0, .inr (.inr (w))), (1, .inl (x))] [] (h) = _
  simp (disch := omega) only [Window_isHook_0, Window_isHook_4, Window_isHook_12, Window_isHook_16, Window_isHook_17, wr_id, ix_id, okx, if_pos, if_neg, Int.toNat_of_nonneg, bak_v, bak_n, wr_b01, wr_bt, b01_or, b01_0, b01_1, lc_lt0, lc_gt0, lc_eq0, wl_wr, wr_wr, wl_id, true_and, and_true, true_or, or_true, not_true_eq_false, not_false_eq_true, nc0, nc1, nc2, nc3, nc4, nc5, nc6, nc7, nc8, nc9, nc10, nc11, nc12, nc13, nc14, nc15, nc16, nc17, nc18, nc19, nc20, nc21, nc22, nc23, nc35, nc47, nc59, nc60, nc61, nc73, nc74, nc214, nc215, nc1115, nc2230, nc3345, if_true, if_false, Int.reduceToNat, hw.k, hw.r0, hw.r1, hw.r2, hw.r3, hw.r4, hw.k1, hw.k2, hw.k3, hw.k4, hw.k5, hw.n1, hw.n2, hw.n3, hw.n4, hw.n5, wv.f5, wv.f6, wv.f7, wv.f8, wv.f9, wv.f10, wv.f11, wv.f12, wv.f13, wv.f14, wv.pk, wv.qk, wv.hk, wv.rk, b01]
  by_cases h1 : x < 0 <;> by_cases h2 : x < S 1 <;> simp [h1, h2] <;> omega
theorem c_isRing {d w : Nat} {h : Hp} {S : Int → Int} (wv : WV h w S) (gb : 0 ≤ S 2 ∧ S 2 ≤ 12) {x : Int} (rx : -2147483648 ≤ x ∧ x ≤ 2147483647) : cal (d+1) m_Window_isRing [.inr (.inr (w)), .inl (x)] (h) = some (.inl (b01 (0 ≤ x ∧ x < S 2)), h) := by
  have hw := wv.1
  show EX (d) m_Window_isRing 0 [(0, .inr (.inr (w))), (1, .inl (x))] [] (h) = _
  simp (disch := omega) only [Window_isRing_0, Window_isRing_4, Window_isRing_12, Window_isRing_16, Window_isRing_17, wr_id, ix_id, okx, if_pos, if_neg, Int.toNat_of_nonneg, bak_v, bak_n, wr_b01, wr_bt, b01_or, b01_0, b01_1, lc_lt0, lc_gt0, lc_eq0, wl_wr, wr_wr, wl_id, true_and, and_true, true_or, or_true, not_true_eq_false, not_false_eq_true, nc0, nc1, nc2, nc3, nc4, nc5, nc6, nc7, nc8, nc9, nc10, nc11, nc12, nc13, nc14, nc15, nc16, nc17, nc18, nc19, nc20, nc21, nc22, nc23, nc35, nc47, nc59, nc60, nc61, nc73, nc74, nc214, nc215, nc1115, nc2230, nc3345, if_true, if_false, Int.reduceToNat, hw.k, hw.r0, hw.r1, hw.r2, hw.r3, hw.r4, hw.k1, hw.k2, hw.k3, hw.k4, hw.k5, hw.n1, hw.n2, hw.n3, hw.n4, hw.n5, wv.f5, wv.f6, wv.f7, wv.f8, wv.f9, wv.f10, wv.f11, wv.f12, wv.f13, wv.f14, wv.pk, wv.qk, wv.hk, wv.rk, b01]
  by_cases h1 : x < 0 <;> by_cases h2 : x < S 2 <;> simp [h1, h2] <;> omega
theorem c_isBroken {d w : Nat} {h : Hp} {S : Int → Int} (wv : WV h w S) {r : Int} (hr : 0 ≤ r ∧ r < 32) : cal (d+1) m_Window_isBroken [.inr (.inr (w)), .inl (r)] (h) = some (.inl (bt (S 10) r), h) := by
  have hw := wv.1
  show EX (d) m_Window_isBroken 0 [(0, .inr (.inr (w))), (1, .inl (r))] [] (h) = _
  simp (disch := omega) only [Window_isBroken_0, Window_isBroken_11, Window_isBroken_15, Window_isBroken_16, wr_id, ix_id, okx, if_pos, if_neg, Int.toNat_of_nonneg, bak_v, bak_n, wr_b01, wr_bt, b01_or, b01_0, b01_1, lc_lt0, lc_gt0, lc_eq0, wl_wr, wr_wr, wl_id, true_and, and_true, true_or, or_true, not_true_eq_false, not_false_eq_true, nc0, nc1, nc2, nc3, nc4, nc5, nc6, nc7, nc8, nc9, nc10, nc11, nc12, nc13, nc14, nc15, nc16, nc17, nc18, nc19, nc20, nc21, nc22, nc23, nc35, nc47, nc59, nc60, nc61, nc73, nc74, nc214, nc215, nc1115, nc2230, nc3345, if_true, if_false, Int.reduceToNat, hw.k, hw.r0, hw.r1, hw.r2, hw.r3, hw.r4, hw.k1, hw.k2, hw.k3, hw.k4, hw.k5, hw.n1, hw.n2, hw.n3, hw.n4, hw.n5, wv.f5, wv.f6, wv.f7, wv.f8, wv.f9, wv.f10, wv.f11, wv.f12, wv.f13, wv.f14, wv.pk, wv.qk, wv.hk, wv.rk, bt_s]
  rcases bt_01 (S 10) r with e | e <;> rw [e] <;> simp
theorem c_gaps {d w : Nat} {h : Hp} {S : Int → Int} (wv : WV h w S) (gb : 0 ≤ S 2 ∧ S 2 ≤ 12) : cal (d+1) m_Window_gaps [.inr (.inr (w))] (h) = some (.inl (if S 2 = 0 then 0 else S 2 - 1), h) := by
  have hw := wv.1
  show EX (d) m_Window_gaps 0 [(0, .inr (.inr (w)))] [] (h) = _
  simp (disch := omega) only [Window_gaps_0, Window_gaps_7, Window_gaps_16, Window_gaps_17, wr_id, ix_id, okx, if_pos, if_neg, Int.toNat_of_nonneg, bak_v, bak_n, wr_b01, wr_bt, b01_or, b01_0, b01_1, lc_lt0, lc_gt0, lc_eq0, wl_wr, wr_wr, wl_id, true_and, and_true, true_or, or_true, not_true_eq_false, not_false_eq_true, nc0, nc1, nc2, nc3, nc4, nc5, nc6, nc7, nc8, nc9, nc10, nc11, nc12, nc13, nc14, nc15, nc16, nc17, nc18, nc19, nc20, nc21, nc22, nc23, nc35, nc47, nc59, nc60, nc61, nc73, nc74, nc214, nc215, nc1115, nc2230, nc3345, if_true, if_false, Int.reduceToNat, hw.k, hw.r0, hw.r1, hw.r2, hw.r3, hw.r4, hw.k1, hw.k2, hw.k3, hw.k4, hw.k5, hw.n1, hw.n2, hw.n3, hw.n4, hw.n5, wv.f5, wv.f6, wv.f7, wv.f8, wv.f9, wv.f10, wv.f11, wv.f12, wv.f13, wv.f14, wv.pk, wv.qk, wv.hk, wv.rk]
  by_cases h1 : S 2 = 0
  · simp [h1]
  · have h2 : 0 < S 2 := by omega
    simp [h1, h2]
/-- as the class reckons: differences of sums -/
def sagD (S : Int → Int) (x r y s : Int) : Int := sm (fun j => S (11 + j)) 0 y - sm (fun j => S (11 + j)) 0 x - (sm (fun j => S (23 + j)) 0 s - sm (fun j => S (23 + j)) 0 r)
theorem sagD_M {S : Int → Int} {x r y s : Int} (h1 : 0 ≤ x) (h2 : x ≤ y) (h3 : 0 ≤ r) (h4 : r ≤ s) : sagD S x r y s = sagM S x r y s := by
  unfold sagD sagM
  have a := sm_split (f := fun j => S (11 + j)) h2 0 h1
  have b := sm_split (f := fun j => S (23 + j)) h4 0 h3
  omega
theorem c_sagB {d w : Nat} {h : Hp} {S : Int → Int} (wv : WV h w S) (ga : S 1 ≤ 12) (gb : S 2 ≤ 12) {x r y s : Int} (hx : 0 ≤ x ∧ x < S 1) (hr : 0 ≤ r ∧ r < S 2) (hy : 0 ≤ y ∧ y < S 1) (hs : 0 ≤ s ∧ s < S 2) : cal (d+1) m_Window_sagBetween [.inr (.inr (w)), .inl (x), .inl (r), .inl (y), .inl (s)] (h) = some (.inl (sagD S x r y s), h) := by
  have hw := wv.1
  show EX (d) m_Window_sagBetween 0 [(0, .inr (.inr (w))), (1, .inl (x)), (2, .inl (r)), (3, .inl (y)), (4, .inl (s))] [] (h) = _
  simp (disch := omega) only [Window_sagBetween_0, wr_id, ix_id, okx, if_pos, if_neg, Int.toNat_of_nonneg, bak_v, bak_n, wr_b01, wr_bt, b01_or, b01_0, b01_1, lc_lt0, lc_gt0, lc_eq0, wl_wr, wr_wr, wl_id, true_and, and_true, true_or, or_true, not_true_eq_false, not_false_eq_true, nc0, nc1, nc2, nc3, nc4, nc5, nc6, nc7, nc8, nc9, nc10, nc11, nc12, nc13, nc14, nc15, nc16, nc17, nc18, nc19, nc20, nc21, nc22, nc23, nc35, nc47, nc59, nc60, nc61, nc73, nc74, nc214, nc215, nc1115, nc2230, nc3345, if_true, if_false, Int.reduceToNat, hw.k, hw.r0, hw.r1, hw.r2, hw.r3, hw.r4, hw.k1, hw.k2, hw.k3, hw.k4, hw.k5, hw.n1, hw.n2, hw.n3, hw.n4, hw.n5, wv.f5, wv.f6, wv.f7, wv.f8, wv.f9, wv.f10, wv.f11, wv.f12, wv.f13, wv.f14, wv.pk, wv.qk, wv.hk, wv.rk, sagD]
theorem c_sag {d w : Nat} {h : Hp} {S : Int → Int} (wv : WV h w S) (ga : S 1 ≤ 12) (gb : S 2 ≤ 12) {x r y s : Int} (hx : 0 ≤ x) (hxy : x ≤ y) (hy : y < S 1) (hr : 0 ≤ r) (hrs : r ≤ s) (hs : s < S 2) : cal (d+1) m_Window_sagBetween [.inr (.inr (w)), .inl (x), .inl (r), .inl (y), .inl (s)] (h) = some (.inl (sagM S x r y s), h) := by
  rw [c_sagB wv ga gb (by omega) (by omega) (by omega) (by omega), sagD_M hx hxy hr hrs]
theorem c_isRight {d w : Nat} {h : Hp} {S : Int → Int} (wv : WV h w S) (rv : RV h w S) (g : Gd S) {x y : Int} (rx : -2147483648 ≤ x ∧ x ≤ 2147483647) (ry : -2147483648 ≤ y ∧ y ≤ 2147483647) : cal (d+2) m_Window_isRight [.inr (.inr (w)), .inl (x), .inl (y)] (h) = some (.inl (b01 ((0 ≤ x ∧ x < S 1) ∧ (0 ≤ y ∧ y < S 2) ∧ lawV S x y = 1)), h) := by
  have hw := wv.1
  have ga := g.a
  have gb := g.b
  show EX (d+1) m_Window_isRight 0 [(0, .inr (.inr (w))), (1, .inl (x)), (2, .inl (y))] [] (h) = _
  simp (disch := omega) only [Window_isRight_0, Window_isRight_5, Window_isRight_8, Window_isRight_13, Window_isRight_16, Window_isRight_29, Window_isRight_33, Window_isRight_34, wr_id, ix_id, okx, if_pos, if_neg, Int.toNat_of_nonneg, bak_v, bak_n, wr_b01, wr_bt, b01_or, b01_0, b01_1, lc_lt0, lc_gt0, lc_eq0, wl_wr, wr_wr, wl_id, true_and, and_true, true_or, or_true, not_true_eq_false, not_false_eq_true, nc0, nc1, nc2, nc3, nc4, nc5, nc6, nc7, nc8, nc9, nc10, nc11, nc12, nc13, nc14, nc15, nc16, nc17, nc18, nc19, nc20, nc21, nc22, nc23, nc35, nc47, nc59, nc60, nc61, nc73, nc74, nc214, nc215, nc1115, nc2230, nc3345, if_true, if_false, Int.reduceToNat, hw.k, hw.r0, hw.r1, hw.r2, hw.r3, hw.r4, hw.k1, hw.k2, hw.k3, hw.k4, hw.k5, hw.n1, hw.n2, hw.n3, hw.n4, hw.n5, wv.f5, wv.f6, wv.f7, wv.f8, wv.f9, wv.f10, wv.f11, wv.f12, wv.f13, wv.f14, wv.pk, wv.qk, wv.hk, wv.rk, c_isHook wv ga, c_isRing wv gb]
  by_cases h1 : 0 ≤ x ∧ x < S 1
  · by_cases h2 : 0 ≤ y ∧ y < S 2
    · have e := rv x.toNat (by omega) y h2.1 h2.2
      rw [Int.toNat_of_nonneg h1.1] at e
      simp (disch := omega) only [wr_id, ix_id, okx, if_pos, if_neg, Int.toNat_of_nonneg, bak_v, bak_n, wr_b01, wr_bt, b01_or, b01_0, b01_1, lc_lt0, lc_gt0, lc_eq0, wl_wr, wr_wr, wl_id, true_and, and_true, true_or, or_true, not_true_eq_false, not_false_eq_true, nc0, nc1, nc2, nc3, nc4, nc5, nc6, nc7, nc8, nc9, nc10, nc11, nc12, nc13, nc14, nc15, nc16, nc17, nc18, nc19, nc20, nc21, nc22, nc23, nc35, nc47, nc59, nc60, nc61, nc73, nc74, nc214, nc215, nc1115, nc2230, nc3345, if_true, if_false, Int.reduceToNat, bt_s, e]
      rcases bt_01 (hI h (w + 5) x.toNat) y with q | q <;> rw [e] at q <;> simp [q, h1, h2, b01, wr]
    · simp [h1, h2, b01]
  · simp [h1, b01]
/-- where the chair is put to reach ring r from c; the seconds of it -/
def chF (S : Int → Int) (c r : Int) : Int := if c + S 3 < r then r - S 3 else if r < c - S 3 then r + S 3 else c
theorem c_chairFor {d w : Nat} {h : Hp} {S : Int → Int} (wv : WV h w S) (g : GdW S) {c r : Int} (hc : -1000 ≤ c ∧ c ≤ 1000) (hr : -1000 ≤ r ∧ r ≤ 1000) : cal (d+1) m_Window_chairFor [.inr (.inr (w)), .inl (c), .inl (r)] (h) = some (.inl (chF S c r), h) := by
  have hw := wv.1
  unfold chF
  have g3 := g.2.2.1
  show EX (d) m_Window_chairFor 0 [(0, .inr (.inr (w))), (1, .inl (c)), (2, .inl (r))] [] (h) = _
  simp (disch := omega) only [Window_chairFor_0, Window_chairFor_10, Window_chairFor_17, Window_chairFor_27, Window_chairFor_34, wr_id, ix_id, okx, if_pos, if_neg, Int.toNat_of_nonneg, bak_v, bak_n, wr_b01, wr_bt, b01_or, b01_0, b01_1, lc_lt0, lc_gt0, lc_eq0, wl_wr, wr_wr, wl_id, true_and, and_true, true_or, or_true, not_true_eq_false, not_false_eq_true, nc0, nc1, nc2, nc3, nc4, nc5, nc6, nc7, nc8, nc9, nc10, nc11, nc12, nc13, nc14, nc15, nc16, nc17, nc18, nc19, nc20, nc21, nc22, nc23, nc35, nc47, nc59, nc60, nc61, nc73, nc74, nc214, nc215, nc1115, nc2230, nc3345, if_true, if_false, Int.reduceToNat, hw.k, hw.r0, hw.r1, hw.r2, hw.r3, hw.r4, hw.k1, hw.k2, hw.k3, hw.k4, hw.k5, hw.n1, hw.n2, hw.n3, hw.n4, hw.n5, wv.f5, wv.f6, wv.f7, wv.f8, wv.f9, wv.f10, wv.f11, wv.f12, wv.f13, wv.f14, wv.pk, wv.qk, wv.hk, wv.rk]
  split
  · rfl
  · split <;> rfl
def scA (S : Int → Int) (c r : Int) : Int := (if chF S c r = c then 0 else S 4 + (if c < chF S c r then chF S c r - c else c - chF S c r)) + S 5
theorem chF_rng {S : Int → Int} (g : GdW S) {c r : Int} (hc : 0 ≤ c) (hr : 0 ≤ r) : 0 ≤ chF S c r ∧ chF S c r ≤ max c r := by
  have g3 := g.2.2.1
  unfold chF
  split
  · omega
  · split <;> omega
theorem scA_rng {S : Int → Int} (g : GdW S) {c r : Int} (hc : 0 ≤ c ∧ c ≤ 12) (hr : 0 ≤ r ∧ r ≤ 12) : 1 ≤ scA S c r ∧ scA S c r ≤ 220 := by
  have g4 := g.2.2.2.1
  have g5 := g.2.2.2.2.1
  have e := chF_rng g hc.1 hr.1
  unfold scA
  split
  · omega
  · split <;> omega
theorem c_secondsAt {d w : Nat} {h : Hp} {S : Int → Int} (wv : WV h w S) (g : GdW S) {c r : Int} (hc : 0 ≤ c ∧ c ≤ 12) (hr : 0 ≤ r ∧ r ≤ 12) : cal (d+2) m_Window_secondsAt [.inr (.inr (w)), .inl (c), .inl (r)] (h) = some (.inl (scA S c r), h) := by
  have hw := wv.1
  have g4 := g.2.2.2.1
  have g5 := g.2.2.2.2.1
  have e := chF_rng g hc.1 hr.1
  show EX (d+1) m_Window_secondsAt 0 [(0, .inr (.inr (w))), (1, .inl (c)), (2, .inl (r))] [] (h) = _
  have e1 := c_chairFor (d := d) wv g (c := c) (r := r) (by omega) (by omega)
  simp (disch := omega) only [Window_secondsAt_0, Window_secondsAt_6, Window_secondsAt_11, Window_secondsAt_16, Window_secondsAt_23, Window_secondsAt_34, wr_id, ix_id, okx, if_pos, if_neg, Int.toNat_of_nonneg, bak_v, bak_n, wr_b01, wr_bt, b01_or, b01_0, b01_1, lc_lt0, lc_gt0, lc_eq0, wl_wr, wr_wr, wl_id, true_and, and_true, true_or, or_true, not_true_eq_false, not_false_eq_true, nc0, nc1, nc2, nc3, nc4, nc5, nc6, nc7, nc8, nc9, nc10, nc11, nc12, nc13, nc14, nc15, nc16, nc17, nc18, nc19, nc20, nc21, nc22, nc23, nc35, nc47, nc59, nc60, nc61, nc73, nc74, nc214, nc215, nc1115, nc2230, nc3345, if_true, if_false, Int.reduceToNat, hw.k, hw.r0, hw.r1, hw.r2, hw.r3, hw.r4, hw.k1, hw.k2, hw.k3, hw.k4, hw.k5, hw.n1, hw.n2, hw.n3, hw.n4, hw.n5, wv.f5, wv.f6, wv.f7, wv.f8, wv.f9, wv.f10, wv.f11, wv.f12, wv.f13, wv.f14, wv.pk, wv.qk, wv.hk, wv.rk, e1, abs_s]
  unfold scA
  by_cases q1 : chF S c r = c
  · simp [q1]
  · by_cases q2 : chF S c r < c
    · rw [if_pos (show chF S c r - c < 0 by omega), if_neg (show ¬ -(chF S c r - c) = 0 by omega), if_neg q1, if_neg (show ¬ c < chF S c r by omega), Int.neg_sub]
    · rw [if_neg (show ¬ chF S c r - c < 0 by omega), if_neg (show ¬ chF S c r - c = 0 by omega), if_neg q1, if_pos (show c < chF S c r by omega)]
