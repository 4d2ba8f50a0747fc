/-! the class: Hanging, sags and why -/
/-- max of f over [i, N), from m on -/
def mxN (f : Int → Int) : Nat → Int → Int → Int
  | 0, _, m => m
  | n + 1, i, m => mxN f n (i + 1) (if m < f i then f i else m)
def mx (f : Int → Int) (i N m : Int) : Int := mxN f (N - i).toNat i m
theorem mx_stop {f : Int → Int} {i N m : Int} (h : N ≤ i) : mx f i N m = m := by
  unfold mx
  rw [show (N - i).toNat = 0 by omega]
  rfl
theorem mx_step {f : Int → Int} {i N m : Int} (h : i < N) : mx f i N m = mx f (i + 1) N (if m < f i then f i else m) := by
  unfold mx
  rw [show (N - i).toNat = (N - (i + 1)).toNat + 1 by omega]
  rfl
theorem c_greatestSag_l {d a w : Nat} {h : Hp} {S : Int → Int} (wv : WV h w S) (hv : HV h a S) (g : Gd S) : ∀ i, 0 ≤ i → i ≤ 12 → ∀ m, 0 ≤ m ∧ m ≤ 1200 → EX (d+3) m_Hanging_greatestSag 4 [(0, .inr (.inr (a))), (1, .inr (.inr (w))), (2, .inl (m)), (3, .inl (i))] [] (h) = some (.inl (mx (sagJ S) i (S 1) m), h) := by
  have ha := hv.1
  have hw := wv.1
  have ga := g.a
  refine up_ind (hi := S 1) ?_ ?_
  · intro i hi h0 h1 m hm
    rw [Hanging_greatestSag_4]
    simp (disch := omega) only [Hanging_greatestSag_0, Hanging_greatestSag_12, Hanging_greatestSag_19, Hanging_greatestSag_22, Hanging_greatestSag_29, wr_id, ix_id, okx, if_pos, if_neg, Int.toNat_of_nonneg, bak_v, bak_n, wr_b01, wr_bt, b01_or, b01_0, b01_1, lc_lt0, lc_gt0, lc_eq0, wl_wr, wr_wr, wl_id, true_and, and_true, true_or, or_true, not_true_eq_false, not_false_eq_true, nc0, nc1, nc2, nc3, nc4, nc5, nc6, nc7, nc8, nc9, nc10, nc11, nc12, nc13, nc14, nc15, nc16, nc17, nc18, nc19, nc20, nc21, nc22, nc23, nc35, nc47, nc59, nc60, nc61, nc73, nc74, nc214, nc215, nc1115, nc2230, nc3345, if_true, if_false, Int.reduceToNat, hw.k, hw.r0, hw.r1, hw.r2, hw.r3, hw.r4, hw.k1, hw.k2, hw.k3, hw.k4, hw.k5, hw.n1, hw.n2, hw.n3, hw.n4, hw.n5, wv.f5, wv.f6, wv.f7, wv.f8, wv.f9, wv.f10, wv.f11, wv.f12, wv.f13, wv.f14, wv.pk, wv.qk, wv.hk, wv.rk, mx_stop]
  · intro i hi ih h0 h1 m hm
    have sg := sagJ_rng g h0 hi
    rw [Hanging_greatestSag_4]
    simp (disch := omega) only [Hanging_greatestSag_0, Hanging_greatestSag_12, Hanging_greatestSag_19, Hanging_greatestSag_22, Hanging_greatestSag_29, wr_id, ix_id, okx, if_pos, if_neg, Int.toNat_of_nonneg, bak_v, bak_n, wr_b01, wr_bt, b01_or, b01_0, b01_1, lc_lt0, lc_gt0, lc_eq0, wl_wr, wr_wr, wl_id, true_and, and_true, true_or, or_true, not_true_eq_false, not_false_eq_true, nc0, nc1, nc2, nc3, nc4, nc5, nc6, nc7, nc8, nc9, nc10, nc11, nc12, nc13, nc14, nc15, nc16, nc17, nc18, nc19, nc20, nc21, nc22, nc23, nc35, nc47, nc59, nc60, nc61, nc73, nc74, nc214, nc215, nc1115, nc2230, nc3345, if_true, if_false, Int.reduceToNat, ha.k, ha.r, ha.k1, ha.n1, hw.k, hw.r0, hw.r1, hw.r2, hw.r3, hw.r4, hw.k1, hw.k2, hw.k3, hw.k4, hw.k5, hw.n1, hw.n2, hw.n3, hw.n4, hw.n5, wv.f5, wv.f6, wv.f7, wv.f8, wv.f9, wv.f10, wv.f11, wv.f12, wv.f13, wv.f14, wv.pk, wv.qk, wv.hk, wv.rk, mx_step hi, c_sagOf wv hv g, max_s]
    by_cases c : m < sagJ S i
    · simp only [c, if_true]
      exact ih (by omega) (by omega) _ (by omega)
    · simp only [c, if_false]
      exact ih (by omega) (by omega) _ (by omega)
theorem c_greatestSag {d a w : Nat} {h : Hp} {S : Int → Int} (wv : WV h w S) (hv : HV h a S) (g : Gd S) : cal (d+4) m_Hanging_greatestSag [.inr (.inr (a)), .inr (.inr (w))] (h) = some (.inl (mx (sagJ S) 0 (S 1) 0), h) := by
  show EX (d+3) m_Hanging_greatestSag 0 [(0, .inr (.inr (a))), (1, .inr (.inr (w)))] [] (h) = _
  rw [Hanging_greatestSag_0, c_greatestSag_l wv hv g 0 (by omega) (by omega) 0 (by omega)]
/-- a sag or its square, 0 if there is none -/
def sgQ (S : Int → Int) (q : Int) (k : Int) : Int := if sagJ S k = -1 then 0 else if q = 0 then sagJ S k else sagJ S k * sagJ S k
theorem c_sagSum_l {d a w : Nat} {h : Hp} {S : Int → Int} (wv : WV h w S) (hv : HV h a S) (g : Gd S) {q : Int} (hq : q = 0 ∨ q = 1) : ∀ i, 0 ≤ i → i ≤ 12 → ∀ m, EX (d+3) m_Hanging_sagSum 5 [(0, .inr (.inr (a))), (1, .inr (.inr (w))), (2, .inl (q)), (3, .inl (m)), (4, .inl (i))] [] (h) = some (.inl (m + sm (sgQ S q) i (S 1)), h) := by
  have ha := hv.1
  have hw := wv.1
  have ga := g.a
  refine up_ind (hi := S 1) ?_ ?_
  · intro i hi h0 h1 m
    rw [Hanging_sagSum_5]
    simp (disch := omega) only [Hanging_sagSum_0, Hanging_sagSum_14, Hanging_sagSum_21, Hanging_sagSum_29, Hanging_sagSum_34, Hanging_sagSum_42, Hanging_sagSum_44, Hanging_sagSum_46, Hanging_sagSum_52, wr_id, ix_id, okx, if_pos, if_neg, Int.toNat_of_nonneg, bak_v, bak_n, wr_b01, wr_bt, b01_or, b01_0, b01_1, lc_lt0, lc_gt0, lc_eq0, wl_wr, wr_wr, wl_id, true_and, and_true, true_or, or_true, not_true_eq_false, not_false_eq_true, nc0, nc1, nc2, nc3, nc4, nc5, nc6, nc7, nc8, nc9, nc10, nc11, nc12, nc13, nc14, nc15, nc16, nc17, nc18, nc19, nc20, nc21, nc22, nc23, nc35, nc47, nc59, nc60, nc61, nc73, nc74, nc214, nc215, nc1115, nc2230, nc3345, if_true, if_false, Int.reduceToNat, hw.k, hw.r0, hw.r1, hw.r2, hw.r3, hw.r4, hw.k1, hw.k2, hw.k3, hw.k4, hw.k5, hw.n1, hw.n2, hw.n3, hw.n4, hw.n5, wv.f5, wv.f6, wv.f7, wv.f8, wv.f9, wv.f10, wv.f11, wv.f12, wv.f13, wv.f14, wv.pk, wv.qk, wv.hk, wv.rk, sm_stop, Int.add_zero]
  · intro i hi ih h0 h1 m
    have sg := sagJ_rng g h0 hi
    rw [Hanging_sagSum_5]
    simp (disch := omega) only [Hanging_sagSum_0, Hanging_sagSum_14, Hanging_sagSum_21, Hanging_sagSum_29, Hanging_sagSum_34, Hanging_sagSum_42, Hanging_sagSum_44, Hanging_sagSum_46, Hanging_sagSum_52, wr_id, ix_id, okx, if_pos, if_neg, Int.toNat_of_nonneg, bak_v, bak_n, wr_b01, wr_bt, b01_or, b01_0, b01_1, lc_lt0, lc_gt0, lc_eq0, wl_wr, wr_wr, wl_id, true_and, and_true, true_or, or_true, not_true_eq_false, not_false_eq_true, nc0, nc1, nc2, nc3, nc4, nc5, nc6, nc7, nc8, nc9, nc10, nc11, nc12, nc13, nc14, nc15, nc16, nc17, nc18, nc19, nc20, nc21, nc22, nc23, nc35, nc47, nc59, nc60, nc61, nc73, nc74, nc214, nc215, nc1115, nc2230, nc3345, if_true, if_false, Int.reduceToNat, ha.k, ha.r, ha.k1, ha.n1, hw.k, hw.r0, hw.r1, hw.r2, hw.r3, hw.r4, hw.k1, hw.k2, hw.k3, hw.k4, hw.k5, hw.n1, hw.n2, hw.n3, hw.n4, hw.n5, wv.f5, wv.f6, wv.f7, wv.f8, wv.f9, wv.f10, wv.f11, wv.f12, wv.f13, wv.f14, wv.pk, wv.qk, wv.hk, wv.rk, sm_step hi, c_sagOf wv hv g]
    unfold sgQ at *
    rcases hq with e | e <;> subst e <;> by_cases c : sagJ S i = -1 <;> simp [c, ih (by omega) (by omega), Int.add_assoc]
theorem c_sagSum {d a w : Nat} {h : Hp} {S : Int → Int} (wv : WV h w S) (hv : HV h a S) (g : Gd S) {q : Int} (hq : q = 0 ∨ q = 1) : cal (d+4) m_Hanging_sagSum [.inr (.inr (a)), .inr (.inr (w)), .inl (q)] (h) = some (.inl (sm (sgQ S q) 0 (S 1)), h) := by
  show EX (d+3) m_Hanging_sagSum 0 [(0, .inr (.inr (a))), (1, .inr (.inr (w))), (2, .inl (q))] [] (h) = _
  rw [Hanging_sagSum_0, c_sagSum_l wv hv g hq 0 (by omega) (by omega), Int.zero_add]
/-- does hook k's sag lie over gap z -/
def ovr (S : Int → Int) (z : Int) : Int → Bool := fun k => decide (¬ S (61 + k) = -1 ∧ ¬ ff (Jn S) (k + 1) (S 1) = -1 ∧ S (61 + k) ≤ z ∧ z < S (61 + ff (Jn S) (k + 1) (S 1)))
def seenM (S : Int → Int) (z : Int) : Int := if ff (ovr S z) 0 (S 1) = -1 then -2 else sagJ S (ff (ovr S z) 0 (S 1))
theorem c_seenAt_l {d a w : Nat} {h : Hp} {S : Int → Int} (wv : WV h w S) (hv : HV h a S) (g : Gd S) {z : Int} (hz : 0 ≤ z ∧ z ≤ 100) : ∀ i, 0 ≤ i → i ≤ 12 → EX (d+3) m_Hanging_seenAt 2 [(0, .inr (.inr (a))), (1, .inr (.inr (w))), (2, .inl (z)), (3, .inl (i))] [] (h) = some (.inl (if ff (ovr S z) i (S 1) = -1 then -2 else sagJ S (ff (ovr S z) i (S 1))), h) := by
  have ha := hv.1
  have hw := wv.1
  have ga := g.a
  have gb := g.b
  refine up_ind (hi := S 1) ?_ ?_
  · intro i hi h0 h1
    rw [Hanging_seenAt_2]
    simp (disch := omega) only [Hanging_seenAt_0, Hanging_seenAt_10, Hanging_seenAt_16, Hanging_seenAt_23, Hanging_seenAt_26, Hanging_seenAt_32, Hanging_seenAt_42, Hanging_seenAt_53, Hanging_seenAt_59, Hanging_seenAt_60, Hanging_seenAt_66, wr_id, ix_id, okx, if_pos, if_neg, Int.toNat_of_nonneg, bak_v, bak_n, wr_b01, wr_bt, b01_or, b01_0, b01_1, lc_lt0, lc_gt0, lc_eq0, wl_wr, wr_wr, wl_id, true_and, and_true, true_or, or_true, not_true_eq_false, not_false_eq_true, nc0, nc1, nc2, nc3, nc4, nc5, nc6, nc7, nc8, nc9, nc10, nc11, nc12, nc13, nc14, nc15, nc16, nc17, nc18, nc19, nc20, nc21, nc22, nc23, nc35, nc47, nc59, nc60, nc61, nc73, nc74, nc214, nc215, nc1115, nc2230, nc3345, if_true, if_false, Int.reduceToNat, hw.k, hw.r0, hw.r1, hw.r2, hw.r3, hw.r4, hw.k1, hw.k2, hw.k3, hw.k4, hw.k5, hw.n1, hw.n2, hw.n3, hw.n4, hw.n5, wv.f5, wv.f6, wv.f7, wv.f8, wv.f9, wv.f10, wv.f11, wv.f12, wv.f13, wv.f14, wv.pk, wv.qk, wv.hk, wv.rk, ff_stop]
  · intro i hi ih h0 h1
    have gr := g.rg h0 (by omega)
    have ih := ih (by omega) (by omega)
    have f2 := ff_spec (p := Jn S) (N := S 1) (i + 1)
    have i1 : ¬ i = -1 := by omega
    rw [Hanging_seenAt_2, ff_step hi]
    by_cases c1 : S (61 + i) = -1
    · simp (disch := omega) only [Hanging_seenAt_0, Hanging_seenAt_10, Hanging_seenAt_16, Hanging_seenAt_23, Hanging_seenAt_26, Hanging_seenAt_32, Hanging_seenAt_42, Hanging_seenAt_53, Hanging_seenAt_59, Hanging_seenAt_60, Hanging_seenAt_66, wr_id, ix_id, okx, if_pos, if_neg, Int.toNat_of_nonneg, bak_v, bak_n, wr_b01, wr_bt, b01_or, b01_0, b01_1, lc_lt0, lc_gt0, lc_eq0, wl_wr, wr_wr, wl_id, true_and, and_true, true_or, or_true, not_true_eq_false, not_false_eq_true, nc0, nc1, nc2, nc3, nc4, nc5, nc6, nc7, nc8, nc9, nc10, nc11, nc12, nc13, nc14, nc15, nc16, nc17, nc18, nc19, nc20, nc21, nc22, nc23, nc35, nc47, nc59, nc60, nc61, nc73, nc74, nc214, nc215, nc1115, nc2230, nc3345, if_true, if_false, Int.reduceToNat, ha.k, ha.r, ha.k1, ha.n1, hw.k, hw.r0, hw.r1, hw.r2, hw.r3, hw.r4, hw.k1, hw.k2, hw.k3, hw.k4, hw.k5, hw.n1, hw.n2, hw.n3, hw.n4, hw.n5, wv.f5, wv.f6, wv.f7, wv.f8, wv.f9, wv.f10, wv.f11, wv.f12, wv.f13, wv.f14, wv.pk, wv.qk, wv.hk, wv.rk, hv.f1, hv.f2, hv.rk, c_sagOf wv hv g, c_joinedBehind wv hv g, c_isJoined' hv g, ih]
      simp [ovr, c1]
    · by_cases c2 : ff (Jn S) (i + 1) (S 1) = -1
      · simp (disch := omega) only [Hanging_seenAt_0, Hanging_seenAt_10, Hanging_seenAt_16, Hanging_seenAt_23, Hanging_seenAt_26, Hanging_seenAt_32, Hanging_seenAt_42, Hanging_seenAt_53, Hanging_seenAt_59, Hanging_seenAt_60, Hanging_seenAt_66, wr_id, ix_id, okx, if_pos, if_neg, Int.toNat_of_nonneg, bak_v, bak_n, wr_b01, wr_bt, b01_or, b01_0, b01_1, lc_lt0, lc_gt0, lc_eq0, wl_wr, wr_wr, wl_id, true_and, and_true, true_or, or_true, not_true_eq_false, not_false_eq_true, nc0, nc1, nc2, nc3, nc4, nc5, nc6, nc7, nc8, nc9, nc10, nc11, nc12, nc13, nc14, nc15, nc16, nc17, nc18, nc19, nc20, nc21, nc22, nc23, nc35, nc47, nc59, nc60, nc61, nc73, nc74, nc214, nc215, nc1115, nc2230, nc3345, if_true, if_false, Int.reduceToNat, ha.k, ha.r, ha.k1, ha.n1, hw.k, hw.r0, hw.r1, hw.r2, hw.r3, hw.r4, hw.k1, hw.k2, hw.k3, hw.k4, hw.k5, hw.n1, hw.n2, hw.n3, hw.n4, hw.n5, wv.f5, wv.f6, wv.f7, wv.f8, wv.f9, wv.f10, wv.f11, wv.f12, wv.f13, wv.f14, wv.pk, wv.qk, wv.hk, wv.rk, hv.f1, hv.f2, hv.rk, c_sagOf wv hv g, c_joinedBehind wv hv g, c_isJoined' hv g, ih]
        simp [ovr, c2]
      · have f3 := nxt_facts g (by omega) hi c2
        simp (disch := omega) only [Hanging_seenAt_0, Hanging_seenAt_10, Hanging_seenAt_16, Hanging_seenAt_23, Hanging_seenAt_26, Hanging_seenAt_32, Hanging_seenAt_42, Hanging_seenAt_53, Hanging_seenAt_59, Hanging_seenAt_60, Hanging_seenAt_66, wr_id, ix_id, okx, if_pos, if_neg, Int.toNat_of_nonneg, bak_v, bak_n, wr_b01, wr_bt, b01_or, b01_0, b01_1, lc_lt0, lc_gt0, lc_eq0, wl_wr, wr_wr, wl_id, true_and, and_true, true_or, or_true, not_true_eq_false, not_false_eq_true, nc0, nc1, nc2, nc3, nc4, nc5, nc6, nc7, nc8, nc9, nc10, nc11, nc12, nc13, nc14, nc15, nc16, nc17, nc18, nc19, nc20, nc21, nc22, nc23, nc35, nc47, nc59, nc60, nc61, nc73, nc74, nc214, nc215, nc1115, nc2230, nc3345, if_true, if_false, Int.reduceToNat, ha.k, ha.r, ha.k1, ha.n1, hw.k, hw.r0, hw.r1, hw.r2, hw.r3, hw.r4, hw.k1, hw.k2, hw.k3, hw.k4, hw.k5, hw.n1, hw.n2, hw.n3, hw.n4, hw.n5, wv.f5, wv.f6, wv.f7, wv.f8, wv.f9, wv.f10, wv.f11, wv.f12, wv.f13, wv.f14, wv.pk, wv.qk, wv.hk, wv.rk, hv.f1, hv.f2, hv.rk, c_sagOf wv hv g, c_joinedBehind wv hv g, c_isJoined' hv g, ih]
        by_cases c3 : z < S (61 + i)
        · have c3' : ¬ S (61 + i) ≤ z := by omega
          simp [ovr, c1, c2, c3, c3']
        · have c3' : S (61 + i) ≤ z := by omega
          by_cases c4 : z < S (61 + ff (Jn S) (i + 1) (S 1))
          · simp [ovr, c1, c2, c3, c3', c4, i1]
          · simp [ovr, c1, c2, c3, c3', c4]
theorem c_seenAt {d a w : Nat} {h : Hp} {S : Int → Int} (wv : WV h w S) (hv : HV h a S) (g : Gd S) {z : Int} (hz : 0 ≤ z ∧ z ≤ 100) : cal (d+4) m_Hanging_seenAt [.inr (.inr (a)), .inr (.inr (w)), .inl (z)] (h) = some (.inl (seenM S z), h) := by
  show EX (d+3) m_Hanging_seenAt 0 [(0, .inr (.inr (a))), (1, .inr (.inr (w))), (2, .inl (z))] [] (h) = _
  rw [Hanging_seenAt_0, c_seenAt_l wv hv g hz 0 (by omega) (by omega)]
  rfl
/-- with the joins in order the nearest on either side tell of all -/
theorem bad3_eq {S : Int → Int} (g : Gd S) {x y : Int} (hx : 0 ≤ x ∧ x < S 1) (hx1 : S (61 + x) = -1) : ¬ ff (bad3 S x y) 0 (S 1) = -1 ↔ ((¬ fl (Jn S) x = -1 ∧ y < S (61 + fl (Jn S) x)) ∨ (¬ ff (Jn S) x (S 1) = -1 ∧ S (61 + ff (Jn S) x (S 1)) < y)) := by
  have ga := g.a
  have f0 := ff_spec (p := bad3 S x y) (N := S 1) 0
  have f1 := fl_spec (p := Jn S) x hx.1
  have f2 := ff_spec (p := Jn S) (N := S 1) x
  constructor
  · intro c
    rcases f0 with q | ⟨q1, q2, q3, q4⟩
    · exact absurd q.1 c
    · generalize ff (bad3 S x y) 0 (S 1) = k at *
      simp only [bad3, decide_eq_true_eq] at q3
      obtain ⟨j, q3 | q3⟩ := q3
      · left
        rcases f1 with ⟨r1, r2⟩ | ⟨r1, r2, r3, r4⟩
        · have := r2 k (by omega) q3.1
          simp [Jn, j] at this
        · refine ⟨by omega, ?_⟩
          by_cases e : fl (Jn S) x = k
          · rw [e]; exact q3.2
          · have lt : k < fl (Jn S) x := by
              refine Int.not_le.mp fun hle => ?_
              have := r4 k (by omega) q3.1
              simp [Jn, j] at this
            have jf : ¬ S (61 + fl (Jn S) x) = -1 := by simpa [Jn] using r3
            have := g.2.2.2 k (fl (Jn S) x) (by omega) lt (by omega) j jf
            omega
      · right
        rcases f2 with ⟨r1, r2⟩ | ⟨r1, r2, r3, r4⟩
        · have := r2 k q3.1 q2
          simp [Jn, j] at this
        · refine ⟨by omega, ?_⟩
          by_cases e : ff (Jn S) x (S 1) = k
          · rw [e]; exact q3.2
          · have lt : ff (Jn S) x (S 1) < k := by
              refine Int.not_le.mp fun hle => ?_
              have := r4 k q3.1 (by omega)
              simp [Jn, j] at this
            have jf : ¬ S (61 + ff (Jn S) x (S 1)) = -1 := by simpa [Jn] using r3
            have := g.2.2.2 (ff (Jn S) x (S 1)) k (by omega) lt (by omega) jf j
            omega
  · intro c hc
    rcases f0 with ⟨-, q⟩ | q
    · rcases c with ⟨c1, c2⟩ | ⟨c1, c2⟩
      · rcases f1 with r | ⟨r1, r2, r3, r4⟩
        · exact c1 r.1
        · have := q (fl (Jn S) x) r1 (by omega)
          simp only [bad3, decide_eq_false_iff_not] at this
          exact this ⟨by simpa [Jn] using r3, Or.inl ⟨r2, c2⟩⟩
      · rcases f2 with r | ⟨r1, r2, r3, r4⟩
        · exact c1 r.1
        · have := q (ff (Jn S) x (S 1)) (by omega) (by omega)
          simp only [bad3, decide_eq_false_iff_not] at this
          exact this ⟨by simpa [Jn] using r3, Or.inr ⟨r1, c2⟩⟩
    · omega
