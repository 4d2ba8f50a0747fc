/-! the class: why a hook can't be joined, unhooked; remainders -/
theorem c_whyNotJoin {d a w : Nat} {h : Hp} {S : Int → Int} (wv : WV h w S) (hv : HV h a S) (g : Gd S) {x y : Int} (rx : -2147483648 ≤ x ∧ x ≤ 2147483647) (ry : -2147483648 ≤ y ∧ y ≤ 2147483647) : cal (d+3) m_Hanging_whyNotJoin [.inr (.inr (a)), .inr (.inr (w)), .inl (x), .inl (y)] (h) = some (.inl (whyM S x y), h) := by
  have ha := hv.1
  have hw := wv.1
  have ga := g.a
  have gb := g.b
  show EX (d+2) m_Hanging_whyNotJoin 0 [(0, .inr (.inr (a))), (1, .inr (.inr (w))), (2, .inl (x)), (3, .inl (y))] [] (h) = _
  unfold whyM
  by_cases hx : 0 ≤ x ∧ x < S 1
  · by_cases hy : 0 ≤ y ∧ y < S 2
    · have gr := g.rg hx.1 (by omega)
      rw [if_neg (by omega)]
      simp (disch := omega) only [Hanging_whyNotJoin_0, Hanging_whyNotJoin_5, Hanging_whyNotJoin_8, Hanging_whyNotJoin_13, Hanging_whyNotJoin_16, Hanging_whyNotJoin_18, Hanging_whyNotJoin_23, Hanging_whyNotJoin_26, Hanging_whyNotJoin_31, Hanging_whyNotJoin_34, Hanging_whyNotJoin_40, Hanging_whyNotJoin_44, wr_id, ix_id, okx, if_pos, if_neg, Int.toNat_of_nonneg, bak_v, bak_n, wr_b01, wr_bt, b01_or, b01_0, b01_1, lc_lt0, lc_gt0, lc_eq0, wl_wr, wr_wr, wl_id, true_and, and_true, true_or, or_true, not_true_eq_false, not_false_eq_true, nc0, nc1, nc2, nc3, nc4, nc5, nc6, nc7, nc8, nc9, nc10, nc11, nc12, nc13, nc14, nc15, nc16, nc17, nc18, nc19, nc20, nc21, nc22, nc23, nc35, nc47, nc59, nc60, nc61, nc73, nc74, nc214, nc215, nc1115, nc2230, nc3345, if_true, if_false, Int.reduceToNat, ha.k, ha.r, ha.k1, ha.n1, hw.k, hw.r0, hw.r1, hw.r2, hw.r3, hw.r4, hw.k1, hw.k2, hw.k3, hw.k4, hw.k5, hw.n1, hw.n2, hw.n3, hw.n4, hw.n5, hv.f1, hv.f2, hv.rk, wv.f5, wv.f6, wv.f7, wv.f8, wv.f9, wv.f10, wv.f11, wv.f12, wv.f13, wv.f14, wv.pk, wv.qk, wv.hk, wv.rk, c_isHook wv ga, c_isRing wv gb, c_isJoined' hv g, c_isBroken wv, c_hookOn wv hv g]
      by_cases c1 : S (61 + x) = -1
      · have f0 := ff_spec (p := fun k => decide (S (61 + k) = y)) (N := S 1) 0
        have f0' : hookM S y = -1 ∨ (0 ≤ hookM S y ∧ hookM S y < S 1) := by unfold hookM; omega
        rcases bt_01 (S 10) y with e | e
        · by_cases c4 : hookM S y = -1
          · have r2 : ¬ (¬ S (61 + x) = -1 ∨ ¬ hookM S y = -1 ∨ bt (S 10) y = 1) := by omega
            have f1 := fl_spec (p := Jn S) x hx.1
            have f2 := ff_spec (p := Jn S) (N := S 1) x
            have ex : ff (Jn S) (x + 1) (S 1) = ff (Jn S) x (S 1) := by
              rw [ff_step hx.2]; simp [Jn, c1]
            have b3 := bad3_eq (y := y) g hx c1
            rw [if_neg r2]
            simp (disch := omega) only [c1, e, c4, wr_id, ix_id, okx, if_pos, if_neg, Int.toNat_of_nonneg, bak_v, bak_n, wr_b01, wr_bt, b01_or, b01_0, b01_1, lc_lt0, lc_gt0, lc_eq0, wl_wr, wr_wr, wl_id, true_and, and_true, true_or, or_true, not_true_eq_false, not_false_eq_true, nc0, nc1, nc2, nc3, nc4, nc5, nc6, nc7, nc8, nc9, nc10, nc11, nc12, nc13, nc14, nc15, nc16, nc17, nc18, nc19, nc20, nc21, nc22, nc23, nc35, nc47, nc59, nc60, nc61, nc73, nc74, nc214, nc215, nc1115, nc2230, nc3345, if_true, if_false, Int.reduceToNat, Hanging_whyNotJoin_46, Hanging_whyNotJoin_51, ha.k, ha.r, ha.k1, ha.n1, c_joinedAhead hv g, c_joinedBehind wv hv g, ex]
            by_cases d1 : fl (Jn S) x = -1
            · by_cases d2 : ff (Jn S) x (S 1) = -1
              · have b4 : ff (bad3 S x y) 0 (S 1) = -1 := by
                  refine Decidable.not_not.mp fun q => ?_
                  have := b3.mp q
                  omega
                simp (disch := omega) only [Hanging_whyNotJoin_59, Hanging_whyNotJoin_78, Hanging_whyNotJoin_97, Hanging_whyNotJoin_123, Hanging_whyNotJoin_151, Hanging_whyNotJoin_152, wr_id, ix_id, okx, if_pos, if_neg, Int.toNat_of_nonneg, bak_v, bak_n, wr_b01, wr_bt, b01_or, b01_0, b01_1, lc_lt0, lc_gt0, lc_eq0, wl_wr, wr_wr, wl_id, true_and, and_true, true_or, or_true, not_true_eq_false, not_false_eq_true, nc0, nc1, nc2, nc3, nc4, nc5, nc6, nc7, nc8, nc9, nc10, nc11, nc12, nc13, nc14, nc15, nc16, nc17, nc18, nc19, nc20, nc21, nc22, nc23, nc35, nc47, nc59, nc60, nc61, nc73, nc74, nc214, nc215, nc1115, nc2230, nc3345, if_true, if_false, Int.reduceToNat, d1, d2, b4]
                simp [wr]
              · have gq := g.rg (i := ff (Jn S) x (S 1)) (by omega) (by omega)
                have jq : ¬ S (61 + ff (Jn S) x (S 1)) = -1 := by
                  rcases f2 with q | q
                  · omega
                  · simpa [Jn] using q.2.2.1
                by_cases c5 : S (61 + ff (Jn S) x (S 1)) < y
                · have b4 := b3.mpr (Or.inr ⟨d2, c5⟩)
                  rw [if_pos b4]
                  simp (disch := omega) only [Hanging_whyNotJoin_59, Hanging_whyNotJoin_78, Hanging_whyNotJoin_84, Hanging_whyNotJoin_95, wr_id, ix_id, okx, if_pos, if_neg, Int.toNat_of_nonneg, bak_v, bak_n, wr_b01, wr_bt, b01_or, b01_0, b01_1, lc_lt0, lc_gt0, lc_eq0, wl_wr, wr_wr, wl_id, true_and, and_true, true_or, or_true, not_true_eq_false, not_false_eq_true, nc0, nc1, nc2, nc3, nc4, nc5, nc6, nc7, nc8, nc9, nc10, nc11, nc12, nc13, nc14, nc15, nc16, nc17, nc18, nc19, nc20, nc21, nc22, nc23, nc35, nc47, nc59, nc60, nc61, nc73, nc74, nc214, nc215, nc1115, nc2230, nc3345, if_true, if_false, Int.reduceToNat, ha.k, ha.r, ha.k1, ha.n1, hv.f1, hv.f2, hv.rk, d1]
                · have b4 : ff (bad3 S x y) 0 (S 1) = -1 := by
                    refine Decidable.not_not.mp fun q => ?_
                    have := b3.mp q
                    omega
                  have sg := g.1.sag (x := x) (r := y) (y := ff (Jn S) x (S 1)) (s := S (61 + ff (Jn S) x (S 1))) (by omega) (by omega) (by omega) (by omega)
                  rw [if_neg (show ¬ ¬ ff (bad3 S x y) 0 (S 1) = -1 from fun q => q b4)]
                  simp (disch := omega) only [Hanging_whyNotJoin_59, Hanging_whyNotJoin_78, Hanging_whyNotJoin_84, Hanging_whyNotJoin_97, Hanging_whyNotJoin_123, Hanging_whyNotJoin_129, Hanging_whyNotJoin_144, Hanging_whyNotJoin_147, Hanging_whyNotJoin_151, Hanging_whyNotJoin_152, wr_id, ix_id, okx, if_pos, if_neg, Int.toNat_of_nonneg, bak_v, bak_n, wr_b01, wr_bt, b01_or, b01_0, b01_1, lc_lt0, lc_gt0, lc_eq0, wl_wr, wr_wr, wl_id, true_and, and_true, true_or, or_true, not_true_eq_false, not_false_eq_true, nc0, nc1, nc2, nc3, nc4, nc5, nc6, nc7, nc8, nc9, nc10, nc11, nc12, nc13, nc14, nc15, nc16, nc17, nc18, nc19, nc20, nc21, nc22, nc23, nc35, nc47, nc59, nc60, nc61, nc73, nc74, nc214, nc215, nc1115, nc2230, nc3345, if_true, if_false, Int.reduceToNat, ha.k, ha.r, ha.k1, ha.n1, hw.k, hw.r0, hw.r1, hw.r2, hw.r3, hw.r4, hw.k1, hw.k2, hw.k3, hw.k4, hw.k5, hw.n1, hw.n2, hw.n3, hw.n4, hw.n5, hv.f1, hv.f2, hv.rk, d1, c_sag wv ga.2 gb.2]
                  by_cases c6 : sagM S x y (ff (Jn S) x (S 1)) (S (61 + ff (Jn S) x (S 1))) < 0 <;> simp [c6, d2]
            · have gp := g.rg (i := fl (Jn S) x) (by omega) (by omega)
              have jp : ¬ S (61 + fl (Jn S) x) = -1 := by
                rcases f1 with q | q
                · omega
                · simpa [Jn] using q.2.2.1
              by_cases c7 : y < S (61 + fl (Jn S) x)
              · have b4 := b3.mpr (Or.inl ⟨d1, c7⟩)
                rw [if_pos b4]
                simp (disch := omega) only [Hanging_whyNotJoin_59, Hanging_whyNotJoin_67, Hanging_whyNotJoin_95, wr_id, ix_id, okx, if_pos, if_neg, Int.toNat_of_nonneg, bak_v, bak_n, wr_b01, wr_bt, b01_or, b01_0, b01_1, lc_lt0, lc_gt0, lc_eq0, wl_wr, wr_wr, wl_id, true_and, and_true, true_or, or_true, not_true_eq_false, not_false_eq_true, nc0, nc1, nc2, nc3, nc4, nc5, nc6, nc7, nc8, nc9, nc10, nc11, nc12, nc13, nc14, nc15, nc16, nc17, nc18, nc19, nc20, nc21, nc22, nc23, nc35, nc47, nc59, nc60, nc61, nc73, nc74, nc214, nc215, nc1115, nc2230, nc3345, if_true, if_false, Int.reduceToNat, ha.k, ha.r, ha.k1, ha.n1, hv.f1, hv.f2, hv.rk]
              · have sp := g.1.sag (x := fl (Jn S) x) (r := S (61 + fl (Jn S) x)) (y := x) (s := y) (by omega) (by omega) (by omega) (by omega)
                by_cases d2 : ff (Jn S) x (S 1) = -1
                · have b4 : ff (bad3 S x y) 0 (S 1) = -1 := by
                    refine Decidable.not_not.mp fun q => ?_
                    have := b3.mp q
                    omega
                  rw [if_neg (show ¬ ¬ ff (bad3 S x y) 0 (S 1) = -1 from fun q => q b4)]
                  simp (disch := omega) only [Hanging_whyNotJoin_59, Hanging_whyNotJoin_67, Hanging_whyNotJoin_78, Hanging_whyNotJoin_97, Hanging_whyNotJoin_103, Hanging_whyNotJoin_118, Hanging_whyNotJoin_121, Hanging_whyNotJoin_123, Hanging_whyNotJoin_151, Hanging_whyNotJoin_152, wr_id, ix_id, okx, if_pos, if_neg, Int.toNat_of_nonneg, bak_v, bak_n, wr_b01, wr_bt, b01_or, b01_0, b01_1, lc_lt0, lc_gt0, lc_eq0, wl_wr, wr_wr, wl_id, true_and, and_true, true_or, or_true, not_true_eq_false, not_false_eq_true, nc0, nc1, nc2, nc3, nc4, nc5, nc6, nc7, nc8, nc9, nc10, nc11, nc12, nc13, nc14, nc15, nc16, nc17, nc18, nc19, nc20, nc21, nc22, nc23, nc35, nc47, nc59, nc60, nc61, nc73, nc74, nc214, nc215, nc1115, nc2230, nc3345, if_true, if_false, Int.reduceToNat, ha.k, ha.r, ha.k1, ha.n1, hw.k, hw.r0, hw.r1, hw.r2, hw.r3, hw.r4, hw.k1, hw.k2, hw.k3, hw.k4, hw.k5, hw.n1, hw.n2, hw.n3, hw.n4, hw.n5, hv.f1, hv.f2, hv.rk, d2, c_sag wv ga.2 gb.2]
                  by_cases c6 : sagM S (fl (Jn S) x) (S (61 + fl (Jn S) x)) x y < 0 <;> simp [c6, d1]
                · have gq := g.rg (i := ff (Jn S) x (S 1)) (by omega) (by omega)
                  have jq : ¬ S (61 + ff (Jn S) x (S 1)) = -1 := by
                    rcases f2 with q | q
                    · omega
                    · simpa [Jn] using q.2.2.1
                  by_cases c5 : S (61 + ff (Jn S) x (S 1)) < y
                  · have b4 := b3.mpr (Or.inr ⟨d2, c5⟩)
                    rw [if_pos b4]
                    simp (disch := omega) only [Hanging_whyNotJoin_59, Hanging_whyNotJoin_67, Hanging_whyNotJoin_78, Hanging_whyNotJoin_84, Hanging_whyNotJoin_95, wr_id, ix_id, okx, if_pos, if_neg, Int.toNat_of_nonneg, bak_v, bak_n, wr_b01, wr_bt, b01_or, b01_0, b01_1, lc_lt0, lc_gt0, lc_eq0, wl_wr, wr_wr, wl_id, true_and, and_true, true_or, or_true, not_true_eq_false, not_false_eq_true, nc0, nc1, nc2, nc3, nc4, nc5, nc6, nc7, nc8, nc9, nc10, nc11, nc12, nc13, nc14, nc15, nc16, nc17, nc18, nc19, nc20, nc21, nc22, nc23, nc35, nc47, nc59, nc60, nc61, nc73, nc74, nc214, nc215, nc1115, nc2230, nc3345, if_true, if_false, Int.reduceToNat, ha.k, ha.r, ha.k1, ha.n1, hv.f1, hv.f2, hv.rk]
                  · have b4 : ff (bad3 S x y) 0 (S 1) = -1 := by
                      refine Decidable.not_not.mp fun q => ?_
                      have := b3.mp q
                      omega
                    have sg := g.1.sag (x := x) (r := y) (y := ff (Jn S) x (S 1)) (s := S (61 + ff (Jn S) x (S 1))) (by omega) (by omega) (by omega) (by omega)
                    rw [if_neg (show ¬ ¬ ff (bad3 S x y) 0 (S 1) = -1 from fun q => q b4)]
                    simp (disch := omega) only [Hanging_whyNotJoin_59, Hanging_whyNotJoin_67, Hanging_whyNotJoin_78, Hanging_whyNotJoin_84, Hanging_whyNotJoin_97, Hanging_whyNotJoin_103, Hanging_whyNotJoin_118, Hanging_whyNotJoin_121, Hanging_whyNotJoin_123, Hanging_whyNotJoin_129, Hanging_whyNotJoin_144, Hanging_whyNotJoin_147, Hanging_whyNotJoin_151, Hanging_whyNotJoin_152, wr_id, ix_id, okx, if_pos, if_neg, Int.toNat_of_nonneg, bak_v, bak_n, wr_b01, wr_bt, b01_or, b01_0, b01_1, lc_lt0, lc_gt0, lc_eq0, wl_wr, wr_wr, wl_id, true_and, and_true, true_or, or_true, not_true_eq_false, not_false_eq_true, nc0, nc1, nc2, nc3, nc4, nc5, nc6, nc7, nc8, nc9, nc10, nc11, nc12, nc13, nc14, nc15, nc16, nc17, nc18, nc19, nc20, nc21, nc22, nc23, nc35, nc47, nc59, nc60, nc61, nc73, nc74, nc214, nc215, nc1115, nc2230, nc3345, if_true, if_false, Int.reduceToNat, ha.k, ha.r, ha.k1, ha.n1, hw.k, hw.r0, hw.r1, hw.r2, hw.r3, hw.r4, hw.k1, hw.k2, hw.k3, hw.k4, hw.k5, hw.n1, hw.n2, hw.n3, hw.n4, hw.n5, hv.f1, hv.f2, hv.rk, c_sag wv ga.2 gb.2]
                    by_cases c6 : sagM S (fl (Jn S) x) (S (61 + fl (Jn S) x)) x y < 0
                    · simp [c6, d1]
                    · by_cases c8 : sagM S x y (ff (Jn S) x (S 1)) (S (61 + ff (Jn S) x (S 1))) < 0 <;> simp [c6, c8, d1, d2]
          · simp (disch := omega) only [c1, e, wr_id, ix_id, okx, if_pos, if_neg, Int.toNat_of_nonneg, bak_v, bak_n, wr_b01, wr_bt, b01_or, b01_0, b01_1, lc_lt0, lc_gt0, lc_eq0, wl_wr, wr_wr, wl_id, true_and, and_true, true_or, or_true, not_true_eq_false, not_false_eq_true, nc0, nc1, nc2, nc3, nc4, nc5, nc6, nc7, nc8, nc9, nc10, nc11, nc12, nc13, nc14, nc15, nc16, nc17, nc18, nc19, nc20, nc21, nc22, nc23, nc35, nc47, nc59, nc60, nc61, nc73, nc74, nc214, nc215, nc1115, nc2230, nc3345, if_true, if_false, Int.reduceToNat]
        · simp (disch := omega) only [c1, e, wr_id, ix_id, okx, if_pos, if_neg, Int.toNat_of_nonneg, bak_v, bak_n, wr_b01, wr_bt, b01_or, b01_0, b01_1, lc_lt0, lc_gt0, lc_eq0, wl_wr, wr_wr, wl_id, true_and, and_true, true_or, or_true, not_true_eq_false, not_false_eq_true, nc0, nc1, nc2, nc3, nc4, nc5, nc6, nc7, nc8, nc9, nc10, nc11, nc12, nc13, nc14, nc15, nc16, nc17, nc18, nc19, nc20, nc21, nc22, nc23, nc35, nc47, nc59, nc60, nc61, nc73, nc74, nc214, nc215, nc1115, nc2230, nc3345, if_true, if_false, Int.reduceToNat]
      · simp (disch := omega) only [wr_id, ix_id, okx, if_pos, if_neg, Int.toNat_of_nonneg, bak_v, bak_n, wr_b01, wr_bt, b01_or, b01_0, b01_1, lc_lt0, lc_gt0, lc_eq0, wl_wr, wr_wr, wl_id, true_and, and_true, true_or, or_true, not_true_eq_false, not_false_eq_true, nc0, nc1, nc2, nc3, nc4, nc5, nc6, nc7, nc8, nc9, nc10, nc11, nc12, nc13, nc14, nc15, nc16, nc17, nc18, nc19, nc20, nc21, nc22, nc23, nc35, nc47, nc59, nc60, nc61, nc73, nc74, nc214, nc215, nc1115, nc2230, nc3345, if_true, if_false, Int.reduceToNat]
    · simp (disch := omega) only [Hanging_whyNotJoin_0, Hanging_whyNotJoin_5, Hanging_whyNotJoin_8, Hanging_whyNotJoin_13, Hanging_whyNotJoin_16, wr_id, ix_id, okx, if_pos, if_neg, Int.toNat_of_nonneg, bak_v, bak_n, wr_b01, wr_bt, b01_or, b01_0, b01_1, lc_lt0, lc_gt0, lc_eq0, wl_wr, wr_wr, wl_id, true_and, and_true, true_or, or_true, not_true_eq_false, not_false_eq_true, nc0, nc1, nc2, nc3, nc4, nc5, nc6, nc7, nc8, nc9, nc10, nc11, nc12, nc13, nc14, nc15, nc16, nc17, nc18, nc19, nc20, nc21, nc22, nc23, nc35, nc47, nc59, nc60, nc61, nc73, nc74, nc214, nc215, nc1115, nc2230, nc3345, if_true, if_false, Int.reduceToNat, ha.k, ha.r, ha.k1, ha.n1, hw.k, hw.r0, hw.r1, hw.r2, hw.r3, hw.r4, hw.k1, hw.k2, hw.k3, hw.k4, hw.k5, hw.n1, hw.n2, hw.n3, hw.n4, hw.n5, c_isHook wv ga, c_isRing wv gb]
  · simp (disch := omega) only [Hanging_whyNotJoin_0, Hanging_whyNotJoin_5, Hanging_whyNotJoin_8, Hanging_whyNotJoin_13, Hanging_whyNotJoin_16, wr_id, ix_id, okx, if_pos, if_neg, Int.toNat_of_nonneg, bak_v, bak_n, wr_b01, wr_bt, b01_or, b01_0, b01_1, lc_lt0, lc_gt0, lc_eq0, wl_wr, wr_wr, wl_id, true_and, and_true, true_or, or_true, not_true_eq_false, not_false_eq_true, nc0, nc1, nc2, nc3, nc4, nc5, nc6, nc7, nc8, nc9, nc10, nc11, nc12, nc13, nc14, nc15, nc16, nc17, nc18, nc19, nc20, nc21, nc22, nc23, nc35, nc47, nc59, nc60, nc61, nc73, nc74, nc214, nc215, nc1115, nc2230, nc3345, if_true, if_false, Int.reduceToNat, ha.k, ha.r, ha.k1, ha.n1, hw.k, hw.r0, hw.r1, hw.r2, hw.r3, hw.r4, hw.k1, hw.k2, hw.k3, hw.k4, hw.k5, hw.n1, hw.n2, hw.n3, hw.n4, hw.n5, c_isHook wv ga, c_isRing wv gb]
/-- why hook x can't be unhooked -/
def offM (S : Int → Int) (x : Int) : Int := if ¬ (0 ≤ x ∧ x < S 1) then 1 else if S (61 + x) = -1 then 2 else 0
theorem c_whyNotUnhook {d a w : Nat} {h : Hp} {S : Int → Int} (wv : WV h w S) (hv : HV h a S) (g : Gd S) {x : Int} (rx : -2147483648 ≤ x ∧ x ≤ 2147483647) : cal (d+2) m_Hanging_whyNotUnhook [.inr (.inr (a)), .inr (.inr (w)), .inl (x)] (h) = some (.inl (offM S x), h) := by
  have ha := hv.1
  have hw := wv.1
  have ga := g.a
  show EX (d+1) m_Hanging_whyNotUnhook 0 [(0, .inr (.inr (a))), (1, .inr (.inr (w))), (2, .inl (x))] [] (h) = _
  unfold offM
  by_cases hx : 0 ≤ x ∧ x < S 1
  · simp (disch := omega) only [Hanging_whyNotUnhook_0, Hanging_whyNotUnhook_5, Hanging_whyNotUnhook_8, Hanging_whyNotUnhook_10, Hanging_whyNotUnhook_15, Hanging_whyNotUnhook_18, Hanging_whyNotUnhook_22, Hanging_whyNotUnhook_23, wr_id, ix_id, okx, if_pos, if_neg, Int.toNat_of_nonneg, bak_v, bak_n, wr_b01, wr_bt, b01_or, b01_0, b01_1, lc_lt0, lc_gt0, lc_eq0, wl_wr, wr_wr, wl_id, true_and, and_true, true_or, or_true, not_true_eq_false, not_false_eq_true, nc0, nc1, nc2, nc3, nc4, nc5, nc6, nc7, nc8, nc9, nc10, nc11, nc12, nc13, nc14, nc15, nc16, nc17, nc18, nc19, nc20, nc21, nc22, nc23, nc35, nc47, nc59, nc60, nc61, nc73, nc74, nc214, nc215, nc1115, nc2230, nc3345, if_true, if_false, Int.reduceToNat, ha.k, ha.r, ha.k1, ha.n1, hw.k, hw.r0, hw.r1, hw.r2, hw.r3, hw.r4, hw.k1, hw.k2, hw.k3, hw.k4, hw.k5, hw.n1, hw.n2, hw.n3, hw.n4, hw.n5, c_isHook wv ga, c_isJoined' hv g]
    by_cases c : S (61 + x) = -1 <;> simp [c]
  · simp (disch := omega) only [Hanging_whyNotUnhook_0, Hanging_whyNotUnhook_5, Hanging_whyNotUnhook_8, Hanging_whyNotUnhook_10, Hanging_whyNotUnhook_15, Hanging_whyNotUnhook_18, Hanging_whyNotUnhook_22, Hanging_whyNotUnhook_23, wr_id, ix_id, okx, if_pos, if_neg, Int.toNat_of_nonneg, bak_v, bak_n, wr_b01, wr_bt, b01_or, b01_0, b01_1, lc_lt0, lc_gt0, lc_eq0, wl_wr, wr_wr, wl_id, true_and, and_true, true_or, or_true, not_true_eq_false, not_false_eq_true, nc0, nc1, nc2, nc3, nc4, nc5, nc6, nc7, nc8, nc9, nc10, nc11, nc12, nc13, nc14, nc15, nc16, nc17, nc18, nc19, nc20, nc21, nc22, nc23, nc35, nc47, nc59, nc60, nc61, nc73, nc74, nc214, nc215, nc1115, nc2230, nc3345, if_true, if_false, Int.reduceToNat, ha.k, ha.r, ha.k1, ha.n1, hw.k, hw.r0, hw.r1, hw.r2, hw.r3, hw.r4, hw.k1, hw.k2, hw.k3, hw.k4, hw.k5, hw.n1, hw.n2, hw.n3, hw.n4, hw.n5, c_isHook wv ga]
theorem fm_k : ∀ i : Nat, i < 40 → ∀ j : Nat, j < 11 → (if wr (bXor ((i : Int) - 20) ((j : Int) + 1)) < 0 then (if wr (bRem ((i : Int) - 20) ((j : Int) + 1)) = 0 then bRem ((i : Int) - 20) ((j : Int) + 1) else bRem ((i : Int) - 20) ((j : Int) + 1) + ((j : Int) + 1)) else bRem ((i : Int) - 20) ((j : Int) + 1)) = ((i : Int) - 20) % ((j : Int) + 1) := by decide +kernel
theorem c_floorMod {d : Nat} {h : Hp} {x y : Int} (hx : -20 ≤ x ∧ x < 20) (hy : 1 ≤ y ∧ y ≤ 11) : cal (d+1) m_Math_floorMod [.inl (x), .inl (y)] (h) = some (.inl (x % y), h) := by
  show EX (d) m_Math_floorMod 0 [(0, .inl (x)), (1, .inl (y))] [] (h) = _
  have e := fm_k (x + 20).toNat (by omega) (y - 1).toNat (by omega)
  have ex : (((x + 20).toNat : Nat) : Int) - 20 = x := by omega
  have ey : (((y - 1).toNat : Nat) : Int) + 1 = y := by omega
  rw [ex, ey] at e
  rw [← e, Math_floorMod_0, wr_id (z := y) (by omega) (by omega), if_neg (by omega)]
  simp only [Math_floorMod_10, Math_floorMod_14, Math_floorMod_18]
  repeat' split
  all_goals first | rfl | omega
/-- hook k is joined with remainder m of the pleat -/
def remJ (S : Int → Int) (m k : Int) : Int := b01 (¬ S (61 + k) = -1 ∧ (S (61 + k) - k) % S 6 = m)
theorem c_joinedWithRemainder_l {d a w : Nat} {h : Hp} {S : Int → Int} (wv : WV h w S) (hv : HV h a S) (g : Gd S) (hp : ¬ S 6 = 0) {m : Int} (hm : 0 ≤ m ∧ m < 12) : ∀ i, 0 ≤ i → i ≤ 12 → ∀ f, EX (d+1) m_Hanging_joinedWithRemainder 5 [(0, .inr (.inr (a))), (1, .inr (.inr (w))), (2, .inl (m)), (3, .inl (f)), (4, .inl (i))] [] (h) = some (.inl (f + sm (remJ S m) i (S 1)), h) := by
  have ha := hv.1
  have hw := wv.1
  have ga := g.a
  have gb := g.b
  have g6 := g.1.2.2.2.2.2.1
  refine up_ind (hi := S 1) ?_ ?_
  · intro i hi h0 h1 f
    rw [Hanging_joinedWithRemainder_5]
    simp (disch := omega) only [Hanging_joinedWithRemainder_0, Hanging_joinedWithRemainder_14, Hanging_joinedWithRemainder_20, Hanging_joinedWithRemainder_23, Hanging_joinedWithRemainder_30, Hanging_joinedWithRemainder_47, Hanging_joinedWithRemainder_51, Hanging_joinedWithRemainder_54, Hanging_joinedWithRemainder_60, wr_id, ix_id, okx, if_pos, if_neg, Int.toNat_of_nonneg, bak_v, bak_n, wr_b01, wr_bt, b01_or, b01_0, b01_1, lc_lt0, lc_gt0, lc_eq0, wl_wr, wr_wr, wl_id, true_and, and_true, true_or, or_true, not_true_eq_false, not_false_eq_true, nc0, nc1, nc2, nc3, nc4, nc5, nc6, nc7, nc8, nc9, nc10, nc11, nc12, nc13, nc14, nc15, nc16, nc17, nc18, nc19, nc20, nc21, nc22, nc23, nc35, nc47, nc59, nc60, nc61, nc73, nc74, nc214, nc215, nc1115, nc2230, nc3345, if_true, if_false, Int.reduceToNat, hw.k, hw.r0, hw.r1, hw.r2, hw.r3, hw.r4, hw.k1, hw.k2, hw.k3, hw.k4, hw.k5, hw.n1, hw.n2, hw.n3, hw.n4, hw.n5, wv.f5, wv.f6, wv.f7, wv.f8, wv.f9, wv.f10, wv.f11, wv.f12, wv.f13, wv.f14, wv.pk, wv.qk, wv.hk, wv.rk, sm_stop, Int.add_zero]
  · intro i hi ih h0 h1 f
    have gr := g.rg h0 (by omega)
    have r1 := Int.emod_nonneg (S (61 + i) - i) hp
    have r2 := Int.emod_lt_of_pos (S (61 + i) - i) (show 0 < S 6 by omega)
    rw [Hanging_joinedWithRemainder_5]
    simp (disch := omega) only [Hanging_joinedWithRemainder_0, Hanging_joinedWithRemainder_14, Hanging_joinedWithRemainder_20, Hanging_joinedWithRemainder_23, Hanging_joinedWithRemainder_30, Hanging_joinedWithRemainder_47, Hanging_joinedWithRemainder_51, Hanging_joinedWithRemainder_54, Hanging_joinedWithRemainder_60, wr_id, ix_id, okx, if_pos, if_neg, Int.toNat_of_nonneg, bak_v, bak_n, wr_b01, wr_bt, b01_or, b01_0, b01_1, lc_lt0, lc_gt0, lc_eq0, wl_wr, wr_wr, wl_id, true_and, and_true, true_or, or_true, not_true_eq_false, not_false_eq_true, nc0, nc1, nc2, nc3, nc4, nc5, nc6, nc7, nc8, nc9, nc10, nc11, nc12, nc13, nc14, nc15, nc16, nc17, nc18, nc19, nc20, nc21, nc22, nc23, nc35, nc47, nc59, nc60, nc61, nc73, nc74, nc214, nc215, nc1115, nc2230, nc3345, if_true, if_false, Int.reduceToNat, ha.k, ha.r, ha.k1, ha.n1, hw.k, hw.r0, hw.r1, hw.r2, hw.r3, hw.r4, hw.k1, hw.k2, hw.k3, hw.k4, hw.k5, hw.n1, hw.n2, hw.n3, hw.n4, hw.n5, wv.f5, wv.f6, wv.f7, wv.f8, wv.f9, wv.f10, wv.f11, wv.f12, wv.f13, wv.f14, wv.pk, wv.qk, wv.hk, wv.rk, hv.f1, hv.f2, hv.rk, sm_step hi, c_isJoined' hv g, c_floorMod]
    unfold remJ b01 at *
    by_cases c1 : S (61 + i) = -1
    · simp [c1, ih (by omega) (by omega)]
    · by_cases c2 : (S (61 + i) - i) % S 6 = m
      · simp [c1, c2, ih (by omega) (by omega), Int.add_assoc]
      · simp [c1, c2, ih (by omega) (by omega)]
theorem c_joinedWithRemainder {d a w : Nat} {h : Hp} {S : Int → Int} (wv : WV h w S) (hv : HV h a S) (g : Gd S) (hp : ¬ S 6 = 0) {m : Int} (hm : 0 ≤ m ∧ m < 12) : cal (d+2) m_Hanging_joinedWithRemainder [.inr (.inr (a)), .inr (.inr (w)), .inl (m)] (h) = some (.inl (sm (remJ S m) 0 (S 1)), h) := by
  show EX (d+1) m_Hanging_joinedWithRemainder 0 [(0, .inr (.inr (a))), (1, .inr (.inr (w))), (2, .inl (m))] [] (h) = _
  rw [Hanging_joinedWithRemainder_0, c_joinedWithRemainder_l wv hv g hp hm 0 (by omega) (by omega), Int.zero_add]
