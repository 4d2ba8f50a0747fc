/-! the class's calls: those that only tell -/
theorem cc_fault {d w : Nat} {h : Hp} {S G T rs rm nb : Int → Int} {n fk fp : Int} (cb : CB h w S G T rs rm nb n fk fp) {u : Int} (ru : -2147483648 ≤ u ∧ u ≤ 2147483647) : cal (d+1) m_Hook_fault [.inr (.inr (6)), .inl (u)] (h) = some (.inl (if u = 0 then fk else if u = 1 then fp else -1), h) := by
  have hc := cb.1.1
  obtain ⟨-, b2, b3⟩ := cb.2.1.2.2.1
  show EX (d) m_Hook_fault 0 [(0, .inr (.inr (6))), (1, .inl (u))] [] (h) = _
  by_cases c0 : u = 0
  · simp (disch := omega) only [Hook_fault_0, Hook_fault_4, wr_id, ix_id, okx, if_pos, if_neg, Int.toNat_of_nonneg, bak_v, bak_n, wr_b01, wr_bt, b01_or, b01_0, b01_1, lc_lt0, lc_gt0, lc_eq0, wl_wr, wr_wr, wl_id, true_and, and_true, true_or, or_true, not_true_eq_false, not_false_eq_true, nc0, nc1, nc2, nc3, nc4, nc5, nc6, nc7, nc8, nc9, nc10, nc11, nc12, nc13, nc14, nc15, nc16, nc17, nc18, nc19, nc20, nc21, nc22, nc23, nc35, nc47, nc59, nc60, nc61, nc73, nc74, nc214, nc215, nc1115, nc2230, nc3345, if_true, if_false, Int.reduceToNat, hc.k6, b2]
  · by_cases c1 : u = 1
    · simp (disch := omega) only [Hook_fault_0, Hook_fault_9, Hook_fault_14, Hook_fault_22, wr_id, ix_id, okx, if_pos, if_neg, Int.toNat_of_nonneg, bak_v, bak_n, wr_b01, wr_bt, b01_or, b01_0, b01_1, lc_lt0, lc_gt0, lc_eq0, wl_wr, wr_wr, wl_id, true_and, and_true, true_or, or_true, not_true_eq_false, not_false_eq_true, nc0, nc1, nc2, nc3, nc4, nc5, nc6, nc7, nc8, nc9, nc10, nc11, nc12, nc13, nc14, nc15, nc16, nc17, nc18, nc19, nc20, nc21, nc22, nc23, nc35, nc47, nc59, nc60, nc61, nc73, nc74, nc214, nc215, nc1115, nc2230, nc3345, if_true, if_false, Int.reduceToNat, hc.k6, b3]
    · simp (disch := omega) only [Hook_fault_0, Hook_fault_9, Hook_fault_21, Hook_fault_22, wr_id, ix_id, okx, if_pos, if_neg, Int.toNat_of_nonneg, bak_v, bak_n, wr_b01, wr_bt, b01_or, b01_0, b01_1, lc_lt0, lc_gt0, lc_eq0, wl_wr, wr_wr, wl_id, true_and, and_true, true_or, or_true, not_true_eq_false, not_false_eq_true, nc0, nc1, nc2, nc3, nc4, nc5, nc6, nc7, nc8, nc9, nc10, nc11, nc12, nc13, nc14, nc15, nc16, nc17, nc18, nc19, nc20, nc21, nc22, nc23, nc35, nc47, nc59, nc60, nc61, nc73, nc74, nc214, nc215, nc1115, nc2230, nc3345, if_true, if_false, Int.reduceToNat]
theorem RV.b {h : Hp} {w : Nat} {S : Int → Int} (v : RV h w S) {x y : Int} (hx : 0 ≤ x ∧ x < S 1) (hy : 0 ≤ y ∧ y < S 2) : lawV S x y = 0 ∨ lawV S x y = 1 := by
  have := v x.toNat (by omega) y hy.1 hy.2
  rw [Int.toNat_of_nonneg hx.1] at this
  rw [← this]
  exact bt_01 _ _
theorem cc_hook {d w : Nat} {h : Hp} {S G T rs rm nb : Int → Int} {n fk fp : Int} (cb : CB h w S G T rs rm nb n fk fp) (g : Gd S) {x u : Int} (rx : -2147483648 ≤ x ∧ x ≤ 2147483647) (ru : -2147483648 ≤ u ∧ u ≤ 2147483647) : cal (d+4) m_Hook_hook [.inr (.inr (6)), .inl (x), .inl (u)] (h) = some (.inl (ansHook S x u), h) := by
  obtain ⟨hc, wv, rv, hv, -, -⟩ := cb.1
  have hw := wv.1
  have ha := hv.1
  have ga := g.a
  have gb := g.b
  have e0 := c_isHook (d := d + 2) wv ga rx
  have wk := hw.k
  have st : cal (d+4) m_Hook_hook [.inr (.inr (6)), .inl (x), .inl (u)] (h) = if b01 (0 ≤ x ∧ x < S 1) = 0 then some (.inl (-2), h) else EX (d+3) m_Hook_hook 14 [(0, .inr (.inr (6))), (1, .inl (x)), (2, .inl (u))] [] (h) := by
    show EX (d+3) m_Hook_hook 0 [(0, .inr (.inr (6))), (1, .inl (x)), (2, .inl (u))] [] (h) = _
    simp (disch := omega) only [Hook_hook_0, Hook_hook_8, Hook_hook_11, wr_id, ix_id, okx, if_pos, if_neg, Int.toNat_of_nonneg, bak_v, bak_n, wr_b01, wr_bt, b01_or, b01_0, b01_1, lc_lt0, lc_gt0, lc_eq0, wl_wr, wr_wr, wl_id, true_and, and_true, true_or, or_true, not_true_eq_false, not_false_eq_true, nc0, nc1, nc2, nc3, nc4, nc5, nc6, nc7, nc8, nc9, nc10, nc11, nc12, nc13, nc14, nc15, nc16, nc17, nc18, nc19, nc20, nc21, nc22, nc23, nc35, nc47, nc59, nc60, nc61, nc73, nc74, nc214, nc215, nc1115, nc2230, nc3345, if_true, if_false, Int.reduceToNat, hc.k6, hc.r5, wk, e0]
  rw [st]
  unfold ansHook
  by_cases cx : 0 ≤ x ∧ x < S 1
  · have b1 : ¬ b01 (0 ≤ x ∧ x < S 1) = 0 := by unfold b01; rw [if_pos cx]; omega
    rw [if_neg b1, if_neg (fun z => z cx)]
    have k61 := hv.rk x.toNat (by omega)
    have k35 := wv.hk x.toNat (by omega)
    rw [Int.toNat_of_nonneg cx.1] at k61 k35
    by_cases c0 : u = 0
    · rw [if_pos c0]
      simp (disch := omega) only [Hook_hook_14, Hook_hook_48, wr_id, ix_id, okx, if_pos, if_neg, Int.toNat_of_nonneg, bak_v, bak_n, wr_b01, wr_bt, b01_or, b01_0, b01_1, lc_lt0, lc_gt0, lc_eq0, wl_wr, wr_wr, wl_id, true_and, and_true, true_or, or_true, not_true_eq_false, not_false_eq_true, nc0, nc1, nc2, nc3, nc4, nc5, nc6, nc7, nc8, nc9, nc10, nc11, nc12, nc13, nc14, nc15, nc16, nc17, nc18, nc19, nc20, nc21, nc22, nc23, nc35, nc47, nc59, nc60, nc61, nc73, nc74, nc214, nc215, nc1115, nc2230, nc3345, if_true, if_false, Int.reduceToNat, hc.k6, hc.r7, ha.k, ha.r, ha.k1, ha.n1, k61]
    · rw [if_neg c0]
      by_cases c1 : u = 1
      · rw [if_pos c1]
        simp (disch := omega) only [Hook_hook_14, Hook_hook_58, wr_id, ix_id, okx, if_pos, if_neg, Int.toNat_of_nonneg, bak_v, bak_n, wr_b01, wr_bt, b01_or, b01_0, b01_1, lc_lt0, lc_gt0, lc_eq0, wl_wr, wr_wr, wl_id, true_and, and_true, true_or, or_true, not_true_eq_false, not_false_eq_true, nc0, nc1, nc2, nc3, nc4, nc5, nc6, nc7, nc8, nc9, nc10, nc11, nc12, nc13, nc14, nc15, nc16, nc17, nc18, nc19, nc20, nc21, nc22, nc23, nc35, nc47, nc59, nc60, nc61, nc73, nc74, nc214, nc215, nc1115, nc2230, nc3345, if_true, if_false, Int.reduceToNat, hc.k6, hc.r5, hw.k, hw.r2, hw.k3, hw.n3, k35]
      · rw [if_neg c1]
        by_cases c2 : u = 2
        · rw [if_pos c2]
          by_cases cl : x = S 1 - 1
          · rw [if_pos cl]
            simp (disch := omega) only [Hook_hook_14, Hook_hook_68, Hook_hook_105, Hook_hook_106, wr_id, ix_id, okx, if_pos, if_neg, Int.toNat_of_nonneg, bak_v, bak_n, wr_b01, wr_bt, b01_or, b01_0, b01_1, lc_lt0, lc_gt0, lc_eq0, wl_wr, wr_wr, wl_id, true_and, and_true, true_or, or_true, not_true_eq_false, not_false_eq_true, nc0, nc1, nc2, nc3, nc4, nc5, nc6, nc7, nc8, nc9, nc10, nc11, nc12, nc13, nc14, nc15, nc16, nc17, nc18, nc19, nc20, nc21, nc22, nc23, nc35, nc47, nc59, nc60, nc61, nc73, nc74, nc214, nc215, nc1115, nc2230, nc3345, if_true, if_false, Int.reduceToNat, hc.k6, hc.r5, hw.k, wv.f5]
          · rw [if_neg cl]
            have p1 := wv.pk x.toNat (by omega)
            have p2 := wv.pk (x + 1).toNat (by omega)
            rw [Int.toNat_of_nonneg (by omega)] at p1 p2
            rw [sm_last cx.1] at p2
            simp (disch := omega) only [Hook_hook_14, Hook_hook_68, Hook_hook_81, Hook_hook_106, wr_id, ix_id, okx, if_pos, if_neg, Int.toNat_of_nonneg, bak_v, bak_n, wr_b01, wr_bt, b01_or, b01_0, b01_1, lc_lt0, lc_gt0, lc_eq0, wl_wr, wr_wr, wl_id, true_and, and_true, true_or, or_true, not_true_eq_false, not_false_eq_true, nc0, nc1, nc2, nc3, nc4, nc5, nc6, nc7, nc8, nc9, nc10, nc11, nc12, nc13, nc14, nc15, nc16, nc17, nc18, nc19, nc20, nc21, nc22, nc23, nc35, nc47, nc59, nc60, nc61, nc73, nc74, nc214, nc215, nc1115, nc2230, nc3345, if_true, if_false, Int.reduceToNat, hc.k6, hc.r5, hw.k, hw.r0, hw.k1, hw.n1, wv.f5, p1, p2]
            congr 3
            omega
        · rw [if_neg c2]
          by_cases c3 : u = 3
          · rw [if_pos c3]
            have e3 := c_sagOf (d := d) wv hv g cx.1 cx.2
            simp (disch := omega) only [Hook_hook_14, Hook_hook_107, Hook_hook_119, wr_id, ix_id, okx, if_pos, if_neg, Int.toNat_of_nonneg, bak_v, bak_n, wr_b01, wr_bt, b01_or, b01_0, b01_1, lc_lt0, lc_gt0, lc_eq0, wl_wr, wr_wr, wl_id, true_and, and_true, true_or, or_true, not_true_eq_false, not_false_eq_true, nc0, nc1, nc2, nc3, nc4, nc5, nc6, nc7, nc8, nc9, nc10, nc11, nc12, nc13, nc14, nc15, nc16, nc17, nc18, nc19, nc20, nc21, nc22, nc23, nc35, nc47, nc59, nc60, nc61, nc73, nc74, nc214, nc215, nc1115, nc2230, nc3345, if_true, if_false, Int.reduceToNat, hc.k6, hc.r5, hc.r7, ha.k, wk, e3]
          · rw [if_neg c3]
            by_cases c4 : u = 4
            · rw [if_pos c4]
              have e4 := c_isRightlyJoined (d := d) wv rv hv g cx.1 cx.2
              unfold rtJ
              by_cases q : ¬ S (61 + x) = -1 ∧ lawV S x (S (61 + x)) = 1
              · have b : b01 (¬ S (61 + x) = -1 ∧ lawV S x (S (61 + x)) = 1) = 1 := by unfold b01; rw [if_pos q]
                rw [b] at e4 ⊢
                simp (disch := omega) only [Hook_hook_14, Hook_hook_120, Hook_hook_132, Hook_hook_135, Hook_hook_140, wr_id, ix_id, okx, if_pos, if_neg, Int.toNat_of_nonneg, bak_v, bak_n, wr_b01, wr_bt, b01_or, b01_0, b01_1, lc_lt0, lc_gt0, lc_eq0, wl_wr, wr_wr, wl_id, true_and, and_true, true_or, or_true, not_true_eq_false, not_false_eq_true, nc0, nc1, nc2, nc3, nc4, nc5, nc6, nc7, nc8, nc9, nc10, nc11, nc12, nc13, nc14, nc15, nc16, nc17, nc18, nc19, nc20, nc21, nc22, nc23, nc35, nc47, nc59, nc60, nc61, nc73, nc74, nc214, nc215, nc1115, nc2230, nc3345, if_true, if_false, Int.reduceToNat, hc.k6, hc.r5, hc.r7, ha.k, wk, e4]
              · have b : b01 (¬ S (61 + x) = -1 ∧ lawV S x (S (61 + x)) = 1) = 0 := by unfold b01; rw [if_neg q]
                rw [b] at e4 ⊢
                simp (disch := omega) only [Hook_hook_14, Hook_hook_120, Hook_hook_132, Hook_hook_139, Hook_hook_140, wr_id, ix_id, okx, if_pos, if_neg, Int.toNat_of_nonneg, bak_v, bak_n, wr_b01, wr_bt, b01_or, b01_0, b01_1, lc_lt0, lc_gt0, lc_eq0, wl_wr, wr_wr, wl_id, true_and, and_true, true_or, or_true, not_true_eq_false, not_false_eq_true, nc0, nc1, nc2, nc3, nc4, nc5, nc6, nc7, nc8, nc9, nc10, nc11, nc12, nc13, nc14, nc15, nc16, nc17, nc18, nc19, nc20, nc21, nc22, nc23, nc35, nc47, nc59, nc60, nc61, nc73, nc74, nc214, nc215, nc1115, nc2230, nc3345, if_true, if_false, Int.reduceToNat, hc.k6, hc.r5, hc.r7, ha.k, wk, e4]
            · rw [if_neg c4]
              simp (disch := omega) only [Hook_hook_14, Hook_hook_141, wr_id, ix_id, okx, if_pos, if_neg, Int.toNat_of_nonneg, bak_v, bak_n, wr_b01, wr_bt, b01_or, b01_0, b01_1, lc_lt0, lc_gt0, lc_eq0, wl_wr, wr_wr, wl_id, true_and, and_true, true_or, or_true, not_true_eq_false, not_false_eq_true, nc0, nc1, nc2, nc3, nc4, nc5, nc6, nc7, nc8, nc9, nc10, nc11, nc12, nc13, nc14, nc15, nc16, nc17, nc18, nc19, nc20, nc21, nc22, nc23, nc35, nc47, nc59, nc60, nc61, nc73, nc74, nc214, nc215, nc1115, nc2230, nc3345, if_true, if_false, Int.reduceToNat]
  · have b1 : b01 (0 ≤ x ∧ x < S 1) = 0 := by unfold b01; rw [if_neg cx]
    rw [if_pos b1, if_pos cx]
theorem cc_ring {d w : Nat} {h : Hp} {S G T rs rm nb : Int → Int} {n fk fp : Int} (cb : CB h w S G T rs rm nb n fk fp) (g : Gd S) {x u : Int} (rx : -2147483648 ≤ x ∧ x ≤ 2147483647) (ru : -2147483648 ≤ u ∧ u ≤ 2147483647) : cal (d+4) m_Hook_ring [.inr (.inr (6)), .inl (x), .inl (u)] (h) = some (.inl (ansRing S x u), h) := by
  obtain ⟨hc, wv, rv, hv, -, -⟩ := cb.1
  have hw := wv.1
  have ha := hv.1
  have ga := g.a
  have gb := g.b
  have e0 := c_isRing (d := d + 2) wv gb rx
  have wk := hw.k
  have st : cal (d+4) m_Hook_ring [.inr (.inr (6)), .inl (x), .inl (u)] (h) = if b01 (0 ≤ x ∧ x < S 2) = 0 then some (.inl (-2), h) else EX (d+3) m_Hook_ring 14 [(0, .inr (.inr (6))), (1, .inl (x)), (2, .inl (u))] [] (h) := by
    show EX (d+3) m_Hook_ring 0 [(0, .inr (.inr (6))), (1, .inl (x)), (2, .inl (u))] [] (h) = _
    simp (disch := omega) only [Hook_ring_0, Hook_ring_8, Hook_ring_11, wr_id, ix_id, okx, if_pos, if_neg, Int.toNat_of_nonneg, bak_v, bak_n, wr_b01, wr_bt, b01_or, b01_0, b01_1, lc_lt0, lc_gt0, lc_eq0, wl_wr, wr_wr, wl_id, true_and, and_true, true_or, or_true, not_true_eq_false, not_false_eq_true, nc0, nc1, nc2, nc3, nc4, nc5, nc6, nc7, nc8, nc9, nc10, nc11, nc12, nc13, nc14, nc15, nc16, nc17, nc18, nc19, nc20, nc21, nc22, nc23, nc35, nc47, nc59, nc60, nc61, nc73, nc74, nc214, nc215, nc1115, nc2230, nc3345, if_true, if_false, Int.reduceToNat, hc.k6, hc.r5, wk, e0]
  rw [st]
  unfold ansRing
  by_cases cx : 0 ≤ x ∧ x < S 2
  · have b1 : ¬ b01 (0 ≤ x ∧ x < S 2) = 0 := by unfold b01; rw [if_pos cx]; omega
    rw [if_neg b1, if_neg (fun z => z cx)]
    have k47 := wv.rk x.toNat (by omega)
    rw [Int.toNat_of_nonneg cx.1] at k47
    by_cases c0 : u = 0
    · rw [if_pos c0]
      have e3 := c_hookOn (d := d + 2) wv hv g rx
      simp (disch := omega) only [Hook_ring_14, Hook_ring_44, Hook_ring_56, wr_id, ix_id, okx, if_pos, if_neg, Int.toNat_of_nonneg, bak_v, bak_n, wr_b01, wr_bt, b01_or, b01_0, b01_1, lc_lt0, lc_gt0, lc_eq0, wl_wr, wr_wr, wl_id, true_and, and_true, true_or, or_true, not_true_eq_false, not_false_eq_true, nc0, nc1, nc2, nc3, nc4, nc5, nc6, nc7, nc8, nc9, nc10, nc11, nc12, nc13, nc14, nc15, nc16, nc17, nc18, nc19, nc20, nc21, nc22, nc23, nc35, nc47, nc59, nc60, nc61, nc73, nc74, nc214, nc215, nc1115, nc2230, nc3345, if_true, if_false, Int.reduceToNat, hc.k6, hc.r5, hc.r7, ha.k, wk, e3]
    · rw [if_neg c0]
      by_cases c1 : u = 1
      · rw [if_pos c1]
        simp (disch := omega) only [Hook_ring_14, Hook_ring_57, wr_id, ix_id, okx, if_pos, if_neg, Int.toNat_of_nonneg, bak_v, bak_n, wr_b01, wr_bt, b01_or, b01_0, b01_1, lc_lt0, lc_gt0, lc_eq0, wl_wr, wr_wr, wl_id, true_and, and_true, true_or, or_true, not_true_eq_false, not_false_eq_true, nc0, nc1, nc2, nc3, nc4, nc5, nc6, nc7, nc8, nc9, nc10, nc11, nc12, nc13, nc14, nc15, nc16, nc17, nc18, nc19, nc20, nc21, nc22, nc23, nc35, nc47, nc59, nc60, nc61, nc73, nc74, nc214, nc215, nc1115, nc2230, nc3345, if_true, if_false, Int.reduceToNat, hc.k6, hc.r5, hw.k, hw.r3, hw.k4, hw.n4, k47]
      · rw [if_neg c1]
        by_cases c2 : u = 2
        · rw [if_pos c2]
          by_cases cl : x = S 2 - 1
          · rw [if_pos cl]
            simp (disch := omega) only [Hook_ring_14, Hook_ring_67, Hook_ring_104, Hook_ring_105, wr_id, ix_id, okx, if_pos, if_neg, Int.toNat_of_nonneg, bak_v, bak_n, wr_b01, wr_bt, b01_or, b01_0, b01_1, lc_lt0, lc_gt0, lc_eq0, wl_wr, wr_wr, wl_id, true_and, and_true, true_or, or_true, not_true_eq_false, not_false_eq_true, nc0, nc1, nc2, nc3, nc4, nc5, nc6, nc7, nc8, nc9, nc10, nc11, nc12, nc13, nc14, nc15, nc16, nc17, nc18, nc19, nc20, nc21, nc22, nc23, nc35, nc47, nc59, nc60, nc61, nc73, nc74, nc214, nc215, nc1115, nc2230, nc3345, if_true, if_false, Int.reduceToNat, hc.k6, hc.r5, hw.k, wv.f6]
          · rw [if_neg cl]
            have p1 := wv.qk x.toNat (by omega)
            have p2 := wv.qk (x + 1).toNat (by omega)
            rw [Int.toNat_of_nonneg (by omega)] at p1 p2
            rw [sm_last cx.1] at p2
            simp (disch := omega) only [Hook_ring_14, Hook_ring_67, Hook_ring_80, Hook_ring_105, wr_id, ix_id, okx, if_pos, if_neg, Int.toNat_of_nonneg, bak_v, bak_n, wr_b01, wr_bt, b01_or, b01_0, b01_1, lc_lt0, lc_gt0, lc_eq0, wl_wr, wr_wr, wl_id, true_and, and_true, true_or, or_true, not_true_eq_false, not_false_eq_true, nc0, nc1, nc2, nc3, nc4, nc5, nc6, nc7, nc8, nc9, nc10, nc11, nc12, nc13, nc14, nc15, nc16, nc17, nc18, nc19, nc20, nc21, nc22, nc23, nc35, nc47, nc59, nc60, nc61, nc73, nc74, nc214, nc215, nc1115, nc2230, nc3345, if_true, if_false, Int.reduceToNat, hc.k6, hc.r5, hw.k, hw.r1, hw.k2, hw.n2, wv.f6, p1, p2]
            congr 3
            omega
        · rw [if_neg c2]
          by_cases c3 : u = 3
          · rw [if_pos c3]
            have e3 := c_isBroken (d := d + 2) wv (r := x) (by omega)
            simp (disch := omega) only [Hook_ring_14, Hook_ring_106, Hook_ring_114, Hook_ring_117, Hook_ring_121, Hook_ring_122, wr_id, ix_id, okx, if_pos, if_neg, Int.toNat_of_nonneg, bak_v, bak_n, wr_b01, wr_bt, b01_or, b01_0, b01_1, lc_lt0, lc_gt0, lc_eq0, wl_wr, wr_wr, wl_id, true_and, and_true, true_or, or_true, not_true_eq_false, not_false_eq_true, nc0, nc1, nc2, nc3, nc4, nc5, nc6, nc7, nc8, nc9, nc10, nc11, nc12, nc13, nc14, nc15, nc16, nc17, nc18, nc19, nc20, nc21, nc22, nc23, nc35, nc47, nc59, nc60, nc61, nc73, nc74, nc214, nc215, nc1115, nc2230, nc3345, if_true, if_false, Int.reduceToNat, hc.k6, hc.r5, wk, e3]
            rcases bt_01 (S 10) x with e | e <;> rw [e] <;> simp
          · rw [if_neg c3]
            simp (disch := omega) only [Hook_ring_14, Hook_ring_123, wr_id, ix_id, okx, if_pos, if_neg, Int.toNat_of_nonneg, bak_v, bak_n, wr_b01, wr_bt, b01_or, b01_0, b01_1, lc_lt0, lc_gt0, lc_eq0, wl_wr, wr_wr, wl_id, true_and, and_true, true_or, or_true, not_true_eq_false, not_false_eq_true, nc0, nc1, nc2, nc3, nc4, nc5, nc6, nc7, nc8, nc9, nc10, nc11, nc12, nc13, nc14, nc15, nc16, nc17, nc18, nc19, nc20, nc21, nc22, nc23, nc35, nc47, nc59, nc60, nc61, nc73, nc74, nc214, nc215, nc1115, nc2230, nc3345, if_true, if_false, Int.reduceToNat]
  · have b1 : b01 (0 ≤ x ∧ x < S 2) = 0 := by unfold b01; rw [if_neg cx]
    rw [if_pos b1, if_pos cx]
theorem cc_belongs {d w : Nat} {h : Hp} {S G T rs rm nb : Int → Int} {n fk fp : Int} (cb : CB h w S G T rs rm nb n fk fp) (g : Gd S) {x y : Int} (rx : -2147483648 ≤ x ∧ x ≤ 2147483647) (ry : -2147483648 ≤ y ∧ y ≤ 2147483647) : cal (d+4) m_Hook_belongs [.inr (.inr (6)), .inl (x), .inl (y)] (h) = some (.inl (ansBel S x y), h) := by
  obtain ⟨hc, wv, rv, hv, -, -⟩ := cb.1
  have hw := wv.1
  have ga := g.a
  have gb := g.b
  have wk := hw.k
  have e0 := c_isHook (d := d + 2) wv ga rx
  have e1 := c_isRing (d := d + 2) wv gb ry
  have e2 := c_isRight (d := d + 1) wv rv g rx ry
  show EX (d+3) m_Hook_belongs 0 [(0, .inr (.inr (6))), (1, .inl (x)), (2, .inl (y))] [] (h) = _
  unfold ansBel
  by_cases cx : 0 ≤ x ∧ x < S 1
  · have b1 : b01 (0 ≤ x ∧ x < S 1) = 1 := by unfold b01; rw [if_pos cx]
    rw [b1] at e0
    by_cases cy : 0 ≤ y ∧ y < S 2
    · have b2 : b01 (0 ≤ y ∧ y < S 2) = 1 := by unfold b01; rw [if_pos cy]
      rw [b2] at e1
      rw [if_neg (by omega)]
      rcases rv.b cx cy with z | z
      · have b3 : b01 ((0 ≤ x ∧ x < S 1) ∧ (0 ≤ y ∧ y < S 2) ∧ lawV S x y = 1) = 0 := by unfold b01; rw [if_neg (by omega)]
        rw [b3] at e2
        rw [z]
        simp (disch := omega) only [Hook_belongs_0, Hook_belongs_8, Hook_belongs_11, Hook_belongs_19, Hook_belongs_25, Hook_belongs_34, Hook_belongs_41, Hook_belongs_42, wr_id, ix_id, okx, if_pos, if_neg, Int.toNat_of_nonneg, bak_v, bak_n, wr_b01, wr_bt, b01_or, b01_0, b01_1, lc_lt0, lc_gt0, lc_eq0, wl_wr, wr_wr, wl_id, true_and, and_true, true_or, or_true, not_true_eq_false, not_false_eq_true, nc0, nc1, nc2, nc3, nc4, nc5, nc6, nc7, nc8, nc9, nc10, nc11, nc12, nc13, nc14, nc15, nc16, nc17, nc18, nc19, nc20, nc21, nc22, nc23, nc35, nc47, nc59, nc60, nc61, nc73, nc74, nc214, nc215, nc1115, nc2230, nc3345, if_true, if_false, Int.reduceToNat, hc.k6, hc.r5, wk, e0, e1, e2]
      · have b3 : b01 ((0 ≤ x ∧ x < S 1) ∧ (0 ≤ y ∧ y < S 2) ∧ lawV S x y = 1) = 1 := by unfold b01; rw [if_pos ⟨cx, cy, z⟩]
        rw [b3] at e2
        rw [z]
        simp (disch := omega) only [Hook_belongs_0, Hook_belongs_8, Hook_belongs_11, Hook_belongs_19, Hook_belongs_25, Hook_belongs_34, Hook_belongs_37, Hook_belongs_42, wr_id, ix_id, okx, if_pos, if_neg, Int.toNat_of_nonneg, bak_v, bak_n, wr_b01, wr_bt, b01_or, b01_0, b01_1, lc_lt0, lc_gt0, lc_eq0, wl_wr, wr_wr, wl_id, true_and, and_true, true_or, or_true, not_true_eq_false, not_false_eq_true, nc0, nc1, nc2, nc3, nc4, nc5, nc6, nc7, nc8, nc9, nc10, nc11, nc12, nc13, nc14, nc15, nc16, nc17, nc18, nc19, nc20, nc21, nc22, nc23, nc35, nc47, nc59, nc60, nc61, nc73, nc74, nc214, nc215, nc1115, nc2230, nc3345, if_true, if_false, Int.reduceToNat, hc.k6, hc.r5, wk, e0, e1, e2]
    · have b2 : b01 (0 ≤ y ∧ y < S 2) = 0 := by unfold b01; rw [if_neg cy]
      rw [b2] at e1
      rw [if_pos (Or.inr cy)]
      simp (disch := omega) only [Hook_belongs_0, Hook_belongs_8, Hook_belongs_11, Hook_belongs_19, Hook_belongs_22, wr_id, ix_id, okx, if_pos, if_neg, Int.toNat_of_nonneg, bak_v, bak_n, wr_b01, wr_bt, b01_or, b01_0, b01_1, lc_lt0, lc_gt0, lc_eq0, wl_wr, wr_wr, wl_id, true_and, and_true, true_or, or_true, not_true_eq_false, not_false_eq_true, nc0, nc1, nc2, nc3, nc4, nc5, nc6, nc7, nc8, nc9, nc10, nc11, nc12, nc13, nc14, nc15, nc16, nc17, nc18, nc19, nc20, nc21, nc22, nc23, nc35, nc47, nc59, nc60, nc61, nc73, nc74, nc214, nc215, nc1115, nc2230, nc3345, if_true, if_false, Int.reduceToNat, hc.k6, hc.r5, wk, e0, e1]
  · have b1 : b01 (0 ≤ x ∧ x < S 1) = 0 := by unfold b01; rw [if_neg cx]
    rw [b1] at e0
    rw [if_pos (Or.inl cx)]
    simp (disch := omega) only [Hook_belongs_0, Hook_belongs_8, Hook_belongs_22, wr_id, ix_id, okx, if_pos, if_neg, Int.toNat_of_nonneg, bak_v, bak_n, wr_b01, wr_bt, b01_or, b01_0, b01_1, lc_lt0, lc_gt0, lc_eq0, wl_wr, wr_wr, wl_id, true_and, and_true, true_or, or_true, not_true_eq_false, not_false_eq_true, nc0, nc1, nc2, nc3, nc4, nc5, nc6, nc7, nc8, nc9, nc10, nc11, nc12, nc13, nc14, nc15, nc16, nc17, nc18, nc19, nc20, nc21, nc22, nc23, nc35, nc47, nc59, nc60, nc61, nc73, nc74, nc214, nc215, nc1115, nc2230, nc3345, if_true, if_false, Int.reduceToNat, hc.k6, hc.r5, wk, e0]
theorem cc_sags {d w : Nat} {h : Hp} {S G T rs rm nb : Int → Int} {n fk fp : Int} (cb : CB h w S G T rs rm nb n fk fp) (g : Gd S) {u : Int} (ru : -2147483648 ≤ u ∧ u ≤ 2147483647) : cal (d+5) m_Hook_sags [.inr (.inr (6)), .inl (u)] (h) = some (.inl (ansSags S u), h) := by
  obtain ⟨hc, wv, rv, hv, -, -⟩ := cb.1
  have wk := wv.1.k
  have ha := hv.1
  have e0 := c_joinedIn (d := d + 2) wv hv g
  have e1 := c_rightIn (d := d) wv rv hv g
  have e2 := c_greatestSag (d := d) wv hv g
  have e3 := c_sagSum (d := d) (q := 0) wv hv g (Or.inl rfl)
  have e4 := c_sagSum (d := d) (q := 1) wv hv g (Or.inr rfl)
  show EX (d+4) m_Hook_sags 0 [(0, .inr (.inr (6))), (1, .inl (u))] [] (h) = _
  unfold ansSags
  by_cases c0 : u = 0
  · rw [if_pos c0]; simp (disch := omega) only [Hook_sags_0, Hook_sags_36, Hook_sags_47, wr_id, ix_id, okx, if_pos, if_neg, Int.toNat_of_nonneg, bak_v, bak_n, wr_b01, wr_bt, b01_or, b01_0, b01_1, lc_lt0, lc_gt0, lc_eq0, wl_wr, wr_wr, wl_id, true_and, and_true, true_or, or_true, not_true_eq_false, not_false_eq_true, nc0, nc1, nc2, nc3, nc4, nc5, nc6, nc7, nc8, nc9, nc10, nc11, nc12, nc13, nc14, nc15, nc16, nc17, nc18, nc19, nc20, nc21, nc22, nc23, nc35, nc47, nc59, nc60, nc61, nc73, nc74, nc214, nc215, nc1115, nc2230, nc3345, if_true, if_false, Int.reduceToNat, hc.k6, hc.r5, hc.r7, ha.k, wk, e0]
  · rw [if_neg c0]
    by_cases c1 : u = 1
    · rw [if_pos c1]; simp (disch := omega) only [Hook_sags_0, Hook_sags_48, Hook_sags_59, wr_id, ix_id, okx, if_pos, if_neg, Int.toNat_of_nonneg, bak_v, bak_n, wr_b01, wr_bt, b01_or, b01_0, b01_1, lc_lt0, lc_gt0, lc_eq0, wl_wr, wr_wr, wl_id, true_and, and_true, true_or, or_true, not_true_eq_false, not_false_eq_true, nc0, nc1, nc2, nc3, nc4, nc5, nc6, nc7, nc8, nc9, nc10, nc11, nc12, nc13, nc14, nc15, nc16, nc17, nc18, nc19, nc20, nc21, nc22, nc23, nc35, nc47, nc59, nc60, nc61, nc73, nc74, nc214, nc215, nc1115, nc2230, nc3345, if_true, if_false, Int.reduceToNat, hc.k6, hc.r5, hc.r7, ha.k, wk, e1]
    · rw [if_neg c1]
      by_cases c2 : u = 2
      · rw [if_pos c2]; simp (disch := omega) only [Hook_sags_0, Hook_sags_60, Hook_sags_71, wr_id, ix_id, okx, if_pos, if_neg, Int.toNat_of_nonneg, bak_v, bak_n, wr_b01, wr_bt, b01_or, b01_0, b01_1, lc_lt0, lc_gt0, lc_eq0, wl_wr, wr_wr, wl_id, true_and, and_true, true_or, or_true, not_true_eq_false, not_false_eq_true, nc0, nc1, nc2, nc3, nc4, nc5, nc6, nc7, nc8, nc9, nc10, nc11, nc12, nc13, nc14, nc15, nc16, nc17, nc18, nc19, nc20, nc21, nc22, nc23, nc35, nc47, nc59, nc60, nc61, nc73, nc74, nc214, nc215, nc1115, nc2230, nc3345, if_true, if_false, Int.reduceToNat, hc.k6, hc.r5, hc.r7, ha.k, wk, e2]
      · rw [if_neg c2]
        by_cases c3 : u = 3
        · rw [if_pos c3]; simp (disch := omega) only [Hook_sags_0, Hook_sags_72, Hook_sags_84, wr_id, ix_id, okx, if_pos, if_neg, Int.toNat_of_nonneg, bak_v, bak_n, wr_b01, wr_bt, b01_or, b01_0, b01_1, lc_lt0, lc_gt0, lc_eq0, wl_wr, wr_wr, wl_id, true_and, and_true, true_or, or_true, not_true_eq_false, not_false_eq_true, nc0, nc1, nc2, nc3, nc4, nc5, nc6, nc7, nc8, nc9, nc10, nc11, nc12, nc13, nc14, nc15, nc16, nc17, nc18, nc19, nc20, nc21, nc22, nc23, nc35, nc47, nc59, nc60, nc61, nc73, nc74, nc214, nc215, nc1115, nc2230, nc3345, if_true, if_false, Int.reduceToNat, hc.k6, hc.r5, hc.r7, ha.k, wk, e3]
        · rw [if_neg c3]
          by_cases c4 : u = 4
          · rw [if_pos c4]; simp (disch := omega) only [Hook_sags_0, Hook_sags_85, Hook_sags_97, wr_id, ix_id, okx, if_pos, if_neg, Int.toNat_of_nonneg, bak_v, bak_n, wr_b01, wr_bt, b01_or, b01_0, b01_1, lc_lt0, lc_gt0, lc_eq0, wl_wr, wr_wr, wl_id, true_and, and_true, true_or, or_true, not_true_eq_false, not_false_eq_true, nc0, nc1, nc2, nc3, nc4, nc5, nc6, nc7, nc8, nc9, nc10, nc11, nc12, nc13, nc14, nc15, nc16, nc17, nc18, nc19, nc20, nc21, nc22, nc23, nc35, nc47, nc59, nc60, nc61, nc73, nc74, nc214, nc215, nc1115, nc2230, nc3345, if_true, if_false, Int.reduceToNat, hc.k6, hc.r5, hc.r7, ha.k, wk, e4]
          · rw [if_neg c4]; simp (disch := omega) only [Hook_sags_0, Hook_sags_98, wr_id, ix_id, okx, if_pos, if_neg, Int.toNat_of_nonneg, bak_v, bak_n, wr_b01, wr_bt, b01_or, b01_0, b01_1, lc_lt0, lc_gt0, lc_eq0, wl_wr, wr_wr, wl_id, true_and, and_true, true_or, or_true, not_true_eq_false, not_false_eq_true, nc0, nc1, nc2, nc3, nc4, nc5, nc6, nc7, nc8, nc9, nc10, nc11, nc12, nc13, nc14, nc15, nc16, nc17, nc18, nc19, nc20, nc21, nc22, nc23, nc35, nc47, nc59, nc60, nc61, nc73, nc74, nc214, nc215, nc1115, nc2230, nc3345, if_true, if_false, Int.reduceToNat]
theorem cc_why {d w : Nat} {h : Hp} {S G T rs rm nb : Int → Int} {n fk fp : Int} (cb : CB h w S G T rs rm nb n fk fp) (g : Gd S) {x y : Int} (rx : -2147483648 ≤ x ∧ x ≤ 2147483647) (ry : -2147483648 ≤ y ∧ y ≤ 2147483647) : cal (d+4) m_Hook_why [.inr (.inr (6)), .inl (x), .inl (y)] (h) = some (.inl (whyM S x y), h) := by
  obtain ⟨hc, wv, rv, hv, -, -⟩ := cb.1
  have wk := wv.1.k
  have ha := hv.1
  have e0 := c_whyNotJoin (d := d) wv hv g rx ry
  show EX (d+3) m_Hook_why 0 [(0, .inr (.inr (6))), (1, .inl (x)), (2, .inl (y))] [] (h) = _
  simp (disch := omega) only [Hook_why_0, Hook_why_13, wr_id, ix_id, okx, if_pos, if_neg, Int.toNat_of_nonneg, bak_v, bak_n, wr_b01, wr_bt, b01_or, b01_0, b01_1, lc_lt0, lc_gt0, lc_eq0, wl_wr, wr_wr, wl_id, true_and, and_true, true_or, or_true, not_true_eq_false, not_false_eq_true, nc0, nc1, nc2, nc3, nc4, nc5, nc6, nc7, nc8, nc9, nc10, nc11, nc12, nc13, nc14, nc15, nc16, nc17, nc18, nc19, nc20, nc21, nc22, nc23, nc35, nc47, nc59, nc60, nc61, nc73, nc74, nc214, nc215, nc1115, nc2230, nc3345, if_true, if_false, Int.reduceToNat, hc.k6, hc.r5, hc.r7, ha.k, wk, e0]
theorem c_pleats_l {d w : Nat} {h : Hp} {S : Int → Int} (hc : CR h w) (wv : WV h w S) (hv : HV h 26 S) (g : Gd S) (hp : ¬ S 6 = 0) {u : Int} (hu : u = 0 ∨ u = 1) : ∀ (k : Nat) (i x2 x3 : Int), 0 ≤ i → i + k = S 6 → (0 ≤ x2 ∧ x2 ≤ 12) → EX (d+2) m_Hook_pleats 32 [(0, .inr (.inr (6))), (1, .inl (u)), (2, .inl (x2)), (3, .inl (x3)), (4, .inl (i))] [] (h) = some (.inl (if u = 0 then (am (fun m => sm (remJ S m) 0 (S 1)) k i x2 x3).1 else (am (fun m => sm (remJ S m) 0 (S 1)) k i x2 x3).2), h) := by
  have ga := g.a
  have g6 := g.1.2.2.2.2.2.1
  have wk := wv.1.k
  have ha := hv.1
  intro k
  induction k with
  | zero =>
    intro i x2 x3 h0 hi h2
    rw [Hook_pleats_32]
    rcases hu with e | e <;> subst e
    · simp (disch := omega) only [Hook_pleats_77, Hook_pleats_81, Hook_pleats_86, wr_id, ix_id, okx, if_pos, if_neg, Int.toNat_of_nonneg, bak_v, bak_n, wr_b01, wr_bt, b01_or, b01_0, b01_1, lc_lt0, lc_gt0, lc_eq0, wl_wr, wr_wr, wl_id, true_and, and_true, true_or, or_true, not_true_eq_false, not_false_eq_true, nc0, nc1, nc2, nc3, nc4, nc5, nc6, nc7, nc8, nc9, nc10, nc11, nc12, nc13, nc14, nc15, nc16, nc17, nc18, nc19, nc20, nc21, nc22, nc23, nc35, nc47, nc59, nc60, nc61, nc73, nc74, nc214, nc215, nc1115, nc2230, nc3345, if_true, if_false, Int.reduceToNat, hc.k6, hc.r5, wk, wv.f11, am]
    · simp (disch := omega) only [Hook_pleats_77, Hook_pleats_85, Hook_pleats_86, wr_id, ix_id, okx, if_pos, if_neg, Int.toNat_of_nonneg, bak_v, bak_n, wr_b01, wr_bt, b01_or, b01_0, b01_1, lc_lt0, lc_gt0, lc_eq0, wl_wr, wr_wr, wl_id, true_and, and_true, true_or, or_true, not_true_eq_false, not_false_eq_true, nc0, nc1, nc2, nc3, nc4, nc5, nc6, nc7, nc8, nc9, nc10, nc11, nc12, nc13, nc14, nc15, nc16, nc17, nc18, nc19, nc20, nc21, nc22, nc23, nc35, nc47, nc59, nc60, nc61, nc73, nc74, nc214, nc215, nc1115, nc2230, nc3345, if_true, if_false, Int.reduceToNat, hc.k6, hc.r5, wk, wv.f11, am]
  | succ k ih =>
    intro i x2 x3 h0 hi h2
    have sr := sm_rem (S := S) ga i
    have e1 := c_joinedWithRemainder (d := d) wv hv g hp (m := i) (by omega)
    rw [Hook_pleats_32]
    simp only [am]
    by_cases c : x2 < sm (remJ S i) 0 (S 1)
    · simp (disch := omega) only [Hook_pleats_44, Hook_pleats_57, Hook_pleats_65, Hook_pleats_71, wr_id, ix_id, okx, if_pos, if_neg, Int.toNat_of_nonneg, bak_v, bak_n, wr_b01, wr_bt, b01_or, b01_0, b01_1, lc_lt0, lc_gt0, lc_eq0, wl_wr, wr_wr, wl_id, true_and, and_true, true_or, or_true, not_true_eq_false, not_false_eq_true, nc0, nc1, nc2, nc3, nc4, nc5, nc6, nc7, nc8, nc9, nc10, nc11, nc12, nc13, nc14, nc15, nc16, nc17, nc18, nc19, nc20, nc21, nc22, nc23, nc35, nc47, nc59, nc60, nc61, nc73, nc74, nc214, nc215, nc1115, nc2230, nc3345, if_true, if_false, Int.reduceToNat, hc.k6, hc.r5, hc.r7, ha.k, wk, wv.f11, e1]
      rw [ih (i + 1) _ _ (by omega) (by omega) (by omega)]
    · simp (disch := omega) only [Hook_pleats_44, Hook_pleats_57, Hook_pleats_71, wr_id, ix_id, okx, if_pos, if_neg, Int.toNat_of_nonneg, bak_v, bak_n, wr_b01, wr_bt, b01_or, b01_0, b01_1, lc_lt0, lc_gt0, lc_eq0, wl_wr, wr_wr, wl_id, true_and, and_true, true_or, or_true, not_true_eq_false, not_false_eq_true, nc0, nc1, nc2, nc3, nc4, nc5, nc6, nc7, nc8, nc9, nc10, nc11, nc12, nc13, nc14, nc15, nc16, nc17, nc18, nc19, nc20, nc21, nc22, nc23, nc35, nc47, nc59, nc60, nc61, nc73, nc74, nc214, nc215, nc1115, nc2230, nc3345, if_true, if_false, Int.reduceToNat, hc.k6, hc.r5, hc.r7, ha.k, wk, wv.f11, e1]
      rw [ih (i + 1) _ _ (by omega) (by omega) (by omega)]
theorem cc_pleats {d w : Nat} {h : Hp} {S G T rs rm nb : Int → Int} {n fk fp : Int} (cb : CB h w S G T rs rm nb n fk fp) (g : Gd S) {u : Int} (ru : -2147483648 ≤ u ∧ u ≤ 2147483647) : cal (d+3) m_Hook_pleats [.inr (.inr (6)), .inl (u)] (h) = some (.inl (ansPleat S u), h) := by
  obtain ⟨hc, wv, rv, hv, -, -⟩ := cb.1
  have wk := wv.1.k
  have g6 := g.1.2.2.2.2.2.1
  show EX (d+2) m_Hook_pleats 0 [(0, .inr (.inr (6))), (1, .inl (u))] [] (h) = _
  unfold ansPleat
  by_cases cu : u = 0 ∨ u = 1
  · rw [if_neg (fun z => z cu)]
    have st : EX (d+2) m_Hook_pleats 0 [(0, .inr (.inr (6))), (1, .inl (u))] [] (h) = EX (d+2) m_Hook_pleats 12 [(0, .inr (.inr (6))), (1, .inl (u))] [] (h) := by
      rcases cu with e | e <;> subst e
      · simp (disch := omega) only [Hook_pleats_0, wr_id, ix_id, okx, if_pos, if_neg, Int.toNat_of_nonneg, bak_v, bak_n, wr_b01, wr_bt, b01_or, b01_0, b01_1, lc_lt0, lc_gt0, lc_eq0, wl_wr, wr_wr, wl_id, true_and, and_true, true_or, or_true, not_true_eq_false, not_false_eq_true, nc0, nc1, nc2, nc3, nc4, nc5, nc6, nc7, nc8, nc9, nc10, nc11, nc12, nc13, nc14, nc15, nc16, nc17, nc18, nc19, nc20, nc21, nc22, nc23, nc35, nc47, nc59, nc60, nc61, nc73, nc74, nc214, nc215, nc1115, nc2230, nc3345, if_true, if_false, Int.reduceToNat]
      · simp (disch := omega) only [Hook_pleats_0, Hook_pleats_4, wr_id, ix_id, okx, if_pos, if_neg, Int.toNat_of_nonneg, bak_v, bak_n, wr_b01, wr_bt, b01_or, b01_0, b01_1, lc_lt0, lc_gt0, lc_eq0, wl_wr, wr_wr, wl_id, true_and, and_true, true_or, or_true, not_true_eq_false, not_false_eq_true, nc0, nc1, nc2, nc3, nc4, nc5, nc6, nc7, nc8, nc9, nc10, nc11, nc12, nc13, nc14, nc15, nc16, nc17, nc18, nc19, nc20, nc21, nc22, nc23, nc35, nc47, nc59, nc60, nc61, nc73, nc74, nc214, nc215, nc1115, nc2230, nc3345, if_true, if_false, Int.reduceToNat]
    rw [st]
    by_cases c6 : S 6 = 0
    · rw [if_pos c6]
      simp (disch := omega) only [Hook_pleats_12, Hook_pleats_22, wr_id, ix_id, okx, if_pos, if_neg, Int.toNat_of_nonneg, bak_v, bak_n, wr_b01, wr_bt, b01_or, b01_0, b01_1, lc_lt0, lc_gt0, lc_eq0, wl_wr, wr_wr, wl_id, true_and, and_true, true_or, or_true, not_true_eq_false, not_false_eq_true, nc0, nc1, nc2, nc3, nc4, nc5, nc6, nc7, nc8, nc9, nc10, nc11, nc12, nc13, nc14, nc15, nc16, nc17, nc18, nc19, nc20, nc21, nc22, nc23, nc35, nc47, nc59, nc60, nc61, nc73, nc74, nc214, nc215, nc1115, nc2230, nc3345, if_true, if_false, Int.reduceToNat, hc.k6, hc.r5, wk, wv.f11]
    · rw [if_neg c6]
      simp (disch := omega) only [Hook_pleats_12, Hook_pleats_25, wr_id, ix_id, okx, if_pos, if_neg, Int.toNat_of_nonneg, bak_v, bak_n, wr_b01, wr_bt, b01_or, b01_0, b01_1, lc_lt0, lc_gt0, lc_eq0, wl_wr, wr_wr, wl_id, true_and, and_true, true_or, or_true, not_true_eq_false, not_false_eq_true, nc0, nc1, nc2, nc3, nc4, nc5, nc6, nc7, nc8, nc9, nc10, nc11, nc12, nc13, nc14, nc15, nc16, nc17, nc18, nc19, nc20, nc21, nc22, nc23, nc35, nc47, nc59, nc60, nc61, nc73, nc74, nc214, nc215, nc1115, nc2230, nc3345, if_true, if_false, Int.reduceToNat, hc.k6, hc.r5, wk, wv.f11]
      rw [c_pleats_l hc wv hv g c6 cu (S 6).toNat 0 0 (-1) (by omega) (by omega) (by omega)]
  · rw [if_pos cu]
    simp (disch := omega) only [Hook_pleats_0, Hook_pleats_4, Hook_pleats_9, wr_id, ix_id, okx, if_pos, if_neg, Int.toNat_of_nonneg, bak_v, bak_n, wr_b01, wr_bt, b01_or, b01_0, b01_1, lc_lt0, lc_gt0, lc_eq0, wl_wr, wr_wr, wl_id, true_and, and_true, true_or, or_true, not_true_eq_false, not_false_eq_true, nc0, nc1, nc2, nc3, nc4, nc5, nc6, nc7, nc8, nc9, nc10, nc11, nc12, nc13, nc14, nc15, nc16, nc17, nc18, nc19, nc20, nc21, nc22, nc23, nc35, nc47, nc59, nc60, nc61, nc73, nc74, nc214, nc215, nc1115, nc2230, nc3345, if_true, if_false, Int.reduceToNat]
theorem cc_oneOut {d w : Nat} {h : Hp} {S G T rs rm nb : Int → Int} {n fk fp : Int} (cb : CB h w S G T rs rm nb n fk fp) (g : Gd S) {k e : Int} (rk : -2147483648 ≤ k ∧ k ≤ 2147483647) (re : -2147483648 ≤ e ∧ e ≤ 2147483647) : cal (d+4) m_Hook_oneOut [.inr (.inr (6)), .inl (k), .inl (e)] (h) = some (.inl (ansOne S k e), h) := by
  obtain ⟨hc, wv, rv, hv, -, -⟩ := cb.1
  have wk := wv.1.k
  have ga := g.a
  show EX (d+3) m_Hook_oneOut 0 [(0, .inr (.inr (6))), (1, .inl (k)), (2, .inl (e))] [] (h) = _
  unfold ansOne
  by_cases ck : 0 ≤ k ∧ k ≤ S 1
  · by_cases ce : e = 1 ∨ e = -1
    · rw [if_pos ⟨ck, ce⟩]
      have e1 := c_rightOut (d := d) wv rv g (k := k) (e := e) (by omega) ce
      by_cases c1 : e = 1
      · simp (disch := omega) only [Hook_oneOut_0, Hook_oneOut_4, Hook_oneOut_15, Hook_oneOut_28, Hook_oneOut_37, wr_id, ix_id, okx, if_pos, if_neg, Int.toNat_of_nonneg, bak_v, bak_n, wr_b01, wr_bt, b01_or, b01_0, b01_1, lc_lt0, lc_gt0, lc_eq0, wl_wr, wr_wr, wl_id, true_and, and_true, true_or, or_true, not_true_eq_false, not_false_eq_true, nc0, nc1, nc2, nc3, nc4, nc5, nc6, nc7, nc8, nc9, nc10, nc11, nc12, nc13, nc14, nc15, nc16, nc17, nc18, nc19, nc20, nc21, nc22, nc23, nc35, nc47, nc59, nc60, nc61, nc73, nc74, nc214, nc215, nc1115, nc2230, nc3345, if_true, if_false, Int.reduceToNat, hc.k6, hc.r5, wk, wv.f5, e1]
      · simp (disch := omega) only [Hook_oneOut_0, Hook_oneOut_4, Hook_oneOut_15, Hook_oneOut_20, Hook_oneOut_28, Hook_oneOut_37, wr_id, ix_id, okx, if_pos, if_neg, Int.toNat_of_nonneg, bak_v, bak_n, wr_b01, wr_bt, b01_or, b01_0, b01_1, lc_lt0, lc_gt0, lc_eq0, wl_wr, wr_wr, wl_id, true_and, and_true, true_or, or_true, not_true_eq_false, not_false_eq_true, nc0, nc1, nc2, nc3, nc4, nc5, nc6, nc7, nc8, nc9, nc10, nc11, nc12, nc13, nc14, nc15, nc16, nc17, nc18, nc19, nc20, nc21, nc22, nc23, nc35, nc47, nc59, nc60, nc61, nc73, nc74, nc214, nc215, nc1115, nc2230, nc3345, if_true, if_false, Int.reduceToNat, hc.k6, hc.r5, wk, wv.f5, e1]
    · rw [if_neg (fun z => ce z.2)]
      simp (disch := omega) only [Hook_oneOut_0, Hook_oneOut_4, Hook_oneOut_15, Hook_oneOut_20, Hook_oneOut_25, wr_id, ix_id, okx, if_pos, if_neg, Int.toNat_of_nonneg, bak_v, bak_n, wr_b01, wr_bt, b01_or, b01_0, b01_1, lc_lt0, lc_gt0, lc_eq0, wl_wr, wr_wr, wl_id, true_and, and_true, true_or, or_true, not_true_eq_false, not_false_eq_true, nc0, nc1, nc2, nc3, nc4, nc5, nc6, nc7, nc8, nc9, nc10, nc11, nc12, nc13, nc14, nc15, nc16, nc17, nc18, nc19, nc20, nc21, nc22, nc23, nc35, nc47, nc59, nc60, nc61, nc73, nc74, nc214, nc215, nc1115, nc2230, nc3345, if_true, if_false, Int.reduceToNat, hc.k6, hc.r5, wk, wv.f5]
  · rw [if_neg (fun z => ck z.1)]
    by_cases c1 : k < 0
    · simp (disch := omega) only [Hook_oneOut_0, Hook_oneOut_25, wr_id, ix_id, okx, if_pos, if_neg, Int.toNat_of_nonneg, bak_v, bak_n, wr_b01, wr_bt, b01_or, b01_0, b01_1, lc_lt0, lc_gt0, lc_eq0, wl_wr, wr_wr, wl_id, true_and, and_true, true_or, or_true, not_true_eq_false, not_false_eq_true, nc0, nc1, nc2, nc3, nc4, nc5, nc6, nc7, nc8, nc9, nc10, nc11, nc12, nc13, nc14, nc15, nc16, nc17, nc18, nc19, nc20, nc21, nc22, nc23, nc35, nc47, nc59, nc60, nc61, nc73, nc74, nc214, nc215, nc1115, nc2230, nc3345, if_true, if_false, Int.reduceToNat]
    · simp (disch := omega) only [Hook_oneOut_0, Hook_oneOut_4, Hook_oneOut_25, wr_id, ix_id, okx, if_pos, if_neg, Int.toNat_of_nonneg, bak_v, bak_n, wr_b01, wr_bt, b01_or, b01_0, b01_1, lc_lt0, lc_gt0, lc_eq0, wl_wr, wr_wr, wl_id, true_and, and_true, true_or, or_true, not_true_eq_false, not_false_eq_true, nc0, nc1, nc2, nc3, nc4, nc5, nc6, nc7, nc8, nc9, nc10, nc11, nc12, nc13, nc14, nc15, nc16, nc17, nc18, nc19, nc20, nc21, nc22, nc23, nc35, nc47, nc59, nc60, nc61, nc73, nc74, nc214, nc215, nc1115, nc2230, nc3345, if_true, if_false, Int.reduceToNat, hc.k6, hc.r5, wk, wv.f5]
theorem c_out_l {d w : Nat} {h : Hp} {S : Int → Int} (hc : CR h w) (wv : WV h w S) (rv : RV h w S) (g : Gd S) {e u : Int} (he : e = 1 ∨ e = -1) (hu : u = 0 ∨ u = 1) : ∀ (k : Nat) (i r m : Int), 1 ≤ i → i + k = S 1 + 1 → (0 ≤ m ∧ m ≤ 12) → EX (d+3) m_Hook_out 41 [(0, .inr (.inr (6))), (1, .inl (e)), (2, .inl (u)), (3, .inl (r)), (4, .inl (m)), (5, .inl (i))] [] (h) = some (.inl (if u = 0 then (am (fun k => rOut S k e) k i m r).2 else (am (fun k => rOut S k e) k i m r).1), h) := by
  have ga := g.a
  have wk := wv.1.k
  intro k
  induction k with
  | zero =>
    intro i r m h0 hi hm
    rw [Hook_out_41]
    rcases hu with q | q <;> subst q
    · simp (disch := omega) only [Hook_out_85, Hook_out_89, Hook_out_95, wr_id, ix_id, okx, if_pos, if_neg, Int.toNat_of_nonneg, bak_v, bak_n, wr_b01, wr_bt, b01_or, b01_0, b01_1, lc_lt0, lc_gt0, lc_eq0, wl_wr, wr_wr, wl_id, true_and, and_true, true_or, or_true, not_true_eq_false, not_false_eq_true, nc0, nc1, nc2, nc3, nc4, nc5, nc6, nc7, nc8, nc9, nc10, nc11, nc12, nc13, nc14, nc15, nc16, nc17, nc18, nc19, nc20, nc21, nc22, nc23, nc35, nc47, nc59, nc60, nc61, nc73, nc74, nc214, nc215, nc1115, nc2230, nc3345, if_true, if_false, Int.reduceToNat, hc.k6, hc.r5, wk, wv.f5, am]
    · simp (disch := omega) only [Hook_out_85, Hook_out_93, Hook_out_95, wr_id, ix_id, okx, if_pos, if_neg, Int.toNat_of_nonneg, bak_v, bak_n, wr_b01, wr_bt, b01_or, b01_0, b01_1, lc_lt0, lc_gt0, lc_eq0, wl_wr, wr_wr, wl_id, true_and, and_true, true_or, or_true, not_true_eq_false, not_false_eq_true, nc0, nc1, nc2, nc3, nc4, nc5, nc6, nc7, nc8, nc9, nc10, nc11, nc12, nc13, nc14, nc15, nc16, nc17, nc18, nc19, nc20, nc21, nc22, nc23, nc35, nc47, nc59, nc60, nc61, nc73, nc74, nc214, nc215, nc1115, nc2230, nc3345, if_true, if_false, Int.reduceToNat, hc.k6, hc.r5, wk, wv.f5, am]
  | succ k ih =>
    intro i r m h0 hi hm
    have e1 := c_rightOut (d := d) wv rv g (k := i) (e := e) (by omega) he
    have b1 := rOut_rng ga i e
    rw [Hook_out_41]
    simp only [am]
    by_cases c : m < rOut S i e
    · simp (disch := omega) only [Hook_out_53, Hook_out_63, Hook_out_72, Hook_out_79, wr_id, ix_id, okx, if_pos, if_neg, Int.toNat_of_nonneg, bak_v, bak_n, wr_b01, wr_bt, b01_or, b01_0, b01_1, lc_lt0, lc_gt0, lc_eq0, wl_wr, wr_wr, wl_id, true_and, and_true, true_or, or_true, not_true_eq_false, not_false_eq_true, nc0, nc1, nc2, nc3, nc4, nc5, nc6, nc7, nc8, nc9, nc10, nc11, nc12, nc13, nc14, nc15, nc16, nc17, nc18, nc19, nc20, nc21, nc22, nc23, nc35, nc47, nc59, nc60, nc61, nc73, nc74, nc214, nc215, nc1115, nc2230, nc3345, if_true, if_false, Int.reduceToNat, hc.k6, hc.r5, wk, wv.f5, e1]
      rw [ih (i + 1) _ _ (by omega) (by omega) (by omega)]
    · simp (disch := omega) only [Hook_out_53, Hook_out_63, Hook_out_79, wr_id, ix_id, okx, if_pos, if_neg, Int.toNat_of_nonneg, bak_v, bak_n, wr_b01, wr_bt, b01_or, b01_0, b01_1, lc_lt0, lc_gt0, lc_eq0, wl_wr, wr_wr, wl_id, true_and, and_true, true_or, or_true, not_true_eq_false, not_false_eq_true, nc0, nc1, nc2, nc3, nc4, nc5, nc6, nc7, nc8, nc9, nc10, nc11, nc12, nc13, nc14, nc15, nc16, nc17, nc18, nc19, nc20, nc21, nc22, nc23, nc35, nc47, nc59, nc60, nc61, nc73, nc74, nc214, nc215, nc1115, nc2230, nc3345, if_true, if_false, Int.reduceToNat, hc.k6, hc.r5, wk, wv.f5, e1]
      rw [ih (i + 1) _ _ (by omega) (by omega) (by omega)]
theorem cc_out {d w : Nat} {h : Hp} {S G T rs rm nb : Int → Int} {n fk fp : Int} (cb : CB h w S G T rs rm nb n fk fp) (g : Gd S) {e u : Int} (re : -2147483648 ≤ e ∧ e ≤ 2147483647) (ru : -2147483648 ≤ u ∧ u ≤ 2147483647) : cal (d+4) m_Hook_out [.inr (.inr (6)), .inl (e), .inl (u)] (h) = some (.inl (ansOut S e u), h) := by
  obtain ⟨hc, wv, rv, hv, -, -⟩ := cb.1
  have wk := wv.1.k
  have ga := g.a
  show EX (d+3) m_Hook_out 0 [(0, .inr (.inr (6))), (1, .inl (e)), (2, .inl (u))] [] (h) = _
  unfold ansOut
  by_cases cu : u = 0 ∨ u = 1
  · rw [if_neg (fun z => z cu)]
    have st : EX (d+3) m_Hook_out 0 [(0, .inr (.inr (6))), (1, .inl (e)), (2, .inl (u))] [] (h) = EX (d+3) m_Hook_out 12 [(0, .inr (.inr (6))), (1, .inl (e)), (2, .inl (u))] [] (h) := by
      rcases cu with q | q <;> subst q
      · simp (disch := omega) only [Hook_out_0, wr_id, ix_id, okx, if_pos, if_neg, Int.toNat_of_nonneg, bak_v, bak_n, wr_b01, wr_bt, b01_or, b01_0, b01_1, lc_lt0, lc_gt0, lc_eq0, wl_wr, wr_wr, wl_id, true_and, and_true, true_or, or_true, not_true_eq_false, not_false_eq_true, nc0, nc1, nc2, nc3, nc4, nc5, nc6, nc7, nc8, nc9, nc10, nc11, nc12, nc13, nc14, nc15, nc16, nc17, nc18, nc19, nc20, nc21, nc22, nc23, nc35, nc47, nc59, nc60, nc61, nc73, nc74, nc214, nc215, nc1115, nc2230, nc3345, if_true, if_false, Int.reduceToNat]
      · simp (disch := omega) only [Hook_out_0, Hook_out_4, wr_id, ix_id, okx, if_pos, if_neg, Int.toNat_of_nonneg, bak_v, bak_n, wr_b01, wr_bt, b01_or, b01_0, b01_1, lc_lt0, lc_gt0, lc_eq0, wl_wr, wr_wr, wl_id, true_and, and_true, true_or, or_true, not_true_eq_false, not_false_eq_true, nc0, nc1, nc2, nc3, nc4, nc5, nc6, nc7, nc8, nc9, nc10, nc11, nc12, nc13, nc14, nc15, nc16, nc17, nc18, nc19, nc20, nc21, nc22, nc23, nc35, nc47, nc59, nc60, nc61, nc73, nc74, nc214, nc215, nc1115, nc2230, nc3345, if_true, if_false, Int.reduceToNat]
    rw [st]
    by_cases ce : e = 1 ∨ e = -1
    · rw [if_neg (fun z => z ce)]
      have st2 : EX (d+3) m_Hook_out 12 [(0, .inr (.inr (6))), (1, .inl (e)), (2, .inl (u))] [] (h) = EX (d+3) m_Hook_out 25 [(0, .inr (.inr (6))), (1, .inl (e)), (2, .inl (u))] [] (h) := by
        rcases ce with q | q <;> subst q
        · simp (disch := omega) only [Hook_out_12, wr_id, ix_id, okx, if_pos, if_neg, Int.toNat_of_nonneg, bak_v, bak_n, wr_b01, wr_bt, b01_or, b01_0, b01_1, lc_lt0, lc_gt0, lc_eq0, wl_wr, wr_wr, wl_id, true_and, and_true, true_or, or_true, not_true_eq_false, not_false_eq_true, nc0, nc1, nc2, nc3, nc4, nc5, nc6, nc7, nc8, nc9, nc10, nc11, nc12, nc13, nc14, nc15, nc16, nc17, nc18, nc19, nc20, nc21, nc22, nc23, nc35, nc47, nc59, nc60, nc61, nc73, nc74, nc214, nc215, nc1115, nc2230, nc3345, if_true, if_false, Int.reduceToNat]
        · simp (disch := omega) only [Hook_out_12, Hook_out_17, wr_id, ix_id, okx, if_pos, if_neg, Int.toNat_of_nonneg, bak_v, bak_n, wr_b01, wr_bt, b01_or, b01_0, b01_1, lc_lt0, lc_gt0, lc_eq0, wl_wr, wr_wr, wl_id, true_and, and_true, true_or, or_true, not_true_eq_false, not_false_eq_true, nc0, nc1, nc2, nc3, nc4, nc5, nc6, nc7, nc8, nc9, nc10, nc11, nc12, nc13, nc14, nc15, nc16, nc17, nc18, nc19, nc20, nc21, nc22, nc23, nc35, nc47, nc59, nc60, nc61, nc73, nc74, nc214, nc215, nc1115, nc2230, nc3345, if_true, if_false, Int.reduceToNat]
      have e1 := c_rightOut (d := d) wv rv g (k := 0) (e := e) (by omega) ce
      have b1 := rOut_rng ga 0 e
      rw [st2]
      simp (disch := omega) only [Hook_out_25, Hook_out_36, wr_id, ix_id, okx, if_pos, if_neg, Int.toNat_of_nonneg, bak_v, bak_n, wr_b01, wr_bt, b01_or, b01_0, b01_1, lc_lt0, lc_gt0, lc_eq0, wl_wr, wr_wr, wl_id, true_and, and_true, true_or, or_true, not_true_eq_false, not_false_eq_true, nc0, nc1, nc2, nc3, nc4, nc5, nc6, nc7, nc8, nc9, nc10, nc11, nc12, nc13, nc14, nc15, nc16, nc17, nc18, nc19, nc20, nc21, nc22, nc23, nc35, nc47, nc59, nc60, nc61, nc73, nc74, nc214, nc215, nc1115, nc2230, nc3345, if_true, if_false, Int.reduceToNat, hc.k6, hc.r5, wk, e1]
      rw [c_out_l hc wv rv g ce cu (S 1).toNat 1 0 _ (by omega) (by omega) (by omega)]
    · rw [if_pos ce]
      simp (disch := omega) only [Hook_out_12, Hook_out_17, Hook_out_22, wr_id, ix_id, okx, if_pos, if_neg, Int.toNat_of_nonneg, bak_v, bak_n, wr_b01, wr_bt, b01_or, b01_0, b01_1, lc_lt0, lc_gt0, lc_eq0, wl_wr, wr_wr, wl_id, true_and, and_true, true_or, or_true, not_true_eq_false, not_false_eq_true, nc0, nc1, nc2, nc3, nc4, nc5, nc6, nc7, nc8, nc9, nc10, nc11, nc12, nc13, nc14, nc15, nc16, nc17, nc18, nc19, nc20, nc21, nc22, nc23, nc35, nc47, nc59, nc60, nc61, nc73, nc74, nc214, nc215, nc1115, nc2230, nc3345, if_true, if_false, Int.reduceToNat]
  · rw [if_pos cu]
    simp (disch := omega) only [Hook_out_0, Hook_out_4, Hook_out_9, wr_id, ix_id, okx, if_pos, if_neg, Int.toNat_of_nonneg, bak_v, bak_n, wr_b01, wr_bt, b01_or, b01_0, b01_1, lc_lt0, lc_gt0, lc_eq0, wl_wr, wr_wr, wl_id, true_and, and_true, true_or, or_true, not_true_eq_false, not_false_eq_true, nc0, nc1, nc2, nc3, nc4, nc5, nc6, nc7, nc8, nc9, nc10, nc11, nc12, nc13, nc14, nc15, nc16, nc17, nc18, nc19, nc20, nc21, nc22, nc23, nc35, nc47, nc59, nc60, nc61, nc73, nc74, nc214, nc215, nc1115, nc2230, nc3345, if_true, if_false, Int.reduceToNat]
theorem cc_count {d w : Nat} {h : Hp} {S G T rs rm nb : Int → Int} {n fk fp : Int} (cb : CB h w S G T rs rm nb n fk fp) (g : Gd S) {u : Int} (ru : -2147483648 ≤ u ∧ u ≤ 2147483647) : cal (d+2) m_Hook_count [.inr (.inr (6)), .inl (u)] (h) = some (.inl (ansCount S n u), h) := by
  obtain ⟨hc, wv, rv, hv, hs, -⟩ := cb.1
  have b1 := cb.2.1.2.2.1.1
  have wk := wv.1.k
  have ha := hv.1
  have hk := hs.1.1
  have h2 := hs.2.1
  have g10 := g.1.2.2.2.2.2.2.2.2.1
  have e2 := c_bitCount (d := d) (h := h) (v := S 10) (by omega)
  rw [brk_eq g.1] at e2
  show EX (d+1) m_Hook_count 0 [(0, .inr (.inr (6))), (1, .inl (u))] [] (h) = _
  unfold ansCount
  by_cases c0 : u = 0
  · rw [if_pos c0]; simp (disch := omega) only [Hook_count_0, Hook_count_64, wr_id, ix_id, okx, if_pos, if_neg, Int.toNat_of_nonneg, bak_v, bak_n, wr_b01, wr_bt, b01_or, b01_0, b01_1, lc_lt0, lc_gt0, lc_eq0, wl_wr, wr_wr, wl_id, true_and, and_true, true_or, or_true, not_true_eq_false, not_false_eq_true, nc0, nc1, nc2, nc3, nc4, nc5, nc6, nc7, nc8, nc9, nc10, nc11, nc12, nc13, nc14, nc15, nc16, nc17, nc18, nc19, nc20, nc21, nc22, nc23, nc35, nc47, nc59, nc60, nc61, nc73, nc74, nc214, nc215, nc1115, nc2230, nc3345, if_true, if_false, Int.reduceToNat, hc.k6, hc.r5, wk, wv.f5]
  rw [if_neg c0]
  by_cases c1 : u = 1
  · rw [if_pos c1]; simp (disch := omega) only [Hook_count_0, Hook_count_72, wr_id, ix_id, okx, if_pos, if_neg, Int.toNat_of_nonneg, bak_v, bak_n, wr_b01, wr_bt, b01_or, b01_0, b01_1, lc_lt0, lc_gt0, lc_eq0, wl_wr, wr_wr, wl_id, true_and, and_true, true_or, or_true, not_true_eq_false, not_false_eq_true, nc0, nc1, nc2, nc3, nc4, nc5, nc6, nc7, nc8, nc9, nc10, nc11, nc12, nc13, nc14, nc15, nc16, nc17, nc18, nc19, nc20, nc21, nc22, nc23, nc35, nc47, nc59, nc60, nc61, nc73, nc74, nc214, nc215, nc1115, nc2230, nc3345, if_true, if_false, Int.reduceToNat, hc.k6, hc.r5, wk, wv.f6]
  rw [if_neg c1]
  by_cases c2 : u = 2
  · rw [if_pos c2]; simp (disch := omega) only [Hook_count_0, Hook_count_80, Hook_count_90, wr_id, ix_id, okx, if_pos, if_neg, Int.toNat_of_nonneg, bak_v, bak_n, wr_b01, wr_bt, b01_or, b01_0, b01_1, lc_lt0, lc_gt0, lc_eq0, wl_wr, wr_wr, wl_id, true_and, and_true, true_or, or_true, not_true_eq_false, not_false_eq_true, nc0, nc1, nc2, nc3, nc4, nc5, nc6, nc7, nc8, nc9, nc10, nc11, nc12, nc13, nc14, nc15, nc16, nc17, nc18, nc19, nc20, nc21, nc22, nc23, nc35, nc47, nc59, nc60, nc61, nc73, nc74, nc214, nc215, nc1115, nc2230, nc3345, if_true, if_false, Int.reduceToNat, hc.k6, hc.r5, wk, wv.f7, e2]
  rw [if_neg c2]
  by_cases c3 : u = 3
  · rw [if_pos c3]; simp (disch := omega) only [Hook_count_0, Hook_count_91, wr_id, ix_id, okx, if_pos, if_neg, Int.toNat_of_nonneg, bak_v, bak_n, wr_b01, wr_bt, b01_or, b01_0, b01_1, lc_lt0, lc_gt0, lc_eq0, wl_wr, wr_wr, wl_id, true_and, and_true, true_or, or_true, not_true_eq_false, not_false_eq_true, nc0, nc1, nc2, nc3, nc4, nc5, nc6, nc7, nc8, nc9, nc10, nc11, nc12, nc13, nc14, nc15, nc16, nc17, nc18, nc19, nc20, nc21, nc22, nc23, nc35, nc47, nc59, nc60, nc61, nc73, nc74, nc214, nc215, nc1115, nc2230, nc3345, if_true, if_false, Int.reduceToNat, hc.k6, hc.r7, ha.k, hv.f2]
  rw [if_neg c3]
  by_cases c4 : u = 4
  · rw [if_pos c4]; simp (disch := omega) only [Hook_count_0, Hook_count_99, wr_id, ix_id, okx, if_pos, if_neg, Int.toNat_of_nonneg, bak_v, bak_n, wr_b01, wr_bt, b01_or, b01_0, b01_1, lc_lt0, lc_gt0, lc_eq0, wl_wr, wr_wr, wl_id, true_and, and_true, true_or, or_true, not_true_eq_false, not_false_eq_true, nc0, nc1, nc2, nc3, nc4, nc5, nc6, nc7, nc8, nc9, nc10, nc11, nc12, nc13, nc14, nc15, nc16, nc17, nc18, nc19, nc20, nc21, nc22, nc23, nc35, nc47, nc59, nc60, nc61, nc73, nc74, nc214, nc215, nc1115, nc2230, nc3345, if_true, if_false, Int.reduceToNat, hc.k6, hc.r7, ha.k, hv.f1]
  rw [if_neg c4]
  by_cases c5 : u = 5
  · rw [if_pos c5]; simp (disch := omega) only [Hook_count_0, Hook_count_107, wr_id, ix_id, okx, if_pos, if_neg, Int.toNat_of_nonneg, bak_v, bak_n, wr_b01, wr_bt, b01_or, b01_0, b01_1, lc_lt0, lc_gt0, lc_eq0, wl_wr, wr_wr, wl_id, true_and, and_true, true_or, or_true, not_true_eq_false, not_false_eq_true, nc0, nc1, nc2, nc3, nc4, nc5, nc6, nc7, nc8, nc9, nc10, nc11, nc12, nc13, nc14, nc15, nc16, nc17, nc18, nc19, nc20, nc21, nc22, nc23, nc35, nc47, nc59, nc60, nc61, nc73, nc74, nc214, nc215, nc1115, nc2230, nc3345, if_true, if_false, Int.reduceToNat, hc.k6, hc.r9, hk, h2]
  rw [if_neg c5]
  by_cases c6 : u = 6
  · rw [if_pos c6]; simp (disch := omega) only [Hook_count_0, Hook_count_115, wr_id, ix_id, okx, if_pos, if_neg, Int.toNat_of_nonneg, bak_v, bak_n, wr_b01, wr_bt, b01_or, b01_0, b01_1, lc_lt0, lc_gt0, lc_eq0, wl_wr, wr_wr, wl_id, true_and, and_true, true_or, or_true, not_true_eq_false, not_false_eq_true, nc0, nc1, nc2, nc3, nc4, nc5, nc6, nc7, nc8, nc9, nc10, nc11, nc12, nc13, nc14, nc15, nc16, nc17, nc18, nc19, nc20, nc21, nc22, nc23, nc35, nc47, nc59, nc60, nc61, nc73, nc74, nc214, nc215, nc1115, nc2230, nc3345, if_true, if_false, Int.reduceToNat, hc.k6, hc.r5, wk, wv.f8]
  rw [if_neg c6]
  by_cases c7 : u = 7
  · rw [if_pos c7]; simp (disch := omega) only [Hook_count_0, Hook_count_123, wr_id, ix_id, okx, if_pos, if_neg, Int.toNat_of_nonneg, bak_v, bak_n, wr_b01, wr_bt, b01_or, b01_0, b01_1, lc_lt0, lc_gt0, lc_eq0, wl_wr, wr_wr, wl_id, true_and, and_true, true_or, or_true, not_true_eq_false, not_false_eq_true, nc0, nc1, nc2, nc3, nc4, nc5, nc6, nc7, nc8, nc9, nc10, nc11, nc12, nc13, nc14, nc15, nc16, nc17, nc18, nc19, nc20, nc21, nc22, nc23, nc35, nc47, nc59, nc60, nc61, nc73, nc74, nc214, nc215, nc1115, nc2230, nc3345, if_true, if_false, Int.reduceToNat, hc.k6, hc.r5, wk, wv.f9]
  rw [if_neg c7]
  by_cases c8 : u = 8
  · rw [if_pos c8]; simp (disch := omega) only [Hook_count_0, Hook_count_131, wr_id, ix_id, okx, if_pos, if_neg, Int.toNat_of_nonneg, bak_v, bak_n, wr_b01, wr_bt, b01_or, b01_0, b01_1, lc_lt0, lc_gt0, lc_eq0, wl_wr, wr_wr, wl_id, true_and, and_true, true_or, or_true, not_true_eq_false, not_false_eq_true, nc0, nc1, nc2, nc3, nc4, nc5, nc6, nc7, nc8, nc9, nc10, nc11, nc12, nc13, nc14, nc15, nc16, nc17, nc18, nc19, nc20, nc21, nc22, nc23, nc35, nc47, nc59, nc60, nc61, nc73, nc74, nc214, nc215, nc1115, nc2230, nc3345, if_true, if_false, Int.reduceToNat, hc.k6, hc.r5, wk, wv.f10]
  rw [if_neg c8]
  by_cases c9 : u = 9
  · rw [if_pos c9]; simp (disch := omega) only [Hook_count_0, Hook_count_139, wr_id, ix_id, okx, if_pos, if_neg, Int.toNat_of_nonneg, bak_v, bak_n, wr_b01, wr_bt, b01_or, b01_0, b01_1, lc_lt0, lc_gt0, lc_eq0, wl_wr, wr_wr, wl_id, true_and, and_true, true_or, or_true, not_true_eq_false, not_false_eq_true, nc0, nc1, nc2, nc3, nc4, nc5, nc6, nc7, nc8, nc9, nc10, nc11, nc12, nc13, nc14, nc15, nc16, nc17, nc18, nc19, nc20, nc21, nc22, nc23, nc35, nc47, nc59, nc60, nc61, nc73, nc74, nc214, nc215, nc1115, nc2230, nc3345, if_true, if_false, Int.reduceToNat, hc.k6, hc.r5, wk, wv.f11]
  rw [if_neg c9]
  by_cases c10 : u = 10
  · rw [if_pos c10]; simp (disch := omega) only [Hook_count_0, Hook_count_147, wr_id, ix_id, okx, if_pos, if_neg, Int.toNat_of_nonneg, bak_v, bak_n, wr_b01, wr_bt, b01_or, b01_0, b01_1, lc_lt0, lc_gt0, lc_eq0, wl_wr, wr_wr, wl_id, true_and, and_true, true_or, or_true, not_true_eq_false, not_false_eq_true, nc0, nc1, nc2, nc3, nc4, nc5, nc6, nc7, nc8, nc9, nc10, nc11, nc12, nc13, nc14, nc15, nc16, nc17, nc18, nc19, nc20, nc21, nc22, nc23, nc35, nc47, nc59, nc60, nc61, nc73, nc74, nc214, nc215, nc1115, nc2230, nc3345, if_true, if_false, Int.reduceToNat, hc.k6, b1]
  rw [if_neg c10]
  by_cases c11 : u = 11
  · rw [if_pos c11]; simp (disch := omega) only [Hook_count_0, Hook_count_152, wr_id, ix_id, okx, if_pos, if_neg, Int.toNat_of_nonneg, bak_v, bak_n, wr_b01, wr_bt, b01_or, b01_0, b01_1, lc_lt0, lc_gt0, lc_eq0, wl_wr, wr_wr, wl_id, true_and, and_true, true_or, or_true, not_true_eq_false, not_false_eq_true, nc0, nc1, nc2, nc3, nc4, nc5, nc6, nc7, nc8, nc9, nc10, nc11, nc12, nc13, nc14, nc15, nc16, nc17, nc18, nc19, nc20, nc21, nc22, nc23, nc35, nc47, nc59, nc60, nc61, nc73, nc74, nc214, nc215, nc1115, nc2230, nc3345, if_true, if_false, Int.reduceToNat, hc.k6, hc.r5, wk, wv.f14]
  rw [if_neg c11]
  simp (disch := omega) only [Hook_count_0, Hook_count_160, wr_id, ix_id, okx, if_pos, if_neg, Int.toNat_of_nonneg, bak_v, bak_n, wr_b01, wr_bt, b01_or, b01_0, b01_1, lc_lt0, lc_gt0, lc_eq0, wl_wr, wr_wr, wl_id, true_and, and_true, true_or, or_true, not_true_eq_false, not_false_eq_true, nc0, nc1, nc2, nc3, nc4, nc5, nc6, nc7, nc8, nc9, nc10, nc11, nc12, nc13, nc14, nc15, nc16, nc17, nc18, nc19, nc20, nc21, nc22, nc23, nc35, nc47, nc59, nc60, nc61, nc73, nc74, nc214, nc215, nc1115, nc2230, nc3345, if_true, if_false, Int.reduceToNat]
