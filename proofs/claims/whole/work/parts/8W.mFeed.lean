/-! bytes of a word; the model's feed and window -/
def byt (v s : Int) : Int := v / 2 ^ s.toNat % 256
def sb (t : Int) : Int := if t < 128 then t else t - 256
theorem byt_rng (v s : Int) : 0 ≤ byt v s ∧ byt v s ≤ 255 := by unfold byt; omega
theorem bI2b_s (a : Int) : bI2b a = a.bmod 256 := by
  unfold bI2b
  rw [Int32.toInt_toInt8, oi_toInt]
  unfold wr
  exact Int.bmod_bmod_of_dvd (by decide)
theorem bmod_sb (a : Int) : a.bmod 256 = sb (a % 256) := by
  unfold sb
  rw [Int.bmod_def]
  omega
theorem sb_idem (t : Int) (h : 0 ≤ t ∧ t ≤ 255) : (sb t).bmod 256 = sb t := by
  rw [bmod_sb]
  unfold sb
  split
  · rw [if_pos (by omega)]; omega
  · rw [if_neg (by omega)]; omega
theorem byt_mod {v s : Int} (hs : s = 0 ∨ s = 8 ∨ s = 16 ∨ s = 24) : byt (v % 4294967296) s = byt v s := by
  unfold byt
  rcases hs with e | e | e | e <;> subst e <;> simp only [Int.reduceToNat, Int.reducePow] <;> omega
theorem byt_wr {v s : Int} (hs : s = 0 ∨ s = 8 ∨ s = 16 ∨ s = 24) : byt (wr v) s = byt v s := by
  rw [← byt_mod hs, ← byt_mod (v := v) hs]
  congr 1
  unfold wr
  exact Int.bmod_emod
theorem bAnd255 (y : Int) : bAnd y 255 = y % 256 := by
  unfold bAnd
  have e : (Int32.ofInt y &&& Int32.ofInt 255).toBitVec.toNat = (y % 256).toNat := by
    rw [Int32.toBitVec_and, BitVec.toNat_and]
    have e1 : (Int32.ofInt y).toBitVec.toNat = (y % 4294967296).toNat := BitVec.toNat_ofInt ..
    have e2 : (Int32.ofInt 255).toBitVec.toNat = 2 ^ 8 - 1 := by decide +kernel
    rw [e1, e2, Nat.and_two_pow_sub_one_eq_mod]
    omega
  show (Int32.ofInt y &&& Int32.ofInt 255).toBitVec.toInt = _
  rw [BitVec.toInt_eq_toNat_of_lt (by rw [e]; omega), e]
  omega
theorem shr_k32 : ∀ x, x < 32 → (((nI x) &&& 31).toBitVec.smod 32).toNat = x := by decide +kernel
theorem bShr_s {y k : Int} (h0 : 0 ≤ k) (h1 : k < 32) : bShr y k = wr y / 2 ^ k.toNat := by
  obtain ⟨x, rfl⟩ := Int.eq_ofNat_of_zero_le h0
  unfold bShr
  rw [oi_nI]
  show ((Int32.ofInt y).toBitVec.sshiftRight (((nI x) &&& 31).toBitVec.smod 32).toNat).toInt = _
  rw [shr_k32 x (by omega), BitVec.toInt_sshiftRight, Int.shiftRight_eq_div_pow, Int.toNat_natCast, ← oi_toInt]
  norm_cast
theorem m_byt {v s : Int} (hs : s = 0 ∨ s = 8 ∨ s = 16 ∨ s = 24) : bAnd (bShr v s) 255 = byt v s := by
  rw [bAnd255, bShr_s (by omega) (by omega), ← byt_wr hs]
  rfl
theorem c_byt {v s : Int} (hs : s = 0 ∨ s = 8 ∨ s = 16 ∨ s = 24) : bI2b (bI2b (bUshr v s)) = sb (byt v s) := by
  have br := byt_rng v s
  have e : (bUshr v s) % 256 = byt v s := by
    obtain ⟨x, hx⟩ := Int.eq_ofNat_of_zero_le (show 0 ≤ s by omega)
    have hn : (v % 4294967296).toNat < 4294967296 := by omega
    have hc : ((v % 4294967296).toNat : Int) = v % 4294967296 := Int.toNat_of_nonneg (Int.emod_nonneg _ (by decide))
    have e1 : bUshr v s = (nI ((v % 4294967296).toNat / 2 ^ x)).toInt := by
      unfold bUshr
      rw [oi_mod v, hx, oi_nI, pk_ushrN (by omega) (nI x) x (ush_k x (by omega))]
    have e2 : (nI ((v % 4294967296).toNat / 2 ^ x)).toInt = wr (((v % 4294967296).toNat / 2 ^ x : Nat) : Int) := by rw [← oi_nI, oi_toInt]
    rw [e1, e2, ← byt_mod hs]
    unfold byt wr
    have e3 : (((v % 4294967296).toNat / 2 ^ x : Nat) : Int) = v % 4294967296 / 2 ^ s.toNat := by
      rw [Int.natCast_ediv, hc, Int.natCast_pow, hx, Int.toNat_natCast]
      rfl
    rw [e3]
    have := Int.emod_emod_of_dvd (Int.bmod (v % 4294967296 / 2 ^ s.toNat) 4294967296) (show (256 : Int) ∣ 4294967296 by decide)
    have h2 : Int.bmod (v % 4294967296 / 2 ^ s.toNat) 4294967296 % 4294967296 = (v % 4294967296 / 2 ^ s.toNat) % 4294967296 := Int.bmod_emod
    rw [← this, h2]
    exact Int.emod_emod_of_dvd _ (by decide)
  rw [bI2b_s (bUshr v s), bmod_sb, e, bI2b_s, sb_idem _ br]
/-- the tape with twenty bytes more -/
def wdA (a b c d e : Int) (j : Int) : Int := if j < 4 then a else if j < 8 then b else if j < 12 then c else if j < 16 then d else e
def fdT (T w : Int → Int) (n : Int) (k : Int) : Int → Int := fun j => if n ≤ j ∧ j < n + k then byt (w (j - n)) (24 - 8 * ((j - n) % 4)) else T j
theorem fdT_ok {T w : Int → Int} {n k : Int} (h : tOk T) : tOk (fdT T w n k) := fun j => by
  unfold fdT
  split
  · exact byt_rng _ _
  · exact h j
theorem fdT_0 (T w : Int → Int) (n : Int) : fdT T w n 0 = T := by
  funext j
  unfold fdT
  rw [if_neg (by omega)]
theorem fdT_s (T w : Int → Int) {n k : Int} (hk : 0 ≤ k) : fdT T w n (k + 1) = up (fdT T w n k) (n + k) (byt (w k) (24 - 8 * (k % 4))) := by
  funext j
  unfold up
  by_cases c : j = n + k
  · subst c
    rw [if_pos rfl]
    unfold fdT
    rw [if_pos (by omega), show n + k - n = k by omega]
  · rw [if_neg c]
    unfold fdT
    by_cases c2 : n ≤ j ∧ j < n + k
    · rw [if_pos c2, if_pos (by omega)]
    · rw [if_neg c2, if_neg (by omega)]
theorem m_feed_l {d : Nat} {a b c e f n : Int} (hn : 0 ≤ n ∧ n ≤ 880) {T : Int → Int} : ∀ k, 0 ≤ k → k ≤ 20 → ∀ h, MR h → (∀ j : Nat, hI h 75 j = fdT T (wdA a b c e f) n k j) → hI h 72 5 = n + k → ∃ h', EX (d) m_Mod_feed 24 [(0, .inr (.inr (72))), (1, .inl (a)), (2, .inl (b)), (3, .inl (c)), (4, .inl (e)), (5, .inl (f)), (6, .inl (k))] [] (h) = some (.inl (n + 20), h') ∧ (∀ j : Nat, hI h' 75 j = fdT T (wdA a b c e f) n 20 j) ∧ hI h' 72 5 = n + 20 ∧ Fr (fun q k => q = 75 ∨ (q = 72 ∧ k = 5)) h h' := by
  refine up_ind (hi := 20) ?_ ?_
  · intro k hk k0 k1 h hm tp h5
    have ek : k = 20 := by omega
    subst ek
    refine ⟨h, ?_, tp, h5, Fr.rf⟩
    rw [Mod_feed_24]
    simp (disch := omega) only [Mod_feed_121, wr_id, ix_id, okx, if_pos, if_neg, Int.toNat_of_nonneg, bak_v, bak_n, wr_b01, wr_bt, b01_or, b01_0, b01_1, lc_lt0, lc_gt0, lc_eq0, wl_wr, wr_wr, wl_id, true_and, and_true, true_or, or_true, not_true_eq_false, not_false_eq_true, nc0, nc1, nc2, nc3, nc4, nc5, nc6, nc7, nc8, nc9, nc10, nc11, nc12, nc13, nc14, nc15, nc16, nc17, nc18, nc19, nc20, nc21, nc22, nc23, nc35, nc47, nc59, nc60, nc61, nc73, nc74, nc214, nc215, nc1115, nc2230, nc3345, if_true, if_false, Int.reduceToNat, hm.k, h5]
  · intro k hk ih k0 k1 h hm tp h5
    have hs : 24 - 8 * (k % 4) = 0 ∨ 24 - 8 * (k % 4) = 8 ∨ 24 - 8 * (k % 4) = 16 ∨ 24 - 8 * (k % 4) = 24 := by omega
    have er : bRem k 4 = k % 4 := bRem_e (by omega) (by omega)
    have f0 : Fr (fun q k => q = 75 ∨ (q = 72 ∧ k = 5)) h (pI (pI h 75 (n + k).toNat (byt (wdA a b c e f k) (24 - 8 * (k % 4)))) 72 5 (n + (k + 1))) := Fr.pI (Fr.pI Fr.rf (Or.inl rfl)) (Or.inr ⟨rfl, rfl⟩)
    obtain ⟨h2, e2, k2, l2, f2⟩ := ih (by omega) (by omega) _ (hm.fr f0) (fun j => by
      rw [hI_pI, if_neg (by omega), fdT_s _ _ k0]
      exact up_row tp (by omega) j) (by rw [hI_pI, if_pos ⟨rfl, rfl⟩])
    refine ⟨h2, ?_, k2, l2, f0.tr f2⟩
    have st : EX (d) m_Mod_feed 24 [(0, .inr (.inr (72))), (1, .inl (a)), (2, .inl (b)), (3, .inl (c)), (4, .inl (e)), (5, .inl (f)), (6, .inl (k))] [] (h) = EX (d) m_Mod_feed 77 [(0, .inr (.inr (72))), (1, .inl (a)), (2, .inl (b)), (3, .inl (c)), (4, .inl (e)), (5, .inl (f)), (6, .inl (k))] [.inl (wdA a b c e f k)] (h) := by
      rw [Mod_feed_24]
      unfold wdA
      by_cases q4 : k < 4
      · rw [if_pos q4]
        simp (disch := omega) only [Mod_feed_31, Mod_feed_37, wr_id, ix_id, okx, if_pos, if_neg, Int.toNat_of_nonneg, bak_v, bak_n, wr_b01, wr_bt, b01_or, b01_0, b01_1, lc_lt0, lc_gt0, lc_eq0, wl_wr, wr_wr, wl_id, true_and, and_true, true_or, or_true, not_true_eq_false, not_false_eq_true, nc0, nc1, nc2, nc3, nc4, nc5, nc6, nc7, nc8, nc9, nc10, nc11, nc12, nc13, nc14, nc15, nc16, nc17, nc18, nc19, nc20, nc21, nc22, nc23, nc35, nc47, nc59, nc60, nc61, nc73, nc74, nc214, nc215, nc1115, nc2230, nc3345, if_true, if_false, Int.reduceToNat]
      · rw [if_neg q4]
        by_cases q8 : k < 8
        · rw [if_pos q8]
          simp (disch := omega) only [Mod_feed_31, Mod_feed_41, Mod_feed_48, wr_id, ix_id, okx, if_pos, if_neg, Int.toNat_of_nonneg, bak_v, bak_n, wr_b01, wr_bt, b01_or, b01_0, b01_1, lc_lt0, lc_gt0, lc_eq0, wl_wr, wr_wr, wl_id, true_and, and_true, true_or, or_true, not_true_eq_false, not_false_eq_true, nc0, nc1, nc2, nc3, nc4, nc5, nc6, nc7, nc8, nc9, nc10, nc11, nc12, nc13, nc14, nc15, nc16, nc17, nc18, nc19, nc20, nc21, nc22, nc23, nc35, nc47, nc59, nc60, nc61, nc73, nc74, nc214, nc215, nc1115, nc2230, nc3345, if_true, if_false, Int.reduceToNat]
        · rw [if_neg q8]
          by_cases q12 : k < 12
          · rw [if_pos q12]
            simp (disch := omega) only [Mod_feed_31, Mod_feed_41, Mod_feed_52, Mod_feed_59, wr_id, ix_id, okx, if_pos, if_neg, Int.toNat_of_nonneg, bak_v, bak_n, wr_b01, wr_bt, b01_or, b01_0, b01_1, lc_lt0, lc_gt0, lc_eq0, wl_wr, wr_wr, wl_id, true_and, and_true, true_or, or_true, not_true_eq_false, not_false_eq_true, nc0, nc1, nc2, nc3, nc4, nc5, nc6, nc7, nc8, nc9, nc10, nc11, nc12, nc13, nc14, nc15, nc16, nc17, nc18, nc19, nc20, nc21, nc22, nc23, nc35, nc47, nc59, nc60, nc61, nc73, nc74, nc214, nc215, nc1115, nc2230, nc3345, if_true, if_false, Int.reduceToNat]
          · rw [if_neg q12]
            by_cases q16 : k < 16
            · rw [if_pos q16]
              simp (disch := omega) only [Mod_feed_31, Mod_feed_41, Mod_feed_52, Mod_feed_63, Mod_feed_70, wr_id, ix_id, okx, if_pos, if_neg, Int.toNat_of_nonneg, bak_v, bak_n, wr_b01, wr_bt, b01_or, b01_0, b01_1, lc_lt0, lc_gt0, lc_eq0, wl_wr, wr_wr, wl_id, true_and, and_true, true_or, or_true, not_true_eq_false, not_false_eq_true, nc0, nc1, nc2, nc3, nc4, nc5, nc6, nc7, nc8, nc9, nc10, nc11, nc12, nc13, nc14, nc15, nc16, nc17, nc18, nc19, nc20, nc21, nc22, nc23, nc35, nc47, nc59, nc60, nc61, nc73, nc74, nc214, nc215, nc1115, nc2230, nc3345, if_true, if_false, Int.reduceToNat]
            · rw [if_neg q16]
              simp (disch := omega) only [Mod_feed_31, Mod_feed_41, Mod_feed_52, Mod_feed_63, Mod_feed_75, wr_id, ix_id, okx, if_pos, if_neg, Int.toNat_of_nonneg, bak_v, bak_n, wr_b01, wr_bt, b01_or, b01_0, b01_1, lc_lt0, lc_gt0, lc_eq0, wl_wr, wr_wr, wl_id, true_and, and_true, true_or, or_true, not_true_eq_false, not_false_eq_true, nc0, nc1, nc2, nc3, nc4, nc5, nc6, nc7, nc8, nc9, nc10, nc11, nc12, nc13, nc14, nc15, nc16, nc17, nc18, nc19, nc20, nc21, nc22, nc23, nc35, nc47, nc59, nc60, nc61, nc73, nc74, nc214, nc215, nc1115, nc2230, nc3345, if_true, if_false, Int.reduceToNat]
    refine st.trans ?_
    have mb := m_byt (v := wdA a b c e f k) hs
    simp (disch := omega) only [Mod_feed_77, wr_id, ix_id, okx, if_pos, if_neg, Int.toNat_of_nonneg, bak_v, bak_n, wr_b01, wr_bt, b01_or, b01_0, b01_1, lc_lt0, lc_gt0, lc_eq0, wl_wr, wr_wr, wl_id, true_and, and_true, true_or, or_true, not_true_eq_false, not_false_eq_true, nc0, nc1, nc2, nc3, nc4, nc5, nc6, nc7, nc8, nc9, nc10, nc11, nc12, nc13, nc14, nc15, nc16, nc17, nc18, nc19, nc20, nc21, nc22, nc23, nc35, nc47, nc59, nc60, nc61, nc73, nc74, nc214, nc215, nc1115, nc2230, nc3345, if_true, if_false, Int.reduceToNat, hm.k, hm.r1, hm.r2, hm.r3, hm.r4, hm.r15, hm.r16, hm.r19, hm.r23, hm.r24, hm.r25, hm.r26, hm.r29, hm.r30, hm.r31, hm.r33, hm.r34, hm.r35, hm.k73, hm.k74, hm.k75, hm.k76, hm.k77, hm.k78, hm.k79, hm.k80, hm.k81, hm.k82, hm.k83, hm.k84, hm.k85, hm.k86, hm.k87, hm.k88, hm.k89, hm.n73, hm.n74, hm.n75, hm.n76, hm.n77, hm.n78, hm.n79, hm.n80, hm.n81, hm.n82, hm.n83, hm.n84, hm.n85, hm.n86, hm.n87, hm.n88, hm.n89, h5, er, mb]
    simp (disch := omega) only [Mod_feed_105, Mod_feed_115, wr_id, ix_id, okx, if_pos, if_neg, Int.toNat_of_nonneg, bak_v, bak_n, wr_b01, wr_bt, b01_or, b01_0, b01_1, lc_lt0, lc_gt0, lc_eq0, wl_wr, wr_wr, wl_id, true_and, and_true, true_or, or_true, not_true_eq_false, not_false_eq_true, nc0, nc1, nc2, nc3, nc4, nc5, nc6, nc7, nc8, nc9, nc10, nc11, nc12, nc13, nc14, nc15, nc16, nc17, nc18, nc19, nc20, nc21, nc22, nc23, nc35, nc47, nc59, nc60, nc61, nc73, nc74, nc214, nc215, nc1115, nc2230, nc3345, if_true, if_false, Int.reduceToNat, sK_pI, hm.k, hI_pI, h5]
    rw [show n + k + 1 = n + (k + 1) by omega]
    exact e2
def ansFeed (n : Int) : Int := if 880 < n then -5 else n + 20
theorem mm_feed {d : Nat} {h : Hp} {S G T rs rm nb : Int → Int} {n fk fp : Int} (mb : MB h S G T rs rm nb n fk fp) (hn : 0 ≤ n ∧ n ≤ 900) (a b c e f : Int) : ∃ h', cal (d+1) m_Mod_feed [.inr (.inr (72)), .inl (a), .inl (b), .inl (c), .inl (e), .inl (f)] (h) = some (.inl (ansFeed n), h') ∧ MB h' S G (if 880 < n then T else fdT T (wdA a b c e f) n 20) rs rm nb (if 880 < n then n else n + 20) fk fp ∧ Fr (fun q _ => q = 72 ∨ q = 75) h h' := by
  have ms0 : MS (pI h 72 0 0) S := mb.1.o (by omega)
  have f0 : Fr wQ h (pI h 72 0 0) := f72 (by omega)
  have mb0 := mb.fr f0 ms0
  have g0 : Fr (fun q _ => q = 72 ∨ q = 75) h (pI h 72 0 0) := Fr.pI Fr.rf (Or.inl rfl)
  have hk := mb.1.1.k
  have hm := ms0.1
  have h5 := mb0.2.2.2.1.1
  unfold ansFeed
  by_cases c1 : 880 < n
  · rw [if_pos c1, if_pos c1, if_pos c1]
    refine ⟨_, ?_, mb0, g0⟩
    show EX (d) m_Mod_feed 0 [(0, .inr (.inr (72))), (1, .inl (a)), (2, .inl (b)), (3, .inl (c)), (4, .inl (e)), (5, .inl (f))] [] (h) = _
    simp (disch := omega) only [Mod_feed_0, Mod_feed_5, Mod_feed_18, wr_id, ix_id, okx, if_pos, if_neg, Int.toNat_of_nonneg, bak_v, bak_n, wr_b01, wr_bt, b01_or, b01_0, b01_1, lc_lt0, lc_gt0, lc_eq0, wl_wr, wr_wr, wl_id, true_and, and_true, true_or, or_true, not_true_eq_false, not_false_eq_true, nc0, nc1, nc2, nc3, nc4, nc5, nc6, nc7, nc8, nc9, nc10, nc11, nc12, nc13, nc14, nc15, nc16, nc17, nc18, nc19, nc20, nc21, nc22, nc23, nc35, nc47, nc59, nc60, nc61, nc73, nc74, nc214, nc215, nc1115, nc2230, nc3345, if_true, if_false, Int.reduceToNat, hk, hm.k, h5]
  · rw [if_neg c1, if_neg c1, if_neg c1]
    obtain ⟨h1, e1, k1, l1, f1⟩ := m_feed_l (d := d) (a := a) (b := b) (c := c) (e := e) (f := f) (n := n) (by omega) (T := T) 0 (by omega) (by omega) (pI h 72 0 0) hm (fun j => by rw [fdT_0]; exact mb0.2.2.1 j) (by rw [h5]; omega)
    refine ⟨h1, ?_, ?_, g0.tr (f1.mo (fun a k z => by omega))⟩
    · show EX (d) m_Mod_feed 0 [(0, .inr (.inr (72))), (1, .inl (a)), (2, .inl (b)), (3, .inl (c)), (4, .inl (e)), (5, .inl (f))] [] (h) = _
      simp (disch := omega) only [Mod_feed_0, Mod_feed_5, Mod_feed_21, wr_id, ix_id, okx, if_pos, if_neg, Int.toNat_of_nonneg, bak_v, bak_n, wr_b01, wr_bt, b01_or, b01_0, b01_1, lc_lt0, lc_gt0, lc_eq0, wl_wr, wr_wr, wl_id, true_and, and_true, true_or, or_true, not_true_eq_false, not_false_eq_true, nc0, nc1, nc2, nc3, nc4, nc5, nc6, nc7, nc8, nc9, nc10, nc11, nc12, nc13, nc14, nc15, nc16, nc17, nc18, nc19, nc20, nc21, nc22, nc23, nc35, nc47, nc59, nc60, nc61, nc73, nc74, nc214, nc215, nc1115, nc2230, nc3345, if_true, if_false, Int.reduceToNat, hk, hm.k, h5]
      exact e1
    · obtain ⟨m1, m2, m3, m4, m5⟩ := mb0
      exact ⟨ms0.q f1 (fun k => by omega), fun k => by rw [f1.I (by omega)]; exact m2 k, k1, ⟨l1, by rw [f1.I (by omega)]; exact m4.2.1, by rw [f1.I (by omega)]; exact m4.2.2⟩, m5.fr f1 (fun a k q1 q2 => by omega)⟩
/-! plain; window -/
theorem m_plain_1 {d : Nat} {R : Int → Int} : ∀ k, 0 ≤ k → k ≤ 1115 → ∀ h, MR h → (∀ j : Nat, hI h 76 j = if (j : Int) < k then 0 else R j) → ∃ h', EX (d) m_Mod_plain 2 [(0, .inr (.inr (76))), (1, .inl (k))] [] (h) = EX (d) m_Mod_plain 19 [(0, .inr (.inr (76)))] [] (h') ∧ (∀ j : Nat, hI h' 76 j = if (j : Int) < 1115 then 0 else R j) ∧ Fr (fun a _ => a = 76) h h' := by
  refine up_ind (hi := 1115) ?_ ?_
  · intro k hk k0 k1 h hm tp
    rw [show k = 1115 by omega] at tp
    refine ⟨h, ?_, tp, Fr.rf⟩
    rw [Mod_plain_2]
    simp (disch := omega) only [wr_id, ix_id, okx, if_pos, if_neg, Int.toNat_of_nonneg, bak_v, bak_n, wr_b01, wr_bt, b01_or, b01_0, b01_1, lc_lt0, lc_gt0, lc_eq0, wl_wr, wr_wr, wl_id, true_and, and_true, true_or, or_true, not_true_eq_false, not_false_eq_true, nc0, nc1, nc2, nc3, nc4, nc5, nc6, nc7, nc8, nc9, nc10, nc11, nc12, nc13, nc14, nc15, nc16, nc17, nc18, nc19, nc20, nc21, nc22, nc23, nc35, nc47, nc59, nc60, nc61, nc73, nc74, nc214, nc215, nc1115, nc2230, nc3345, if_true, if_false, Int.reduceToNat]
  · intro k hk ih k0 k1 h hm tp
    have f0 : Fr (fun a _ => a = 76) h (pI h 76 k.toNat 0) := Fr.pI Fr.rf (by rfl)
    obtain ⟨h2, e2, k2, f2⟩ := ih (by omega) (by omega) _ (hm.fr f0) (fun j => by
      rw [hI_pI]
      by_cases c : j = k.toNat
      · rw [if_pos ⟨rfl, c⟩, if_pos (by omega)]
      · rw [if_neg (fun q => c q.2), tp j]
        by_cases c2 : (j : Int) < k
        · rw [if_pos c2, if_pos (by omega)]
        · rw [if_neg c2, if_neg (by omega)])
    refine ⟨h2, ?_, k2, f0.tr f2⟩
    rw [Mod_plain_2]
    simp (disch := omega) only [Mod_plain_9, Mod_plain_13, wr_id, ix_id, okx, if_pos, if_neg, Int.toNat_of_nonneg, bak_v, bak_n, wr_b01, wr_bt, b01_or, b01_0, b01_1, lc_lt0, lc_gt0, lc_eq0, wl_wr, wr_wr, wl_id, true_and, and_true, true_or, or_true, not_true_eq_false, not_false_eq_true, nc0, nc1, nc2, nc3, nc4, nc5, nc6, nc7, nc8, nc9, nc10, nc11, nc12, nc13, nc14, nc15, nc16, nc17, nc18, nc19, nc20, nc21, nc22, nc23, nc35, nc47, nc59, nc60, nc61, nc73, nc74, nc214, nc215, nc1115, nc2230, nc3345, if_true, if_false, Int.reduceToNat, hm.k, hm.r1, hm.r2, hm.r3, hm.r4, hm.r15, hm.r16, hm.r19, hm.r23, hm.r24, hm.r25, hm.r26, hm.r29, hm.r30, hm.r31, hm.r33, hm.r34, hm.r35, hm.k73, hm.k74, hm.k75, hm.k76, hm.k77, hm.k78, hm.k79, hm.k80, hm.k81, hm.k82, hm.k83, hm.k84, hm.k85, hm.k86, hm.k87, hm.k88, hm.k89, hm.n73, hm.n74, hm.n75, hm.n76, hm.n77, hm.n78, hm.n79, hm.n80, hm.n81, hm.n82, hm.n83, hm.n84, hm.n85, hm.n86, hm.n87, hm.n88, hm.n89]
    exact e2
theorem m_plain_2 {d : Nat} {R : Int → Int} : ∀ k, 0 ≤ k → k ≤ 12 → ∀ h, MR h → (∀ j : Nat, hI h 76 j = if 61 ≤ (j : Int) ∧ (j : Int) < 61 + k then -1 else R j) → ∃ h', EX (d) m_Mod_plain 39 [(0, .inr (.inr (76))), (1, .inl (k))] [] (h) = some (.inl 0, h') ∧ (∀ j : Nat, hI h' 76 j = if 61 ≤ (j : Int) ∧ (j : Int) < 73 then -1 else R j) ∧ Fr (fun a _ => a = 76) h h' := by
  refine up_ind (hi := 12) ?_ ?_
  · intro k hk k0 k1 h hm tp
    rw [show k = 12 by omega] at tp
    refine ⟨h, ?_, tp, Fr.rf⟩
    rw [Mod_plain_39]
    simp (disch := omega) only [Mod_plain_58, wr_id, ix_id, okx, if_pos, if_neg, Int.toNat_of_nonneg, bak_v, bak_n, wr_b01, wr_bt, b01_or, b01_0, b01_1, lc_lt0, lc_gt0, lc_eq0, wl_wr, wr_wr, wl_id, true_and, and_true, true_or, or_true, not_true_eq_false, not_false_eq_true, nc0, nc1, nc2, nc3, nc4, nc5, nc6, nc7, nc8, nc9, nc10, nc11, nc12, nc13, nc14, nc15, nc16, nc17, nc18, nc19, nc20, nc21, nc22, nc23, nc35, nc47, nc59, nc60, nc61, nc73, nc74, nc214, nc215, nc1115, nc2230, nc3345, if_true, if_false, Int.reduceToNat]
  · intro k hk ih k0 k1 h hm tp
    have f0 : Fr (fun a _ => a = 76) h (pI h 76 (61 + k).toNat (-1)) := Fr.pI Fr.rf (by rfl)
    obtain ⟨h2, e2, k2, f2⟩ := ih (by omega) (by omega) _ (hm.fr f0) (fun j => by
      rw [hI_pI]
      by_cases c : j = (61 + k).toNat
      · rw [if_pos ⟨rfl, c⟩, if_pos (by omega)]
      · rw [if_neg (fun q => c q.2), tp j]
        by_cases c2 : 61 ≤ (j : Int) ∧ (j : Int) < 61 + k
        · rw [if_pos c2, if_pos (by omega)]
        · rw [if_neg c2, if_neg (by omega)])
    refine ⟨h2, ?_, k2, f0.tr f2⟩
    rw [Mod_plain_39]
    simp (disch := omega) only [Mod_plain_45, Mod_plain_52, wr_id, ix_id, okx, if_pos, if_neg, Int.toNat_of_nonneg, bak_v, bak_n, wr_b01, wr_bt, b01_or, b01_0, b01_1, lc_lt0, lc_gt0, lc_eq0, wl_wr, wr_wr, wl_id, true_and, and_true, true_or, or_true, not_true_eq_false, not_false_eq_true, nc0, nc1, nc2, nc3, nc4, nc5, nc6, nc7, nc8, nc9, nc10, nc11, nc12, nc13, nc14, nc15, nc16, nc17, nc18, nc19, nc20, nc21, nc22, nc23, nc35, nc47, nc59, nc60, nc61, nc73, nc74, nc214, nc215, nc1115, nc2230, nc3345, if_true, if_false, Int.reduceToNat, hm.k, hm.r1, hm.r2, hm.r3, hm.r4, hm.r15, hm.r16, hm.r19, hm.r23, hm.r24, hm.r25, hm.r26, hm.r29, hm.r30, hm.r31, hm.r33, hm.r34, hm.r35, hm.k73, hm.k74, hm.k75, hm.k76, hm.k77, hm.k78, hm.k79, hm.k80, hm.k81, hm.k82, hm.k83, hm.k84, hm.k85, hm.k86, hm.k87, hm.k88, hm.k89, hm.n73, hm.n74, hm.n75, hm.n76, hm.n77, hm.n78, hm.n79, hm.n80, hm.n81, hm.n82, hm.n83, hm.n84, hm.n85, hm.n86, hm.n87, hm.n88, hm.n89]
    exact e2
/-- a plain row as far as rows go -/
def plR (R : Int → Int) : Int → Int := fun k => if 0 ≤ k ∧ k < 1115 then plS k else R k
theorem m_plain {d : Nat} {h : Hp} {R : Int → Int} (hm : MR h) (hR : ∀ j : Nat, hI h 76 j = R j) : ∃ h', cal (d+1) m_Mod_plain [.inr (.inr (76))] (h) = some (.inl 0, h') ∧ (∀ j : Nat, hI h' 76 j = plR R j) ∧ Fr (fun a _ => a = 76) h h' := by
  obtain ⟨h1, e1, k1, f1⟩ := m_plain_1 (d := d) (R := R) 0 (by omega) (by omega) h hm (fun j => by rw [if_neg (by omega)]; exact hR j)
  have hm1 := hm.fr f1
  have f2 : Fr (fun a _ => a = 76) h1 (pI (pI (pI (pI h1 76 3 1) 76 4 5) 76 5 2) 76 8 10) := Fr.pI (Fr.pI (Fr.pI (Fr.pI Fr.rf (by rfl)) (by rfl)) (by rfl)) (by rfl)
  have hm2 := hm1.fr f2
  obtain ⟨h3, e3, k3, f3⟩ := m_plain_2 (d := d) (R := fun j => if j = 8 then 10 else if j = 5 then 2 else if j = 4 then 5 else if j = 3 then 1 else if j < 1115 then 0 else R j) 0 (by omega) (by omega) _ hm2 (fun j => by
    rw [if_neg (by omega)]
    simp only [hI_pI, true_and]
    rw [k1 j]
    by_cases c8 : j = 8
    · subst c8; rfl
    · rw [if_neg c8, if_neg (show ¬ (j : Int) = 8 by omega)]
      by_cases c5 : j = 5
      · subst c5; rfl
      · rw [if_neg c5, if_neg (show ¬ (j : Int) = 5 by omega)]
        by_cases c4 : j = 4
        · subst c4; rfl
        · rw [if_neg c4, if_neg (show ¬ (j : Int) = 4 by omega)]
          by_cases c3 : j = 3
          · subst c3; rfl
          · rw [if_neg c3, if_neg (show ¬ (j : Int) = 3 by omega)])
  refine ⟨h3, ?_, fun j => ?_, (f1.tr f2).tr f3⟩
  · show EX (d) m_Mod_plain 0 [(0, .inr (.inr (76)))] [] (h) = _
    rw [Mod_plain_0]
    refine e1.trans ?_
    have hm := hm1
    simp (disch := omega) only [Mod_plain_19, Mod_plain_23, Mod_plain_27, Mod_plain_31, Mod_plain_37, wr_id, ix_id, okx, if_pos, if_neg, Int.toNat_of_nonneg, bak_v, bak_n, wr_b01, wr_bt, b01_or, b01_0, b01_1, lc_lt0, lc_gt0, lc_eq0, wl_wr, wr_wr, wl_id, true_and, and_true, true_or, or_true, not_true_eq_false, not_false_eq_true, nc0, nc1, nc2, nc3, nc4, nc5, nc6, nc7, nc8, nc9, nc10, nc11, nc12, nc13, nc14, nc15, nc16, nc17, nc18, nc19, nc20, nc21, nc22, nc23, nc35, nc47, nc59, nc60, nc61, nc73, nc74, nc214, nc215, nc1115, nc2230, nc3345, if_true, if_false, Int.reduceToNat, hm.k, hm.r1, hm.r2, hm.r3, hm.r4, hm.r15, hm.r16, hm.r19, hm.r23, hm.r24, hm.r25, hm.r26, hm.r29, hm.r30, hm.r31, hm.r33, hm.r34, hm.r35, hm.k73, hm.k74, hm.k75, hm.k76, hm.k77, hm.k78, hm.k79, hm.k80, hm.k81, hm.k82, hm.k83, hm.k84, hm.k85, hm.k86, hm.k87, hm.k88, hm.k89, hm.n73, hm.n74, hm.n75, hm.n76, hm.n77, hm.n78, hm.n79, hm.n80, hm.n81, hm.n82, hm.n83, hm.n84, hm.n85, hm.n86, hm.n87, hm.n88, hm.n89, sK_pI, sN_pI]
    exact e3
  · rw [k3 j]
    unfold plR plS
    by_cases c1 : (j : Int) < 1115
    · rw [if_pos (show 0 ≤ (j : Int) ∧ (j : Int) < 1115 by omega)]
      repeat' split
      all_goals omega
    · rw [if_neg (show ¬ (0 ≤ (j : Int) ∧ (j : Int) < 1115) by omega)]
      simp (disch := omega) only [if_neg]
def winS (S W : Int → Int) : Int → Int := fun k => if 0 ≤ k ∧ k < 1115 then W k else S k
theorem m_win_2 {d : Nat} {S W : Int → Int} : ∀ k, 0 ≤ k → k ≤ 1115 → ∀ h, MR h → (∀ j : Nat, hI h 76 j = W j) → (∀ j : Nat, hI h 73 j = if (j : Int) < k then W j else S j) → ∃ h', EX (d) m_Mod_window 144 [(0, .inr (.inr (72))), (2, .inl (k))] [] (h) = some (.inl (W 0), h') ∧ (∀ j : Nat, hI h' 73 j = winS S W j) ∧ Fr (fun a _ => a = 73) h h' := by
  refine up_ind (hi := 1115) ?_ ?_
  · intro k hk k0 k1 h hm tw tp
    rw [show k = 1115 by omega] at tp
    have e0 := tp 0
    rw [if_pos (by omega)] at e0
    refine ⟨h, ?_, fun j => ?_, Fr.rf⟩
    · rw [Mod_window_144]
      simp (disch := omega) only [Mod_window_169, wr_id, ix_id, okx, if_pos, if_neg, Int.toNat_of_nonneg, bak_v, bak_n, wr_b01, wr_bt, b01_or, b01_0, b01_1, lc_lt0, lc_gt0, lc_eq0, wl_wr, wr_wr, wl_id, true_and, and_true, true_or, or_true, not_true_eq_false, not_false_eq_true, nc0, nc1, nc2, nc3, nc4, nc5, nc6, nc7, nc8, nc9, nc10, nc11, nc12, nc13, nc14, nc15, nc16, nc17, nc18, nc19, nc20, nc21, nc22, nc23, nc35, nc47, nc59, nc60, nc61, nc73, nc74, nc214, nc215, nc1115, nc2230, nc3345, if_true, if_false, Int.reduceToNat, hm.k, hm.r1, hm.r2, hm.r3, hm.r4, hm.r15, hm.r16, hm.r19, hm.r23, hm.r24, hm.r25, hm.r26, hm.r29, hm.r30, hm.r31, hm.r33, hm.r34, hm.r35, hm.k73, hm.k74, hm.k75, hm.k76, hm.k77, hm.k78, hm.k79, hm.k80, hm.k81, hm.k82, hm.k83, hm.k84, hm.k85, hm.k86, hm.k87, hm.k88, hm.k89, hm.n73, hm.n74, hm.n75, hm.n76, hm.n77, hm.n78, hm.n79, hm.n80, hm.n81, hm.n82, hm.n83, hm.n84, hm.n85, hm.n86, hm.n87, hm.n88, hm.n89, e0]
    · rw [tp j]
      unfold winS
      by_cases c : (j : Int) < 1115
      · rw [if_pos c, if_pos (by omega)]
      · rw [if_neg c, if_neg (by omega)]
  · intro k hk ih k0 k1 h hm tw tp
    have f0 : Fr (fun a _ => a = 73) h (pI h 73 k.toNat (W k)) := Fr.pI Fr.rf (by rfl)
    have wk := tw k.toNat
    rw [Int.toNat_of_nonneg k0] at wk
    obtain ⟨h2, e2, k2, f2⟩ := ih (by omega) (by omega) _ (hm.fr f0) (fun j => by rw [f0.I (by omega)]; exact tw j) (fun j => by
      rw [hI_pI]
      by_cases c : j = k.toNat
      · rw [if_pos ⟨rfl, c⟩, if_pos (by omega), show (j : Int) = k by omega]
      · rw [if_neg (fun q => c q.2), tp j]
        by_cases c2 : (j : Int) < k
        · rw [if_pos c2, if_pos (by omega)]
        · rw [if_neg c2, if_neg (by omega)])
    refine ⟨h2, ?_, k2, f0.tr f2⟩
    rw [Mod_window_144]
    simp (disch := omega) only [Mod_window_151, Mod_window_163, wr_id, ix_id, okx, if_pos, if_neg, Int.toNat_of_nonneg, bak_v, bak_n, wr_b01, wr_bt, b01_or, b01_0, b01_1, lc_lt0, lc_gt0, lc_eq0, wl_wr, wr_wr, wl_id, true_and, and_true, true_or, or_true, not_true_eq_false, not_false_eq_true, nc0, nc1, nc2, nc3, nc4, nc5, nc6, nc7, nc8, nc9, nc10, nc11, nc12, nc13, nc14, nc15, nc16, nc17, nc18, nc19, nc20, nc21, nc22, nc23, nc35, nc47, nc59, nc60, nc61, nc73, nc74, nc214, nc215, nc1115, nc2230, nc3345, if_true, if_false, Int.reduceToNat, hm.k, hm.r1, hm.r2, hm.r3, hm.r4, hm.r15, hm.r16, hm.r19, hm.r23, hm.r24, hm.r25, hm.r26, hm.r29, hm.r30, hm.r31, hm.r33, hm.r34, hm.r35, hm.k73, hm.k74, hm.k75, hm.k76, hm.k77, hm.k78, hm.k79, hm.k80, hm.k81, hm.k82, hm.k83, hm.k84, hm.k85, hm.k86, hm.k87, hm.k88, hm.k89, hm.n73, hm.n74, hm.n75, hm.n76, hm.n77, hm.n78, hm.n79, hm.n80, hm.n81, hm.n82, hm.n83, hm.n84, hm.n85, hm.n86, hm.n87, hm.n88, hm.n89, wk]
    exact e2
def wnA (r : RW2) : Int := match r with | .inl e => -30 - e.1 | .inr q => q.2 0
def wnK (r : RW2) : Int := match r with | .inl e => e.1 | .inr _ => 0
def wnP (r : RW2) : Int := match r with | .inl e => e.2 | .inr _ => -1
def wnR (S : Int → Int) (r : RW2) : Int → Int := match r with | .inl _ => S | .inr q => winS S q.2
theorem PG_plR (R : Int → Int) : PG (plR R) := by
  have e : ∀ k, 0 ≤ k → k < 1115 → plR R k = plS k := fun k h1 h2 => by unfold plR; rw [if_pos ⟨h1, h2⟩]
  obtain ⟨p1, p2, p3, p4, p5⟩ := PG_pl
  exact ⟨p1.cg (fun k h1 h2 h3 h4 => e k (by omega) (by omega)), ⟨Or.inl (by rw [e 9 (by omega) (by omega)]; rfl), fun z => by rw [e 9 (by omega) (by omega)] at z; cases z⟩, by rw [e 214 (by omega) (by omega)]; exact p3, by rw [e 59 (by omega) (by omega), e 60 (by omega) (by omega), e 73 (by omega) (by omega)]; exact p4, by rw [e 0 (by omega) (by omega)]; exact p5⟩
theorem mm_window {d : Nat} {h : Hp} {S G T rs rm nb R : Int → Int} {n fk fp k : Int} (mb : MB h S G T rs rm nb n fk fp) (st : STR h) (to : tOk T) (hn : 0 ≤ n ∧ n ≤ 900) (rk : -2147483648 ≤ k ∧ k ≤ 2147483647) (hR : ∀ j : Nat, hI h 76 j = R j) : ∃ h', cal (d+51) m_Mod_window [.inr (.inr (72)), .inl (k)] (h) = some (.inl (if 0 ≤ k ∧ k ≤ n then wnA (wdP T k 901 (sk T k 0) (plR R)) else -3), h') ∧ (if 0 ≤ k ∧ k ≤ n then MB h' (wnR S (wdP T k 901 (sk T k 0) (plR R))) G T rs rm nb 0 (wnK (wdP T k 901 (sk T k 0) (plR R))) (wnP (wdP T k 901 (sk T k 0) (plR R))) else MB h' S G T rs rm nb n fk fp) ∧ Fr (fun q _ => q = 72 ∨ q = 73 ∨ q = 76) h h' := by
  have ms0 : MS (pI h 72 0 0) S := mb.1.o (by omega)
  have f0 : Fr wQ h (pI h 72 0 0) := f72 (by omega)
  have mb0 := mb.fr f0 ms0
  have g0 : Fr (fun q _ => q = 72 ∨ q = 73 ∨ q = 76) h (pI h 72 0 0) := Fr.pI Fr.rf (Or.inl rfl)
  have hk := mb.1.1.k
  have hm := ms0.1
  have h5 := mb0.2.2.2.1.1
  by_cases c : 0 ≤ k ∧ k ≤ n
  · simp only [if_pos c]
    have b : b01 (0 ≤ k ∧ k ≤ n) = 1 := by unfold b01; rw [if_pos c]
    have g1 : Fr (fun q _ => q = 72 ∨ q = 73 ∨ q = 76) h (pI (pI (pI (pI (pI h 72 0 0) 72 8 k) 72 5 0) 72 7 0) 72 11 0) := Fr.pI (Fr.pI (Fr.pI (Fr.pI g0 (Or.inl rfl)) (Or.inl rfl)) (Or.inl rfl)) (Or.inl rfl)
    have st1 : cal (d+51) m_Mod_window [.inr (.inr (72)), .inl (k)] (h) = EX (d+50) m_Mod_window 42 [(0, .inr (.inr (72)))] [] (pI (pI (pI (pI (pI h 72 0 0) 72 8 k) 72 5 0) 72 7 0) 72 11 0) := by
      show EX (d+50) m_Mod_window 0 [(0, .inr (.inr (72))), (1, .inl (k))] [] (h) = _
      simp (disch := omega) only [Mod_window_0, Mod_window_5, Mod_window_16, Mod_window_22, Mod_window_27, Mod_window_32, Mod_window_37, wr_id, ix_id, okx, if_pos, if_neg, Int.toNat_of_nonneg, bak_v, bak_n, wr_b01, wr_bt, b01_or, b01_0, b01_1, lc_lt0, lc_gt0, lc_eq0, wl_wr, wr_wr, wl_id, true_and, and_true, true_or, or_true, not_true_eq_false, not_false_eq_true, nc0, nc1, nc2, nc3, nc4, nc5, nc6, nc7, nc8, nc9, nc10, nc11, nc12, nc13, nc14, nc15, nc16, nc17, nc18, nc19, nc20, nc21, nc22, nc23, nc35, nc47, nc59, nc60, nc61, nc73, nc74, nc214, nc215, nc1115, nc2230, nc3345, if_true, if_false, Int.reduceToNat, hk, hm.k, h5, m_within, b, sK_pI]
    have v8 : hI (pI (pI (pI (pI (pI h 72 0 0) 72 8 k) 72 5 0) 72 7 0) 72 11 0) 72 8 = k := by simp [hI_pI]
    have v7 : hI (pI (pI (pI (pI (pI h 72 0 0) 72 8 k) 72 5 0) 72 7 0) 72 11 0) 72 7 = 0 := by simp [hI_pI]
    have v5 : hI (pI (pI (pI (pI (pI h 72 0 0) 72 8 k) 72 5 0) 72 7 0) 72 11 0) 72 5 = 0 := by simp [hI_pI]
    have v11 : hI (pI (pI (pI (pI (pI h 72 0 0) 72 8 k) 72 5 0) 72 7 0) 72 11 0) 72 11 = 0 := by simp [hI_pI]
    have vo : ∀ q j, ¬ q = 72 → hI (pI (pI (pI (pI (pI h 72 0 0) 72 8 k) 72 5 0) 72 7 0) 72 11 0) q j = hI h q j := fun q j hq => by simp [hI_pI, hq]
    have lo : ∀ q j, hL (pI (pI (pI (pI (pI h 72 0 0) 72 8 k) 72 5 0) 72 7 0) 72 11 0) q j = hL h q j := fun q j => rfl
    generalize hgq : pI (pI (pI (pI (pI h 72 0 0) 72 8 k) 72 5 0) 72 7 0) 72 11 0 = h1 at *
    have hm1 := mb.1.1.fr g1
    obtain ⟨h2, e2, k2, f2⟩ := m_plain (d := d + 49) (R := R) hm1 (fun j => by rw [vo 76 j (by omega)]; exact hR j)
    have g2 : Fr (fun q _ => q = 72 ∨ q = 73 ∨ q = 76) h1 h2 := f2.mo (fun a k z => by omega)
    have hm2 := hm1.fr f2
    have st2 : STR h2 := (st.fr g1 (fun a k z => by omega)).fr f2 (fun a k z => by omega)
    have x2 : MX h2 T k := ⟨hm2, st2, fun j => by rw [f2.I (by omega), vo 75 j (by omega)]; exact mb.2.2.1 j, to, by rw [f2.I (by omega)]; exact v8, by omega⟩
    obtain ⟨h3, e3, mk3, f3⟩ := m_next (d := d + 48) x2 (p := 0) (by rw [f2.I (by omega)]; exact v7) (by omega)
    have sr := sk_rng (T := T) (n := k) (p := 0) c.1
    have m3 : MP h3 T k (sk T k 0) (plR R) := ⟨x2.k f3 (fun _ _ z => z), mk3, by rw [f3.I (by unfold pTk; omega), f2.I (by omega)]; exact v11, fun j => by rw [f3.I (by unfold pTk; omega)]; exact k2 j, sr⟩
    obtain ⟨h4, e4, r4, f4⟩ := m_wd_l (d := d) 901 (sk T k 0) (plR R) h3 (by omega) m3 (PG_plR R)
    have x4 := m3.1.ps f4
    have hm4 := x4.1
    have f34 : Fr pPs h2 h4 := (f3.mo (fun a k z => z.ps)).tr f4
    have st3 : cal (d+51) m_Mod_window [.inr (.inr (72)), .inl (k)] (h) = EX (d+50) m_Mod_window 100 [(0, .inr (.inr (72)))] [] (h4) := by
      refine st1.trans ?_
      simp (disch := omega) only [Mod_window_42, wr_id, ix_id, okx, if_pos, if_neg, Int.toNat_of_nonneg, bak_v, bak_n, wr_b01, wr_bt, b01_or, b01_0, b01_1, lc_lt0, lc_gt0, lc_eq0, wl_wr, wr_wr, wl_id, true_and, and_true, true_or, or_true, not_true_eq_false, not_false_eq_true, nc0, nc1, nc2, nc3, nc4, nc5, nc6, nc7, nc8, nc9, nc10, nc11, nc12, nc13, nc14, nc15, nc16, nc17, nc18, nc19, nc20, nc21, nc22, nc23, nc35, nc47, nc59, nc60, nc61, nc73, nc74, nc214, nc215, nc1115, nc2230, nc3345, if_true, if_false, Int.reduceToNat, hm1.k, hm1.r4, e2]
      simp (disch := omega) only [Mod_window_49, wr_id, ix_id, okx, if_pos, if_neg, Int.toNat_of_nonneg, bak_v, bak_n, wr_b01, wr_bt, b01_or, b01_0, b01_1, lc_lt0, lc_gt0, lc_eq0, wl_wr, wr_wr, wl_id, true_and, and_true, true_or, or_true, not_true_eq_false, not_false_eq_true, nc0, nc1, nc2, nc3, nc4, nc5, nc6, nc7, nc8, nc9, nc10, nc11, nc12, nc13, nc14, nc15, nc16, nc17, nc18, nc19, nc20, nc21, nc22, nc23, nc35, nc47, nc59, nc60, nc61, nc73, nc74, nc214, nc215, nc1115, nc2230, nc3345, if_true, if_false, Int.reduceToNat, hm2.k, e3]
      exact e4
    have g4 : Fr (fun q _ => q = 72 ∨ q = 73 ∨ q = 76) h2 h4 := f34.mo (fun a k z => by unfold pPs at z; omega)
    have o4 : ∀ q j, ¬ q = 72 → ¬ q = 76 → hI h4 q j = hI h q j := fun q j q1 q2 => by rw [f34.I (by unfold pPs; omega), f2.I (by omega), vo q j q1]
    have l4 : ∀ j, hL h4 89 j = hL h 89 j := fun j => by rw [f34.L (by unfold pPs; omega), f2.L (by omega), lo]
    have n5 : hI h4 72 5 = 0 := by rw [f34.I (by unfold pPs; omega), f2.I (by omega)]; exact v5
    cases hq : wdP T k 901 (sk T k 0) (plR R) with
    | inl e =>
      rw [hq] at r4
      obtain ⟨w1, w2, w3⟩ := (show MF h4 e from r4)
      have g5 : Fr (fun q _ => q = 72 ∨ q = 73 ∨ q = 76) h4 (pI (pI h4 72 13 e.1) 72 14 e.2) := Fr.pI (Fr.pI Fr.rf (Or.inl rfl)) (Or.inl rfl)
      refine ⟨pI (pI h4 72 13 e.1) 72 14 e.2, ?_, ?_, ((g1.tr g2).tr g4).tr g5⟩
      · refine st3.trans ?_
        simp (disch := omega) only [Mod_window_100, Mod_window_108, Mod_window_120, Mod_window_124, Mod_window_127, Mod_window_134, wr_id, ix_id, okx, if_pos, if_neg, Int.toNat_of_nonneg, bak_v, bak_n, wr_b01, wr_bt, b01_or, b01_0, b01_1, lc_lt0, lc_gt0, lc_eq0, wl_wr, wr_wr, wl_id, true_and, and_true, true_or, or_true, not_true_eq_false, not_false_eq_true, nc0, nc1, nc2, nc3, nc4, nc5, nc6, nc7, nc8, nc9, nc10, nc11, nc12, nc13, nc14, nc15, nc16, nc17, nc18, nc19, nc20, nc21, nc22, nc23, nc35, nc47, nc59, nc60, nc61, nc73, nc74, nc214, nc215, nc1115, nc2230, nc3345, if_true, if_false, Int.reduceToNat, hm4.k, sK_pI, hI_pI, w1, w2]
        rfl
      · obtain ⟨m1, m2, m3', m4, m5⟩ := mb
        refine ⟨⟨hm4.fr g5, fun j => ?_⟩, fun j => ?_, fun j => ?_, ⟨?_, ?_, ?_⟩, fun j => ?_, fun j => ?_, fun j => ?_⟩
        · rw [hI_pI, if_neg (by omega), hI_pI, if_neg (by omega), o4 73 j (by omega) (by omega)]; exact m1.2 j
        · rw [hI_pI, if_neg (by omega), hI_pI, if_neg (by omega), o4 74 j (by omega) (by omega)]; exact m2 j
        · rw [hI_pI, if_neg (by omega), hI_pI, if_neg (by omega), o4 75 j (by omega) (by omega)]; exact m3' j
        · rw [hI_pI, if_neg (by omega), hI_pI, if_neg (by omega)]; exact n5
        · simp [hI_pI, wnK]
        · simp [hI_pI, wnP]
        · rw [hI_pI, if_neg (by omega), hI_pI, if_neg (by omega), o4 87 j (by omega) (by omega)]; exact m5.1 j
        · rw [hI_pI, if_neg (by omega), hI_pI, if_neg (by omega), o4 88 j (by omega) (by omega)]; exact m5.2.1 j
        · rw [hL_pI, hL_pI, l4]; exact m5.2.2 j
    | inr q =>
      rw [hq] at r4
      have m4 : MP h4 T k q.1 q.2 := r4
      have h11 := m4.2.2.1
      have g5 : Fr (fun q _ => q = 72 ∨ q = 73 ∨ q = 76) h4 (pI (pI h4 72 13 0) 72 14 (-1)) := Fr.pI (Fr.pI Fr.rf (Or.inl rfl)) (Or.inl rfl)
      obtain ⟨h6, e6, k6, f6⟩ := m_win_2 (d := d + 50) (S := S) (W := q.2) 0 (by omega) (by omega) _ (hm4.fr g5) (fun j => by rw [hI_pI, if_neg (by omega), hI_pI, if_neg (by omega)]; exact m4.2.2.2.1 j) (fun j => by rw [hI_pI, if_neg (by omega), hI_pI, if_neg (by omega), o4 73 j (by omega) (by omega), if_neg (by omega)]; exact mb.1.2 j)
      have g6 : Fr (fun q _ => q = 72 ∨ q = 73 ∨ q = 76) (pI (pI h4 72 13 0) 72 14 (-1)) h6 := f6.mo (fun a k z => by omega)
      refine ⟨h6, ?_, ?_, (((g1.tr g2).tr g4).tr g5).tr g6⟩
      · refine st3.trans ?_
        simp (disch := omega) only [Mod_window_100, Mod_window_108, Mod_window_116, Mod_window_124, Mod_window_127, Mod_window_142, wr_id, ix_id, okx, if_pos, if_neg, Int.toNat_of_nonneg, bak_v, bak_n, wr_b01, wr_bt, b01_or, b01_0, b01_1, lc_lt0, lc_gt0, lc_eq0, wl_wr, wr_wr, wl_id, true_and, and_true, true_or, or_true, not_true_eq_false, not_false_eq_true, nc0, nc1, nc2, nc3, nc4, nc5, nc6, nc7, nc8, nc9, nc10, nc11, nc12, nc13, nc14, nc15, nc16, nc17, nc18, nc19, nc20, nc21, nc22, nc23, nc35, nc47, nc59, nc60, nc61, nc73, nc74, nc214, nc215, nc1115, nc2230, nc3345, if_true, if_false, Int.reduceToNat, hm4.k, sK_pI, hI_pI, h11]
        exact e6
      · obtain ⟨m1, m2, m3', m4', m5⟩ := mb
        refine ⟨⟨(hm4.fr g5).fr f6, k6⟩, fun j => ?_, fun j => ?_, ⟨?_, ?_, ?_⟩, fun j => ?_, fun j => ?_, fun j => ?_⟩
        · rw [f6.I (by omega), hI_pI, if_neg (by omega), hI_pI, if_neg (by omega), o4 74 j (by omega) (by omega)]; exact m2 j
        · rw [f6.I (by omega), hI_pI, if_neg (by omega), hI_pI, if_neg (by omega), o4 75 j (by omega) (by omega)]; exact m3' j
        · rw [f6.I (by omega), hI_pI, if_neg (by omega), hI_pI, if_neg (by omega)]; exact n5
        · rw [f6.I (by omega)]; simp [hI_pI, wnK]
        · rw [f6.I (by omega)]; simp [hI_pI, wnP]
        · rw [f6.I (by omega), hI_pI, if_neg (by omega), hI_pI, if_neg (by omega), o4 87 j (by omega) (by omega)]; exact m5.1 j
        · rw [f6.I (by omega), hI_pI, if_neg (by omega), hI_pI, if_neg (by omega), o4 88 j (by omega) (by omega)]; exact m5.2.1 j
        · rw [f6.L (by omega), hL_pI, hL_pI, l4]; exact m5.2.2 j
  · simp only [if_neg c]
    have b : b01 (0 ≤ k ∧ k ≤ n) = 0 := by unfold b01; rw [if_neg c]
    refine ⟨_, ?_, mb0, g0⟩
    show EX (d+50) m_Mod_window 0 [(0, .inr (.inr (72))), (1, .inl (k))] [] (h) = _
    simp (disch := omega) only [Mod_window_0, Mod_window_5, Mod_window_16, Mod_window_19, wr_id, ix_id, okx, if_pos, if_neg, Int.toNat_of_nonneg, bak_v, bak_n, wr_b01, wr_bt, b01_or, b01_0, b01_1, lc_lt0, lc_gt0, lc_eq0, wl_wr, wr_wr, wl_id, true_and, and_true, true_or, or_true, not_true_eq_false, not_false_eq_true, nc0, nc1, nc2, nc3, nc4, nc5, nc6, nc7, nc8, nc9, nc10, nc11, nc12, nc13, nc14, nc15, nc16, nc17, nc18, nc19, nc20, nc21, nc22, nc23, nc35, nc47, nc59, nc60, nc61, nc73, nc74, nc214, nc215, nc1115, nc2230, nc3345, if_true, if_false, Int.reduceToNat, hk, hm.k, h5, m_within, b]
