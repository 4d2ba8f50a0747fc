/-- why hook i can't be joined to ring r (both there); 0: it can -/
def whyJ (P Q ρ : Nat → Int) (N b i r : Nat) : Int :=
  if ¬ ρ i = -1 ∨ ¬ b / 2 ^ r % 2 = 0 ∨ ¬ hookF ρ r 0 N = -1 then 2
  else if (¬ prv ρ i = -1 ∧ (r : Int) < ρ (prv ρ i).toNat) ∨ (¬ nxt ρ (i + 1) (N - (i + 1)) = -1 ∧ ρ (nxt ρ (i + 1) (N - (i + 1))).toNat < r) then 3
  else if ¬ prv ρ i = -1 ∧ sagB P Q (prv ρ i).toNat (ρ (prv ρ i).toNat).toNat i r < 0 then 4
  else if ¬ nxt ρ (i + 1) (N - (i + 1)) = -1 ∧ sagB P Q i r (nxt ρ (i + 1) (N - (i + 1))).toNat (ρ (nxt ρ (i + 1) (N - (i + 1))).toNat).toNat < 0 then 4 else 0
theorem hookF_spec (ρ : Nat → Int) (r : Int) : ∀ (n i : Nat), hookF ρ r i n = -1 ∨ ∃ g : Nat, hookF ρ r i n = (g : Int) ∧ i ≤ g ∧ g < i + n ∧ ρ g = r := by
  intro n
  induction n with
  | zero => intro i; exact Or.inl rfl
  | succ n ih =>
    intro i
    unfold hookF
    by_cases h1 : ρ i = r
    · rw [if_pos h1]
      exact Or.inr ⟨i, rfl, by omega, by omega, h1⟩
    · rw [if_neg h1]
      rcases ih (i + 1) with h2 | ⟨g, h2, h3, h4, h5⟩
      · exact Or.inl h2
      · exact Or.inr ⟨g, h2, by omega, by omega, h5⟩
theorem whyNot_bad {d a w : Nat} {x y : Int} {h : Hp} (hw : sK h w = 9) (hbad : ¬ (0 ≤ wr x ∧ wr x < wr (hI h w 5)) ∨ ¬ (0 ≤ wr y ∧ wr y < wr (hI h w 6))) : cal (d + 2) m_Hanging_whyNotJoin [.inr (.inr a), .inr (.inr w), .inl x, .inl y] h = some (.inl 1, h) := by
  show EX (d + 1) m_Hanging_whyNotJoin 0 [(0, .inr (.inr a)), (1, .inr (.inr w)), (2, .inl x), (3, .inl y)] [] h = _
  simp only [Hanging_whyNotJoin_0, hw, if_true, isHook_s d w x h hw, bak_v, Hanging_whyNotJoin_5, Hanging_whyNotJoin_8, isRing_s d w y h hw, Hanging_whyNotJoin_13, Hanging_whyNotJoin_16]
  by_cases h1 : 0 ≤ wr x ∧ wr x < wr (hI h w 5)
  · have h2 := hbad.resolve_left (fun q => q h1)
    simp only [h1, h2, if_false, and_self, if_true]
    simp [show wr 1 = 1 from rfl, show wr 0 = 0 from rfl]
  · simp only [h1, if_false]
    simp [show wr 0 = 0 from rfl]
set_option maxHeartbeats 1000000 in
theorem whyNot_s {d a w N R b i r : Nat} {P Q ρ : Nat → Int} {h : Hp} (hw : WinV h w N R P Q) (ha : HangV h a R ρ) (hb : hI h w 7 = (b : Int)) (hb2 : b < 2147483648) (hi : i < N) (hr : r < R) : cal (d + 3) m_Hanging_whyNotJoin [.inr (.inr a), .inr (.inr w), .inl (i : Int), .inl (r : Int)] h = some (.inl (whyJ P Q ρ N b i r), h) := by
  have hN12 := hw.2.2.2.1
  have hR12 := hw.2.2.2.2.1
  have e1 : (0 ≤ wr (i : Int) ∧ wr (i : Int) < wr (hI h w 5)) = True := by
    rw [hw.2.1, wrn (by omega), wrn (by omega)]; simp; omega
  have e2 : (0 ≤ wr (r : Int) ∧ wr (r : Int) < wr (hI h w 6)) = True := by
    rw [hw.2.2.1, wrn (by omega), wrn (by omega)]; simp; omega
  show EX (d + 2) m_Hanging_whyNotJoin 0 [(0, .inr (.inr a)), (1, .inr (.inr w)), (2, .inl (i : Int)), (3, .inl (r : Int))] [] h = _
  simp only [Hanging_whyNotJoin_0, hw.1.1, if_true, isHook_s (d + 1) w (i : Int) h hw.1.1, e1, bak_v, Hanging_whyNotJoin_5, Hanging_whyNotJoin_8, isRing_s (d + 1) w (r : Int) h hw.1.1, e2, Hanging_whyNotJoin_13, show wr 1 = 1 from rfl, show ((1 : Int) = 0) = False by simp, if_false, Hanging_whyNotJoin_18, ha.1.1, isJoined_s ha hR12 (show i < 12 by omega), Hanging_whyNotJoin_23, Hanging_whyNotJoin_44]
  unfold whyJ
  by_cases h1 : ρ i = -1
  · simp only [h1, if_true, show wr 0 = 0 from rfl, Hanging_whyNotJoin_26, hw.1.1, isBroken_s (d := d + 1) hw.1.1 hb hb2 (show r < 32 by omega), bak_v, Hanging_whyNotJoin_31]
    by_cases h2 : b / 2 ^ r % 2 = 0
    · simp only [h2, if_true, show wr 0 = 0 from rfl, Hanging_whyNotJoin_34, ha.1.1, hookOn_s (d := d + 1) hw ha, wrn (show r ≤ 2147483647 by omega), bak_v, Hanging_whyNotJoin_40]
      rcases hookF_spec ρ (r : Int) N 0 with h3 | ⟨q, h3, -, h4, -⟩
      · simp only [h3, show wr (-1) = -1 from rfl, if_true, Hanging_whyNotJoin_46, ha.1.1, ahead_s (d := d) ha hR12 (show i ≤ 12 by omega), bak_v, Hanging_whyNotJoin_51, behind_s (d := d) hw ha hi, Hanging_whyNotJoin_59]
        have fin : ∀ (x5 : Int), x5 = nxt ρ (i + 1) (N - (i + 1)) → EX (d + 2) 43 123 [(0, .inr (.inr a)), (1, .inr (.inr w)), (2, .inl (i : Int)), (3, .inl (r : Int)), (5, .inl x5)] [] h = some (.inl (if ¬ nxt ρ (i + 1) (N - (i + 1)) = -1 ∧ sagB P Q i r (nxt ρ (i + 1) (N - (i + 1))).toNat (ρ (nxt ρ (i + 1) (N - (i + 1))).toNat).toNat < 0 then 4 else 0), h) := by
          intro x5 hx5
          rcases nxt_spec ρ (N - (i + 1)) (i + 1) with g1 | ⟨g, g1, g2, g3, g4⟩
          · rw [g1] at hx5 ⊢
            subst hx5
            simp [Hanging_whyNotJoin_123, Hanging_whyNotJoin_151, Hanging_whyNotJoin_152, show wr (-1) = -1 from rfl]
          · rw [g1] at hx5 ⊢
            subst hx5
            have hg := ha.2 g (by omega)
            have e4 : ((ρ g).toNat : Int) = ρ g := Int.toNat_of_nonneg (by omega)
            have hs := sagB_s (d := d + 1) hw hi hr (show g < N by omega) (show (ρ g).toNat < R by omega)
            have hrng := sagB_rng hw hi hr (show g < N by omega) (show (ρ g).toNat < R by omega)
            rw [e4] at hs
            have hg1 : ¬ ((g : Int) = -1) := by omega
            simp only [Hanging_whyNotJoin_123, wrn (show g ≤ 2147483647 by omega), hg1, if_false, Hanging_whyNotJoin_129, ha.1.1, ha.1.2.1, if_true, if_pos (ha.1.row (show g < 12 by omega)), ix_nat (show g ≤ 2147483647 by omega), hg.1, hw.1.1, hs, bak_v, Hanging_whyNotJoin_144, Hanging_whyNotJoin_147, Hanging_whyNotJoin_151, Hanging_whyNotJoin_152, Int.toNat_natCast, wr_id (show -2147483648 ≤ sagB P Q i r g (ρ g).toNat by omega) (show sagB P Q i r g (ρ g).toNat ≤ 2147483647 by omega)]
            by_cases h9 : sagB P Q i r g (ρ g).toNat < 0 <;> simp [h9]
        have s97 : EX (d + 2) 43 97 [(0, .inr (.inr a)), (1, .inr (.inr w)), (2, .inl (i : Int)), (3, .inl (r : Int)), (4, .inl (prv ρ i)), (5, .inl (nxt ρ (i + 1) (N - (i + 1))))] [] h = some (.inl (if ¬ prv ρ i = -1 ∧ sagB P Q (prv ρ i).toNat (ρ (prv ρ i).toNat).toNat i r < 0 then 4 else if ¬ nxt ρ (i + 1) (N - (i + 1)) = -1 ∧ sagB P Q i r (nxt ρ (i + 1) (N - (i + 1))).toNat (ρ (nxt ρ (i + 1) (N - (i + 1))).toNat).toNat < 0 then 4 else 0), h) := by
          rw [Hanging_whyNotJoin_97]
          rcases prv_spec ρ i with g1 | ⟨g, g1, g2, g3⟩
          · rw [g1, show wr (-1) = -1 from rfl, if_pos rfl, fin _ rfl]
            simp
          · rw [g1, wrn (show g ≤ 2147483647 by omega), if_neg (by omega)]
            have hg := ha.2 g (by omega)
            have e4 : ((ρ g).toNat : Int) = ρ g := Int.toNat_of_nonneg (by omega)
            have hs := sagB_s (d := d + 1) hw (show g < N by omega) (show (ρ g).toNat < R by omega) hi hr
            have hrng := sagB_rng hw (show g < N by omega) (show (ρ g).toNat < R by omega) hi hr
            rw [e4] at hs
            have hg1 : ¬ ((g : Int) = -1) := by omega
            simp only [Hanging_whyNotJoin_103, ha.1.1, ha.1.2.1, if_true, if_pos (ha.1.row (show g < 12 by omega)), ix_nat (show g ≤ 2147483647 by omega), hg.1, hw.1.1, hs, bak_v, Hanging_whyNotJoin_118, Hanging_whyNotJoin_121, Int.toNat_natCast, wr_id (show -2147483648 ≤ sagB P Q g (ρ g).toNat i r by omega) (show sagB P Q g (ρ g).toNat i r ≤ 2147483647 by omega), fin _ rfl, hg1]
            by_cases h9 : sagB P Q g (ρ g).toNat i r < 0 <;> simp [h9]
        have s78 : EX (d + 2) 43 78 [(0, .inr (.inr a)), (1, .inr (.inr w)), (2, .inl (i : Int)), (3, .inl (r : Int)), (4, .inl (prv ρ i)), (5, .inl (nxt ρ (i + 1) (N - (i + 1))))] [] h = some (.inl (if ¬ nxt ρ (i + 1) (N - (i + 1)) = -1 ∧ ρ (nxt ρ (i + 1) (N - (i + 1))).toNat < r then 3 else if ¬ prv ρ i = -1 ∧ sagB P Q (prv ρ i).toNat (ρ (prv ρ i).toNat).toNat i r < 0 then 4 else if ¬ nxt ρ (i + 1) (N - (i + 1)) = -1 ∧ sagB P Q i r (nxt ρ (i + 1) (N - (i + 1))).toNat (ρ (nxt ρ (i + 1) (N - (i + 1))).toNat).toNat < 0 then 4 else 0), h) := by
          rw [Hanging_whyNotJoin_78]
          rcases nxt_spec ρ (N - (i + 1)) (i + 1) with g1 | ⟨g, g1, g2, g3, g4⟩
          · rw [g1] at s97 ⊢
            rw [show wr (-1) = -1 from rfl, if_pos rfl, s97]
            simp
          · have hg := ha.2 g (by omega)
            have hg1 : ¬ ((g : Int) = -1) := by omega
            rw [g1] at s97 ⊢
            rw [wrn (show g ≤ 2147483647 by omega), if_neg (by omega)]
            simp only [Hanging_whyNotJoin_84, ha.1.1, ha.1.2.1, if_true, if_pos (ha.1.row (show g < 12 by omega)), ix_nat (show g ≤ 2147483647 by omega), hg.1, ha.wr hR12 (show g < 12 by omega), wrn (show r ≤ 2147483647 by omega), Hanging_whyNotJoin_95, s97, Int.toNat_natCast, hg1]
            by_cases h9 : ρ g < (r : Int) <;> simp [h9]
        rcases prv_spec ρ i with g1 | ⟨g, g1, g2, g3⟩
        · rw [g1] at s78 ⊢
          rw [show wr (-1) = -1 from rfl, if_pos rfl, s78]
          simp
        · have hg := ha.2 g (by omega)
          have hg1 : ¬ ((g : Int) = -1) := by omega
          rw [g1] at s78 ⊢
          rw [wrn (show g ≤ 2147483647 by omega), if_neg (by omega)]
          simp only [Hanging_whyNotJoin_67, ha.1.1, ha.1.2.1, if_true, if_pos (ha.1.row (show g < 12 by omega)), ix_nat (show g ≤ 2147483647 by omega), hg.1, ha.wr hR12 (show g < 12 by omega), wrn (show r ≤ 2147483647 by omega), Hanging_whyNotJoin_95, s78, Int.toNat_natCast, hg1]
          by_cases h9 : (r : Int) < ρ g <;> simp [h9]
      · have hq : ¬ ((q : Int) = -1) := by omega
        simp [h3, wrn (show q ≤ 2147483647 by omega), hq, Hanging_whyNotJoin_44]
    · simp [h2, show wr 1 = 1 from rfl, Hanging_whyNotJoin_44]
  · simp [h1, show wr 1 = 1 from rfl]
