/-! Hanging, over views: N hooks, R rings, P Q: where hooks and rings lie, ρ: the ring of each hook (-1: none) -/
def WinV (h : Hp) (w N R : Nat) (P Q : Nat → Int) : Prop := WinAt h w ∧ hI h w 5 = N ∧ hI h w 6 = R ∧ N ≤ 12 ∧ R ≤ 12 ∧ (∀ i, i < N → hI h (w + 1) i = P i ∧ 0 ≤ P i ∧ P i ≤ 1100) ∧ (∀ i, i < R → hI h (w + 2) i = Q i ∧ 0 ≤ Q i ∧ Q i ≤ 1100)
def HangAt (h : Hp) (a : Nat) : Prop := sK h a = 0 ∧ hR h a 0 = a + 1 ∧ sK h (a + 1) = 20 ∧ sN h (a + 1) = 12
theorem HangAt.row {h : Hp} {a : Nat} (ha : HangAt h a) {i : Nat} (hi : i < 12) : okx h (a + 1) 20 (i : Int) := okx_nat ha.2.2.1 ha.2.2.2 hi (by omega)
def HangV (h : Hp) (a R : Nat) (ρ : Nat → Int) : Prop := HangAt h a ∧ ∀ i, i < 12 → hI h (a + 1) i = ρ i ∧ -1 ≤ ρ i ∧ ρ i < R
theorem HangV.wr {h : Hp} {a R : Nat} {ρ : Nat → Int} (hv : HangV h a R ρ) (hR : R ≤ 12) {i : Nat} (hi : i < 12) : wr (ρ i) = ρ i := by
  obtain ⟨-, h1, h2⟩ := hv.2 i hi
  exact wr_id (by omega) (by omega)
theorem wrn {n : Nat} (h : n ≤ 2147483647) : wr (n : Int) = n := wr_id (by omega) (by omega)
theorem isJoined_s {d a i R : Nat} {h : Hp} {ρ : Nat → Int} (ha : HangV h a R ρ) (hR : R ≤ 12) (hi : i < 12) : cal (d + 1) m_Hanging_isJoined [.inr (.inr a), .inl (i : Int)] h = some (.inl (if ρ i = -1 then 0 else 1), h) := by
  show EX d m_Hanging_isJoined 0 [(0, .inr (.inr a)), (1, .inl (i : Int))] [] h = _
  simp only [Hanging_isJoined_0, Hanging_isJoined_4, Hanging_isJoined_10, Hanging_isJoined_20, Hanging_isJoined_24, Hanging_isJoined_25, wrn (show i ≤ 2147483647 by omega), ha.1.1, ha.1.2.1, if_true, if_pos (ha.1.row hi), ix_nat (show i ≤ 2147483647 by omega), (ha.2 i hi).1, ha.wr hR hi]
  rw [if_neg (by omega), if_pos (by omega)]
  by_cases h1 : ρ i = -1 <;> simp [h1]
/-- the first hook from i on at ring r, or NONE -/
def hookF (ρ : Nat → Int) (r : Int) : Nat → Nat → Int
  | _, 0 => -1
  | i, n + 1 => if ρ i = r then (i : Int) else hookF ρ r (i + 1) n
theorem hookOn_l {d a w N R : Nat} {P Q ρ : Nat → Int} {r : Int} {h : Hp} (hw : WinV h w N R P Q) (ha : HangV h a R ρ) : ∀ (n i : Nat), i + n = N → EX d m_Hanging_hookOn 2 [(0, .inr (.inr a)), (1, .inr (.inr w)), (2, .inl r), (3, .inl (i : Int))] [] h = some (.inl (hookF ρ (wr r) i n), h) := by
  obtain ⟨hw1, hN, -, hN12, hR12, -⟩ := hw
  intro n
  induction n with
  | zero =>
    intro i hi
    simp only [Hanging_hookOn_2, hw1.1, if_true, hN, wrn (show i ≤ 2147483647 by omega), wrn (show N ≤ 2147483647 by omega)]
    rw [if_neg (by omega), Hanging_hookOn_28]
    rfl
  | succ n ih =>
    intro i hi
    simp only [Hanging_hookOn_2, hw1.1, if_true, hN, wrn (show i ≤ 2147483647 by omega), wrn (show N ≤ 2147483647 by omega)]
    rw [if_pos (by omega)]
    simp only [Hanging_hookOn_10, ha.1.1, ha.1.2.1, if_true, if_pos (ha.1.row (show i < 12 by omega)), ix_nat (show i ≤ 2147483647 by omega), (ha.2 i (by omega)).1, ha.wr hR12 (show i < 12 by omega), Hanging_hookOn_20, Hanging_hookOn_22, hookF]
    by_cases h1 : ρ i = wr r
    · rw [if_pos h1, if_pos h1]
    · rw [if_neg h1, if_neg h1]
      exact ih (i + 1) (by omega)
theorem hookOn_s {d a w N R : Nat} {P Q ρ : Nat → Int} {r : Int} {h : Hp} (hw : WinV h w N R P Q) (ha : HangV h a R ρ) : cal (d + 1) m_Hanging_hookOn [.inr (.inr a), .inr (.inr w), .inl r] h = some (.inl (hookF ρ (wr r) 0 N), h) := by
  show EX d m_Hanging_hookOn 0 [(0, .inr (.inr a)), (1, .inr (.inr w)), (2, .inl r)] [] h = _
  rw [Hanging_hookOn_0]
  exact hookOn_l hw ha N 0 (by omega)
/-- the first joined hook from i on, or NONE -/
def nxt (ρ : Nat → Int) : Nat → Nat → Int
  | _, 0 => -1
  | i, n + 1 => if ρ i = -1 then nxt ρ (i + 1) n else (i : Int)
theorem behind_l {d a w N R : Nat} {P Q ρ : Nat → Int} {h : Hp} (hw : WinV h w N R P Q) (ha : HangV h a R ρ) : ∀ (n i : Nat), (i + n = N ∨ (n = 0 ∧ N ≤ i)) → i ≤ 1000 → EX (d + 1) m_Hanging_joinedBehind 4 [(0, .inr (.inr a)), (1, .inr (.inr w)), (3, .inl (i : Int))] [] h = some (.inl (nxt ρ i n), h) := by
  obtain ⟨hw1, hN, -, hN12, hR12, -⟩ := hw
  intro n
  induction n with
  | zero =>
    intro i hi hb
    simp only [Hanging_joinedBehind_4, hw1.1, if_true, hN, wrn (show i ≤ 2147483647 by omega), wrn (show N ≤ 2147483647 by omega)]
    rw [if_neg (by omega), Hanging_joinedBehind_28]
    rfl
  | succ n ih =>
    intro i hi hb
    simp only [Hanging_joinedBehind_4, hw1.1, if_true, hN, wrn (show i ≤ 2147483647 by omega), wrn (show N ≤ 2147483647 by omega)]
    rw [if_pos (by omega)]
    simp only [Hanging_joinedBehind_12, ha.1.1, if_true, isJoined_s ha hR12 (show i < 12 by omega), bak_v, Hanging_joinedBehind_17, Hanging_joinedBehind_20, Hanging_joinedBehind_22, nxt]
    by_cases h1 : ρ i = -1
    · simp only [h1, if_true]
      simp only [show wr 0 = 0 from rfl]
      have := ih (i + 1) (by omega) (by omega)
      simpa using this
    · simp only [h1, if_false]
      simp [show wr 1 = 1 from rfl]
theorem behind_s {d a w N R i : Nat} {P Q ρ : Nat → Int} {h : Hp} (hw : WinV h w N R P Q) (ha : HangV h a R ρ) (hi : i < N) : cal (d + 2) m_Hanging_joinedBehind [.inr (.inr a), .inr (.inr w), .inl (i : Int)] h = some (.inl (nxt ρ (i + 1) (N - (i + 1))), h) := by
  have hN12 := hw.2.2.2.1
  show EX (d + 1) m_Hanging_joinedBehind 0 [(0, .inr (.inr a)), (1, .inr (.inr w)), (2, .inl (i : Int))] [] h = _
  rw [Hanging_joinedBehind_0]
  exact behind_l hw ha (N - (i + 1)) (i + 1) (by omega) (by omega)
/-- the last joined hook below i, or NONE -/
def prv (ρ : Nat → Int) : Nat → Int
  | 0 => -1
  | i + 1 => if ρ i = -1 then prv ρ i else (i : Int)
theorem ahead_l {d a R : Nat} {ρ : Nat → Int} {h : Hp} (ha : HangV h a R ρ) (hR : R ≤ 12) : ∀ (i : Nat), i ≤ 12 → EX (d + 1) m_Hanging_joinedAhead 4 [(0, .inr (.inr a)), (2, .inl ((i : Int) - 1))] [] h = some (.inl (prv ρ i), h) := by
  intro i
  induction i with
  | zero =>
    intro _
    simp only [Hanging_joinedAhead_4, Hanging_joinedAhead_24]
    rw [if_pos (by decide)]
    rfl
  | succ i ih =>
    intro hi
    have e : ((i + 1 : Nat) : Int) - 1 = (i : Int) := by omega
    rw [e]
    simp only [Hanging_joinedAhead_4, wrn (show i ≤ 2147483647 by omega)]
    rw [if_neg (by omega)]
    simp only [Hanging_joinedAhead_8, ha.1.1, if_true, isJoined_s ha hR (show i < 12 by omega), bak_v, Hanging_joinedAhead_13, Hanging_joinedAhead_16, Hanging_joinedAhead_18, prv]
    by_cases h1 : ρ i = -1
    · simp only [h1, if_true]
      simp only [show wr 0 = 0 from rfl]
      have := ih (by omega)
      rw [show (i : Int) - 1 = (i : Int) + -1 by omega] at this
      simpa using this
    · simp only [h1, if_false]
      simp [show wr 1 = 1 from rfl]
theorem ahead_s {d a R i : Nat} {ρ : Nat → Int} {h : Hp} (ha : HangV h a R ρ) (hR : R ≤ 12) (hi : i ≤ 12) : cal (d + 2) m_Hanging_joinedAhead [.inr (.inr a), .inl (i : Int)] h = some (.inl (prv ρ i), h) := by
  show EX (d + 1) m_Hanging_joinedAhead 0 [(0, .inr (.inr a)), (1, .inl (i : Int))] [] h = _
  rw [Hanging_joinedAhead_0]
  exact ahead_l ha hR i hi
