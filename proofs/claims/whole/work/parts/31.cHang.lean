/-! Hanging -/
def HangAt (h : Hp) (a : Nat) : Prop := sK h a = 0 ∧ hR h a 0 = a + 1 ∧ sK h (a + 1) = 20 ∧ sN h (a + 1) = 12
theorem HangAt.row {h : Hp} {a : Nat} (ha : HangAt h a) {i : Nat} (hi : i < 12) : okx h (a + 1) 20 (i : Int) := okx_nat ha.2.2.1 ha.2.2.2 hi (by omega)
/-- the ring of a hook -/
def rg (h : Hp) (a : Nat) (i : Nat) : Int := hI h (a + 1) i
theorem isJoined_s (d a i : Nat) (h : Hp) (ha : HangAt h a) (hi : i < 12) : cal (d + 1) m_Hanging_isJoined [.inr (.inr a), .inl i] h = some (.inl (if wr (rg h a i) = -1 then 0 else 1), h) := by
  show EX d m_Hanging_isJoined 0 [(0, .inr (.inr a)), (1, .inl (i : Int))] [] h = _
  have e : wr (i : Int) = i := wr_id (by omega) (by omega)
  simp only [Hanging_isJoined_0, Hanging_isJoined_4, Hanging_isJoined_10, Hanging_isJoined_20, Hanging_isJoined_24, Hanging_isJoined_25, e, ha.1, ha.2.1, if_true, if_pos (ha.row hi), ix_nat (show i ≤ 2147483647 by omega)]
  rw [if_neg (by omega), if_pos (by omega)]
  unfold rg
  by_cases h1 : wr (hI h (a + 1) i) = -1 <;> simp [h1]
/-- the first hook from i on at ring r, or NONE -/
def hookFrom (h : Hp) (a : Nat) (r : Int) : Nat → Nat → Int
  | _, 0 => -1
  | i, n + 1 => if wr (rg h a i) = r then (i : Int) else hookFrom h a r (i + 1) n
theorem hookOn_l (d a w : Nat) (r : Int) (h : Hp) (ha : HangAt h a) (hw : sK h w = 9) (N : Nat) (hN : wr (hI h w 5) = N) (hN12 : N ≤ 12) : ∀ (n i : Nat), i + n = N → EX d m_Hanging_hookOn 2 [(0, .inr (.inr a)), (1, .inr (.inr w)), (2, .inl r), (3, .inl (i : Int))] [] h = some (.inl (hookFrom h a (wr r) i n), h) := by
  intro n
  induction n with
  | zero =>
    intro i hi
    have e : wr (i : Int) = i := wr_id (by omega) (by omega)
    simp only [Hanging_hookOn_2, hw, if_true, hN, e]
    rw [if_neg (by omega)]
    simp only [Hanging_hookOn_28]
    rfl
  | succ n ih =>
    intro i hi
    have e : wr (i : Int) = i := wr_id (by omega) (by omega)
    simp only [Hanging_hookOn_2, hw, if_true, hN, e]
    rw [if_pos (by omega)]
    simp only [Hanging_hookOn_10, ha.1, ha.2.1, if_true, if_pos (ha.row (show i < 12 by omega)), ix_nat (show i ≤ 2147483647 by omega)]
    unfold hookFrom rg
    by_cases h1 : wr (hI h (a + 1) i) = wr r
    · rw [if_pos h1, if_pos h1]
      simp only [Hanging_hookOn_20]
    · rw [if_neg h1, if_neg h1]
      simp only [Hanging_hookOn_22]
      have := ih (i + 1) (by omega)
      rw [show ((i + 1 : Nat) : Int) = (i : Int) + 1 from rfl] at this
      exact this
