theorem nxt_spec (ρ : Nat → Int) : ∀ (n i : Nat), nxt ρ i n = -1 ∨ ∃ g : Nat, nxt ρ i n = (g : Int) ∧ i ≤ g ∧ g < i + n ∧ ρ g ≠ -1 := by
  intro n
  induction n with
  | zero => intro i; exact Or.inl rfl
  | succ n ih =>
    intro i
    unfold nxt
    by_cases h1 : ρ i = -1
    · rw [if_pos h1]
      rcases ih (i + 1) with h2 | ⟨g, h2, h3, h4, h5⟩
      · exact Or.inl h2
      · exact Or.inr ⟨g, h2, by omega, by omega, h5⟩
    · rw [if_neg h1]
      exact Or.inr ⟨i, rfl, by omega, by omega, h1⟩
theorem prv_spec (ρ : Nat → Int) : ∀ (i : Nat), prv ρ i = -1 ∨ ∃ g : Nat, prv ρ i = (g : Int) ∧ g < i ∧ ρ g ≠ -1 := by
  intro i
  induction i with
  | zero => exact Or.inl rfl
  | succ i ih =>
    unfold prv
    by_cases h1 : ρ i = -1
    · rw [if_pos h1]
      rcases ih with h2 | ⟨g, h2, h3, h4⟩
      · exact Or.inl h2
      · exact Or.inr ⟨g, h2, by omega, h4⟩
    · rw [if_neg h1]
      exact Or.inr ⟨i, rfl, by omega, h1⟩
/-- cloth less gaps between two joined hooks -/
def sagB (P Q : Nat → Int) (i r g s : Nat) : Int := P g - P i - (Q s - Q r)
theorem sagB_s {d w N R a b g s : Nat} {P Q : Nat → Int} {h : Hp} (hw : WinV h w N R P Q) (ha : a < N) (hb : b < R) (hg : g < N) (hs : s < R) : cal (d + 1) m_Window_sagBetween [.inr (.inr w), .inl (a : Int), .inl (b : Int), .inl (g : Int), .inl (s : Int)] h = some (.inl (sagB P Q a b g s), h) := by
  obtain ⟨hw1, -, -, hN, hR, hP, hQ⟩ := hw
  rw [sag_s d w a b g s h hw1 (by omega) (by omega) (by omega) (by omega), (hP g hg).1, (hP a ha).1, (hQ s hs).1, (hQ b hb).1]
  rfl
theorem sagB_rng {h : Hp} {w N R a b g s : Nat} {P Q : Nat → Int} (hw : WinV h w N R P Q) (ha : a < N) (hb : b < R) (hg : g < N) (hs : s < R) : -2200 ≤ sagB P Q a b g s ∧ sagB P Q a b g s ≤ 2200 := by
  obtain ⟨-, -, -, -, -, hP, hQ⟩ := hw
  have h1 := hP a ha
  have h2 := hP g hg
  have h3 := hQ b hb
  have h4 := hQ s hs
  unfold sagB
  omega
/-- the sag of hook i, or NONE -/
def sagV (P Q ρ : Nat → Int) (N i : Nat) : Int := if ρ i = -1 ∨ nxt ρ (i + 1) (N - (i + 1)) = -1 then -1 else sagB P Q i (ρ i).toNat (nxt ρ (i + 1) (N - (i + 1))).toNat (ρ (nxt ρ (i + 1) (N - (i + 1))).toNat).toNat
theorem sagOf_s {d a w N R i : Nat} {P Q ρ : Nat → Int} {h : Hp} (hw : WinV h w N R P Q) (ha : HangV h a R ρ) (hi : i < N) : cal (d + 3) m_Hanging_sagOf [.inr (.inr a), .inr (.inr w), .inl (i : Int)] h = some (.inl (sagV P Q ρ N i), h) := by
  have hN12 := hw.2.2.2.1
  have hR12 := hw.2.2.2.2.1
  show EX (d + 2) m_Hanging_sagOf 0 [(0, .inr (.inr a)), (1, .inr (.inr w)), (2, .inl (i : Int))] [] h = _
  simp only [Hanging_sagOf_0, ha.1.1, if_true, behind_s hw ha hi, bak_v, Hanging_sagOf_6, isJoined_s ha hR12 (show i < 12 by omega), Hanging_sagOf_12, Hanging_sagOf_15, Hanging_sagOf_20, Hanging_sagOf_22, Hanging_sagOf_40]
  unfold sagV
  have hi2 := ha.2 i (by omega)
  by_cases h1 : ρ i = -1
  · simp [h1, show wr 0 = 0 from rfl]
  · rcases nxt_spec ρ (N - (i + 1)) (i + 1) with h2 | ⟨g, h2, h3, h4, h5⟩
    · simp [h1, h2, show wr 1 = 1 from rfl, show wr (-1) = -1 from rfl]
    · have hg := ha.2 g (by omega)
      have e1 : ((ρ i).toNat : Int) = ρ i := Int.toNat_of_nonneg (by omega)
      have e2 : ((ρ g).toNat : Int) = ρ g := Int.toNat_of_nonneg (by omega)
      have hs := sagB_s (d := d + 1) hw hi (show (ρ i).toNat < R by omega) (show g < N by omega) (show (ρ g).toNat < R by omega)
      rw [e1, e2] at hs
      simp only [h2, h1, if_false, show wr 1 = 1 from rfl, wrn (show g ≤ 2147483647 by omega), ha.1.1, ha.1.2.1, if_true, if_pos (ha.1.row (show i < 12 by omega)), if_pos (ha.1.row (show g < 12 by omega)), ix_nat (show i ≤ 2147483647 by omega), ix_nat (show g ≤ 2147483647 by omega), hi2.1, hg.1, hw.1.1, hs, bak_v, Int.toNat_natCast]
      rw [if_neg (by decide), if_neg (by omega)]
      have hg1 : ¬ ((g : Int) = -1) := by omega
      simp [hg1, Hanging_sagOf_40]
theorem sagV_rng {h : Hp} {a w N R i : Nat} {P Q ρ : Nat → Int} (hw : WinV h w N R P Q) (ha : HangV h a R ρ) (hi : i < N) : -2200 ≤ sagV P Q ρ N i ∧ sagV P Q ρ N i ≤ 2200 := by
  unfold sagV
  have hN12 := hw.2.2.2.1
  by_cases h1 : ρ i = -1
  · simp [h1]
  · rcases nxt_spec ρ (N - (i + 1)) (i + 1) with h2 | ⟨g, h2, h3, h4, h5⟩
    · simp [h2]
    · have hi2 := ha.2 i (by omega)
      have hg := ha.2 g (by omega)
      rw [h2, if_neg (by omega)]
      exact sagB_rng hw hi (by omega) (by simp; omega) (by simp; omega)
/-- how many of n hooks from i on are joined -/
def jnd (ρ : Nat → Int) : Nat → Nat → Int
  | _, 0 => 0
  | i, n + 1 => (if ρ i = -1 then 0 else 1) + jnd ρ (i + 1) n
theorem joinedIn_l {d a w N R : Nat} {P Q ρ : Nat → Int} {h : Hp} (hw : WinV h w N R P Q) (ha : HangV h a R ρ) : ∀ (n i : Nat) (f : Int), i + n = N → EX (d + 1) m_Hanging_joinedIn 4 [(0, .inr (.inr a)), (1, .inr (.inr w)), (2, .inl f), (3, .inl (i : Int))] [] h = some (.inl (f + jnd ρ i n), h) := by
  obtain ⟨hw1, hN, -, hN12, hR12, -⟩ := hw
  intro n
  induction n with
  | zero =>
    intro i f hi
    simp only [Hanging_joinedIn_4, hw1.1, if_true, hN, wrn (show i ≤ 2147483647 by omega), wrn (show N ≤ 2147483647 by omega)]
    rw [if_neg (by omega), Hanging_joinedIn_29]
    simp [jnd]
  | succ n ih =>
    intro i f hi
    simp only [Hanging_joinedIn_4, hw1.1, if_true, hN, wrn (show i ≤ 2147483647 by omega), wrn (show N ≤ 2147483647 by omega)]
    rw [if_pos (by omega)]
    simp only [Hanging_joinedIn_12, ha.1.1, if_true, isJoined_s ha hR12 (show i < 12 by omega), bak_v, Hanging_joinedIn_17, Hanging_joinedIn_20, Hanging_joinedIn_23, jnd]
    by_cases h1 : ρ i = -1
    · have := ih (i + 1) f (by omega)
      simpa [h1, show wr 0 = 0 from rfl] using this
    · have := ih (i + 1) (f + 1) (by omega)
      simp [h1, show wr 1 = 1 from rfl]
      rw [show f + (1 + jnd ρ (i + 1) n) = f + 1 + jnd ρ (i + 1) n by omega]
      exact this
theorem joinedIn_s {d a w N R : Nat} {P Q ρ : Nat → Int} {h : Hp} (hw : WinV h w N R P Q) (ha : HangV h a R ρ) : cal (d + 2) m_Hanging_joinedIn [.inr (.inr a), .inr (.inr w)] h = some (.inl (jnd ρ 0 N), h) := by
  show EX (d + 1) m_Hanging_joinedIn 0 [(0, .inr (.inr a)), (1, .inr (.inr w))] [] h = _
  rw [Hanging_joinedIn_0]
  have := joinedIn_l (d := d) hw ha N 0 0 (by omega)
  simpa using this
