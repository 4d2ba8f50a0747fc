/-! bits of an or -/
theorem bt_get {a z : Int} (h0 : 0 ≤ z) (h1 : z < 32) : bt a z = if (BitVec.ofInt 32 a).getLsbD z.toNat = true then 1 else 0 := by
  obtain ⟨x, rfl⟩ := Int.eq_ofNat_of_zero_le h0
  have hx : x < 32 := by omega
  have e1 : (BitVec.ofInt 32 a).toNat = (a % 4294967296).toNat := BitVec.toNat_ofInt ..
  have h4 := bt_mod a x 32 hx
  have h5 : ((a % 4294967296).toNat : Int) = a % 2 ^ 32 := Int.toNat_of_nonneg (Int.emod_nonneg _ (by decide))
  have e2 : (BitVec.ofInt 32 a).getLsbD x = decide ((a % 4294967296).toNat / 2 ^ x % 2 = 1) := by
    show (BitVec.ofInt 32 a).toNat.testBit x = _
    rw [e1, Nat.testBit_eq_decide_div_mod_eq]
  rw [Int.toNat_natCast, e2]
  unfold bt
  rw [Int.toNat_natCast, ← h4, ← h5]
  generalize (a % 4294967296).toNat = n
  have e3 : (n : Int) / 2 ^ x % 2 = ((n / 2 ^ x % 2 : Nat) : Int) := by
    rw [Int.natCast_emod, Int.natCast_ediv, Int.natCast_pow]
    rfl
  rw [e3]
  have : n / 2 ^ x % 2 < 2 := Nat.mod_lt _ (by decide)
  by_cases c : n / 2 ^ x % 2 = 1
  · simp [c]
  · have : n / 2 ^ x % 2 = 0 := by omega
    simp [this]
theorem bOr_bv (a b : Int) : BitVec.ofInt 32 (bOr a b) = BitVec.ofInt 32 a ||| BitVec.ofInt 32 b := by
  unfold bOr
  show BitVec.ofInt 32 ((BitVec.ofInt 32 a ||| BitVec.ofInt 32 b).toInt) = _
  exact BitVec.ofInt_toInt
theorem bt_bOr {a b z : Int} (h0 : 0 ≤ z) (h1 : z < 32) : bt (bOr a b) z = if bt a z = 1 ∨ bt b z = 1 then 1 else 0 := by
  rw [bt_get h0 h1, bOr_bv, bt_get h0 h1, bt_get h0 h1, BitVec.getLsbD_or]
  cases (BitVec.ofInt 32 a).getLsbD z.toNat <;> cases (BitVec.ofInt 32 b).getLsbD z.toNat <;> simp
theorem bt_pw {r z : Int} (r0 : 0 ≤ r) (z0 : 0 ≤ z) : bt (pw r) z = if z = r then 1 else 0 := by
  obtain ⟨x, rfl⟩ := Int.eq_ofNat_of_zero_le r0
  obtain ⟨y, rfl⟩ := Int.eq_ofNat_of_zero_le z0
  unfold bt pw
  rw [Int.toNat_natCast, Int.toNat_natCast]
  have e : (2 : Int) ^ x / 2 ^ y % 2 = ((2 ^ x / 2 ^ y % 2 : Nat) : Int) := by
    rw [Int.natCast_emod, Int.natCast_ediv, Int.natCast_pow, Int.natCast_pow]
    rfl
  rw [e]
  by_cases c : y = x
  · subst c
    rw [if_pos rfl, Nat.div_self (Nat.pow_pos (by decide))]
    rfl
  · rw [if_neg (by omega)]
    by_cases c2 : x < y
    · rw [Nat.div_eq_of_lt (Nat.pow_lt_pow_right (by decide) c2)]
      rfl
    · rw [Nat.pow_div (by omega) (by decide), show x - y = (x - y - 1) + 1 by omega, Nat.pow_succ, Nat.mul_mod_left]
      rfl
theorem bOr_nat {a b : Nat} (ha : a < 2147483648) (hb : b < 2147483648) : bOr (a : Int) (b : Int) = ((a ||| b : Nat) : Int) := by
  unfold bOr
  have e : (Int32.ofInt (a : Int) ||| Int32.ofInt (b : Int)).toBitVec.toNat = a ||| b := by
    rw [Int32.toBitVec_or, BitVec.toNat_or]
    have e1 : (Int32.ofInt (a : Int)).toBitVec.toNat = ((a : Int) % 4294967296).toNat := BitVec.toNat_ofInt ..
    have e2 : (Int32.ofInt (b : Int)).toBitVec.toNat = ((b : Int) % 4294967296).toNat := BitVec.toNat_ofInt ..
    rw [e1, e2, show ((a : Int) % 4294967296).toNat = a by omega, show ((b : Int) % 4294967296).toNat = b by omega]
  have hl : a ||| b < 2 ^ 31 := Nat.or_lt_two_pow (by omega) (by omega)
  show (Int32.ofInt (a : Int) ||| Int32.ofInt (b : Int)).toBitVec.toInt = _
  rw [BitVec.toInt_eq_toNat_of_lt (by rw [e]; omega), e]
theorem bOr_lt {a b : Int} {k : Nat} (hk : k ≤ 31) (ha : 0 ≤ a ∧ a < 2 ^ k) (hb : 0 ≤ b ∧ b < 2 ^ k) : 0 ≤ bOr a b ∧ bOr a b < 2 ^ k := by
  obtain ⟨x, rfl⟩ := Int.eq_ofNat_of_zero_le ha.1
  obtain ⟨y, rfl⟩ := Int.eq_ofNat_of_zero_le hb.1
  have h2 : (2 : Nat) ^ k ≤ 2 ^ 31 := Nat.pow_le_pow_right (by decide) hk
  have ha2 : x < 2 ^ k := by have := ha.2; exact_mod_cast this
  have hb2 : y < 2 ^ k := by have := hb.2; exact_mod_cast this
  rw [bOr_nat (by omega) (by omega)]
  have := Nat.or_lt_two_pow ha2 hb2
  exact ⟨by omega, by exact_mod_cast this⟩
/-! sums in two ways -/
theorem sm_swap {f : Int → Int → Int} {a b d : Int} : ∀ c, sm (fun i => sm (fun j => f i j) a b) c d = sm (fun j => sm (fun i => f i j) c d) a b := by
  refine up_ind (hi := d) ?_ ?_
  · intro c hc
    rw [sm_stop hc, sm_0 (f := fun j => sm (fun i => f i j) c d) a (fun j _ _ => sm_stop hc)]
  · intro c hc ih
    rw [sm_step hc, ih, ← sm_add]
    exact sm_congr a (fun j _ _ => (sm_step (f := fun i => f i j) hc).symm)
theorem sm_one {f : Int → Int} {N x : Int} (hx : 0 ≤ x ∧ x < N) (h : ∀ j, 0 ≤ j → j < N → ¬ j = x → f j = 0) : sm f 0 N = f x := by
  rw [sm_split (M := x) (by omega) 0 hx.1, sm_step hx.2, sm_0 0 (fun j j0 j1 => h j j0 (by omega) (by omega)), sm_0 (x + 1) (fun j j0 j1 => h j (by omega) j1 (by omega))]
  omega
theorem sm_from {f : Int → Int} {N h : Int} (h0 : -1 ≤ h) : sm f (h + 1) N = sm (fun g => if h < g then f g else 0) 0 N := by
  by_cases c : h + 1 ≤ N
  · rw [sm_split (f := fun g => if h < g then f g else 0) c 0 (by omega), sm_0 (f := fun g => if h < g then f g else 0) 0 (fun j j0 j1 => by rw [if_neg (by omega)]), Int.zero_add]
    exact sm_congr _ (fun j j0 j1 => by rw [if_pos (by omega)])
  · rw [sm_stop (by omega)]
    by_cases c2 : 0 ≤ N
    · exact (sm_0 (f := fun g => if h < g then f g else 0) 0 (fun j j0 j1 => by rw [if_neg (by omega)])).symm
    · rw [sm_stop (by omega)]
/-- over all hooks and rings -/
def ss (N R : Int) (f : Int → Int → Int) : Int := sm (fun g => sm (fun s => f g s) 0 R) 0 N
theorem ss_congr {N R : Int} {f f' : Int → Int → Int} (h : ∀ g s, 0 ≤ g → g < N → 0 ≤ s → s < R → f g s = f' g s) : ss N R f = ss N R f' := sm_congr 0 (fun g g0 g1 => sm_congr 0 (fun s s0 s1 => h g s g0 g1 s0 s1))
theorem ss_add {N R : Int} {f f' : Int → Int → Int} : ss N R (fun g s => f g s + f' g s) = ss N R f + ss N R f' := by
  unfold ss
  rw [← sm_add]
  exact sm_congr 0 (fun g _ _ => sm_add 0)
theorem ss_mul {N R c : Int} {f : Int → Int → Int} : ss N R (fun g s => c * f g s) = c * ss N R f := by
  unfold ss
  rw [← sm_mul]
  exact sm_congr 0 (fun g _ _ => sm_mul 0)
theorem ss_0 {N R : Int} {f : Int → Int → Int} (h : ∀ g s, 0 ≤ g → g < N → 0 ≤ s → s < R → f g s = 0) : ss N R f = 0 := sm_0 0 (fun g g0 g1 => sm_0 0 (fun s s0 s1 => h g s g0 g1 s0 s1))
theorem ss_sm {N R a b : Int} {f : Int → Int → Int → Int} : ss N R (fun g s => sm (fun y => f g s y) a b) = sm (fun y => ss N R (fun g s => f g s y)) a b := by
  show sm (fun g => sm (fun s => sm (fun y => f g s y) a b) 0 R) 0 N = sm (fun y => sm (fun g => sm (fun s => f g s y) 0 R) 0 N) a b
  have h : ∀ g, sm (fun s => sm (fun y => f g s y) a b) 0 R = sm (fun y => sm (fun s => f g s y) 0 R) a b := fun g => sm_swap 0
  rw [sm_congr (g := fun g => sm (fun y => sm (fun s => f g s y) 0 R) a b) 0 (fun g _ _ => h g)]
  exact sm_swap 0
theorem ss_swap {N R : Int} {f : Int → Int → Int → Int → Int} : ss N R (fun g s => ss N R (fun g' s' => f g s g' s')) = ss N R (fun g' s' => ss N R (fun g s => f g s g' s')) := by
  show ss N R (fun g s => sm (fun g' => sm (fun s' => f g s g' s') 0 R) 0 N) = _
  rw [ss_sm]
  exact sm_congr 0 (fun g' _ _ => ss_sm)
/-! chains: paths to a place, through it, around it -/
def Ed (F : Int → Int → Int → Int → Bool) (h r g s : Int) : Int := if h < g ∧ r < s ∧ F h r g s = true then 1 else 0
theorem cnt_ss {F : Int → Int → Int → Int → Bool} {B : Int → Int} {N R : Int} (n : Nat) {h r : Int} (hh : -1 ≤ h) (hr : -1 ≤ r) : cnt F B N R (n + 1) h r = ss N R (fun g s => Ed F h r g s * cnt F B N R n g s) := by
  show sm (fun g => sm (fun s => if F h r g s = true then cnt F B N R n g s else 0) (r + 1) R) (h + 1) N = _
  rw [sm_from hh]
  refine sm_congr 0 (fun g g0 g1 => ?_)
  dsimp only
  by_cases c : h < g
  · rw [if_pos c, sm_from hr]
    refine sm_congr 0 (fun s s0 s1 => ?_)
    unfold Ed
    by_cases c2 : r < s
    · by_cases c3 : F h r g s = true
      · rw [if_pos c2, if_pos c3, if_pos ⟨c, c2, c3⟩, Int.one_mul]
      · rw [if_pos c2, if_neg c3, if_neg (fun q => c3 q.2.2), Int.zero_mul]
    · rw [if_neg c2, if_neg (fun q => c2 q.2.1), Int.zero_mul]
  · rw [if_neg c]
    refine (sm_0 0 (fun s s0 s1 => ?_)).symm
    unfold Ed
    rw [if_neg (fun q => c q.1), Int.zero_mul]
def pth (F : Int → Int → Int → Int → Bool) (N R : Int) : Nat → Int → Int → Int → Int → Int
  | 0, h, r, x, y => Ed F h r x y
  | k + 1, h, r, x, y => ss N R (fun g s => Ed F h r g s * pth F N R k g s x y)
theorem pth_front {F : Int → Int → Int → Int → Bool} {N R : Int} : ∀ (k : Nat) (h r x y : Int), pth F N R (k + 1) h r x y = ss N R (fun g s => pth F N R k h r g s * Ed F g s x y) := by
  intro k
  induction k with
  | zero => intro h r x y; rfl
  | succ k ih =>
    intro h r x y
    show ss N R (fun g s => Ed F h r g s * pth F N R (k + 1) g s x y) = _
    have e1 : ss N R (fun g s => Ed F h r g s * pth F N R (k + 1) g s x y) = ss N R (fun g s => ss N R (fun g' s' => Ed F h r g s * pth F N R k g s g' s' * Ed F g' s' x y)) := by
      refine ss_congr (fun g s _ _ _ _ => ?_)
      rw [ih, ← ss_mul]
      exact ss_congr (fun g' s' _ _ _ _ => (Int.mul_assoc _ _ _).symm)
    rw [e1, ss_swap]
    refine ss_congr (fun g' s' _ _ _ _ => ?_)
    show _ = ss N R (fun g s => Ed F h r g s * pth F N R k g s g' s') * Ed F g' s' x y
    rw [Int.mul_comm, ← ss_mul]
    exact ss_congr (fun g s _ _ _ _ => by rw [Int.mul_comm])
theorem pth_z {F : Int → Int → Int → Int → Bool} {N R : Int} : ∀ (k : Nat) (h r x y : Int), (x - h - 1 < k ∨ y - r - 1 < k) → pth F N R k h r x y = 0 := by
  intro k
  induction k with
  | zero =>
    intro h r x y hz
    show Ed F h r x y = 0
    unfold Ed
    rw [if_neg (by omega)]
  | succ k ih =>
    intro h r x y hz
    refine ss_0 (fun g s _ _ _ _ => ?_)
    by_cases c : h < g ∧ r < s
    · rw [ih g s x y (by omega), Int.mul_zero]
    · unfold Ed
      rw [if_neg (fun q => c ⟨q.1, q.2.1⟩), Int.zero_mul]
theorem cnt_end {F : Int → Int → Int → Int → Bool} {B : Int → Int} {N R : Int} : ∀ (n : Nat) (h r : Int), (N - 1 - h < n ∨ R - 1 - r < n) → 1 ≤ n → cnt F B N R n h r = 0 := by
  intro n
  induction n with
  | zero => intro h r _ h1; omega
  | succ n ih =>
    intro h r hz _
    refine sm_0 _ (fun g g0 g1 => sm_0 _ (fun s s0 s1 => ?_))
    by_cases c : n = 0
    · omega
    · rw [ih g s (by omega) (by omega)]
      split <;> rfl
theorem pth_nn {F : Int → Int → Int → Int → Bool} {N R : Int} : ∀ (k : Nat) (h r x y : Int), 0 ≤ pth F N R k h r x y := by
  have e0 : ∀ h r g s, 0 ≤ Ed F h r g s ∧ Ed F h r g s ≤ 1 := fun h r g s => by unfold Ed; split <;> omega
  intro k
  induction k with
  | zero => intro h r x y; exact (e0 h r x y).1
  | succ k ih =>
    intro h r x y
    exact sm_nn 0 (fun g _ _ => sm_nn 0 (fun s _ _ => Int.mul_nonneg (e0 h r g s).1 (ih g s x y)))
/-- those through one of the places (x, y), y in D -/
def thr (F : Int → Int → Int → Int → Bool) (B : Int → Int) (N R x : Int) (D : Int → Bool) (n h r : Int) : Int := sm (fun y => if D y = true then sm (fun a => pth F N R a.toNat h r x y * cnt F B N R (n - 1 - a).toNat x y) 0 n else 0) 0 R
theorem cnt_split {F F' : Int → Int → Int → Int → Bool} {B : Int → Int} {N R x : Int} {D : Int → Bool} (hx : 0 ≤ x ∧ x < N) (hF : ∀ h r g s, -1 ≤ h → -1 ≤ r → 0 ≤ g → g < N → 0 ≤ s → s < R → (F' h r g s = true ↔ (F h r g s = true ∧ ¬ (g = x ∧ D s = true)))) : ∀ (n : Nat) (h r : Int), -1 ≤ h → -1 ≤ r → cnt F B N R n h r = cnt F' B N R n h r + thr F B N R x D n h r := by
  intro n
  induction n with
  | zero =>
    intro h r _ _
    have : thr F B N R x D ((0 : Nat) : Int) h r = 0 := sm_0 0 (fun y _ _ => by split; exact sm_stop (by omega); rfl)
    rw [this]
    show B r = B r + 0
    omega
  | succ n ih =>
    intro h r hh hr
    have e1 : cnt F B N R (n + 1) h r = ss N R (fun g s => Ed F' h r g s * cnt F B N R n g s) + ss N R (fun g s => if g = x ∧ D s = true then Ed F h r x s * cnt F B N R n x s else 0) := by
      rw [cnt_ss n hh hr, ← ss_add]
      refine ss_congr (fun g s g0 g1 s0 s1 => ?_)
      have q := hF h r g s hh hr g0 g1 s0 s1
      by_cases c : g = x ∧ D s = true
      · have : Ed F' h r g s = 0 := by unfold Ed; rw [if_neg (fun z => (q.mp z.2.2).2 c)]
        rw [if_pos c, this, c.1]
        omega
      · have : Ed F' h r g s = Ed F h r g s := by
          unfold Ed
          by_cases c2 : h < g ∧ r < s ∧ F h r g s = true
          · rw [if_pos c2, if_pos ⟨c2.1, c2.2.1, q.mpr ⟨c2.2.2, c⟩⟩]
          · rw [if_neg c2, if_neg (fun z => c2 ⟨z.1, z.2.1, (q.mp z.2.2).1⟩)]
        rw [if_neg c, this]
        omega
    have e2 : ss N R (fun g s => if g = x ∧ D s = true then Ed F h r x s * cnt F B N R n x s else 0) = sm (fun y => if D y = true then pth F N R 0 h r x y * cnt F B N R n x y else 0) 0 R := by
      show sm (fun g => sm (fun s => if g = x ∧ D s = true then Ed F h r x s * cnt F B N R n x s else 0) 0 R) 0 N = _
      rw [sm_one hx (fun j j0 j1 jx => sm_0 0 (fun s _ _ => by rw [if_neg (fun z => jx z.1)]))]
      refine sm_congr 0 (fun y _ _ => ?_)
      by_cases c : D y = true
      · rw [if_pos ⟨rfl, c⟩, if_pos c]; rfl
      · rw [if_neg (fun z => c z.2), if_neg c]
    have e3 : ss N R (fun g s => Ed F' h r g s * cnt F B N R n g s) = cnt F' B N R (n + 1) h r + ss N R (fun g s => Ed F h r g s * thr F B N R x D n g s) := by
      rw [cnt_ss n hh hr, ← ss_add]
      refine ss_congr (fun g s g0 g1 s0 s1 => ?_)
      have q := hF h r g s hh hr g0 g1 s0 s1
      rw [ih g s (by omega) (by omega), Int.mul_add]
      congr 1
      by_cases c : g = x
      · have : thr F B N R x D n g s = 0 := by
          rw [c]
          refine sm_0 0 (fun y _ _ => ?_)
          split
          · refine sm_0 0 (fun a a0 a1 => ?_)
            rw [pth_z _ _ _ _ _ (by omega), Int.zero_mul]
          · rfl
        rw [this, Int.mul_zero, Int.mul_zero]
      · have : Ed F' h r g s = Ed F h r g s := by
          unfold Ed
          by_cases c2 : h < g ∧ r < s ∧ F h r g s = true
          · rw [if_pos c2, if_pos ⟨c2.1, c2.2.1, q.mpr ⟨c2.2.2, fun z => c z.1⟩⟩]
          · rw [if_neg c2, if_neg (fun z => c2 ⟨z.1, z.2.1, (q.mp z.2.2).1⟩)]
        rw [this]
    have e4 : ss N R (fun g s => Ed F h r g s * thr F B N R x D n g s) = sm (fun y => if D y = true then sm (fun a => pth F N R (a + 1).toNat h r x y * cnt F B N R (n - 1 - a).toNat x y) 0 n else 0) 0 R := by
      unfold thr
      have a1 : ss N R (fun g s => Ed F h r g s * sm (fun y => if D y = true then sm (fun a => pth F N R a.toNat g s x y * cnt F B N R ((n : Int) - 1 - a).toNat x y) 0 n else 0) 0 R) = ss N R (fun g s => sm (fun y => Ed F h r g s * (if D y = true then sm (fun a => pth F N R a.toNat g s x y * cnt F B N R ((n : Int) - 1 - a).toNat x y) 0 n else 0)) 0 R) := ss_congr (fun g s _ _ _ _ => (sm_mul 0).symm)
      rw [a1, ss_sm]
      refine sm_congr 0 (fun y _ _ => ?_)
      by_cases c : D y = true
      · simp only [if_pos c]
        have a2 : ss N R (fun g s => Ed F h r g s * sm (fun a => pth F N R a.toNat g s x y * cnt F B N R ((n : Int) - 1 - a).toNat x y) 0 n) = ss N R (fun g s => sm (fun a => Ed F h r g s * (pth F N R a.toNat g s x y * cnt F B N R ((n : Int) - 1 - a).toNat x y)) 0 n) := ss_congr (fun g s _ _ _ _ => (sm_mul 0).symm)
        rw [a2, ss_sm]
        refine sm_congr 0 (fun a a0 a1 => ?_)
        rw [show (a + 1).toNat = a.toNat + 1 by omega]
        show _ = ss N R (fun g s => Ed F h r g s * pth F N R a.toNat g s x y) * _
        rw [Int.mul_comm (ss N R _), ← ss_mul]
        exact ss_congr (fun g s _ _ _ _ => by rw [← Int.mul_assoc, Int.mul_comm])
      · simp only [if_neg c, Int.mul_zero]
        exact ss_0 (fun _ _ _ _ _ _ => rfl)
    rw [e1, e2, e3, e4, Int.add_assoc, ← sm_add]
    congr 1
    unfold thr
    refine sm_congr 0 (fun y _ _ => ?_)
    by_cases c : D y = true
    · simp only [if_pos c]
      rw [sm_step (i := 0) (N := ((n + 1 : Nat) : Int)) (by omega), Int.add_comm]
      congr 1
      · rw [show (((n + 1 : Nat) : Int) - 1 - 0).toNat = n by omega]
        rfl
      · have sh : ∀ (f : Int → Int) (m : Nat), sm (fun a => f (a + 1)) 0 m = sm f 1 ((m : Int) + 1) := by
          intro f m
          induction m with
          | zero => rw [sm_stop (by omega), sm_stop (by omega)]
          | succ m ihm =>
            rw [show ((m + 1 : Nat) : Int) = (m : Int) + 1 by omega, sm_last (f := fun a => f (a + 1)) (by omega), ihm, sm_last (f := f) (N := (m : Int) + 1) (by omega)]
        have := sh (fun a => pth F N R a.toNat h r x y * cnt F B N R (((n + 1 : Nat) : Int) - 1 - a).toNat x y) n
        rw [show ((n + 1 : Nat) : Int) = (n : Int) + 1 by omega] at this ⊢
        rw [Int.zero_add, ← this]
        refine sm_congr 0 (fun a _ _ => ?_)
        rw [show ((n : Int) + 1 - 1 - (a + 1)).toNat = ((n : Int) - 1 - a).toNat by omega]
    · simp only [if_neg c]
      rfl
