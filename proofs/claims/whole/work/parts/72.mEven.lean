/-! evenest: pure; the model's laysLeast -/
theorem fo_inv {F : Int → Int → Int} {N : Int} {P : Int → Prop} : ∀ i, (∀ j m, i ≤ j → j < N → P m → P (F j m)) → ∀ m, P m → P (fo F i N m) := by
  refine up_ind (hi := N) ?_ ?_
  · intro i hi _ m hm
    rw [fo_stop hi]; exact hm
  · intro i hi ih h m hm
    rw [fo_step hi]
    exact ih (fun j m h1 h2 => h j m (by omega) h2) _ (h i m (by omega) hi hm)
def sgE (S : Int → Int) (x r g s : Int) : Int := if x = -1 then 0 else sagM S x r g s
def lby (S : Int → Int) (mo sq x r g s v : Int) : Int := if Fpl S x r g s = true then (if v = -1 ∨ (¬ mo = -1 ∧ mo < sgE S x r g s) then -1 else if sq = 0 then (if sgE S x r g s < v then v else sgE S x r g s) else v + sgE S x r g s * sgE S x r g s) else -1
def mn1 (v m : Int) : Int := if ¬ v = -1 ∧ (m = -1 ∨ v < m) then v else m
def lst (S : Int → Int) (mo sq : Int) : Nat → Int → Int → Int
  | 0, _, _ => 0
  | n + 1, x, r => fo (fun g m => fo (fun s m => mn1 (lby S mo sq x r g s (lst S mo sq n g s)) m) (r + 1) (S 2) m) (x + 1) (S 1) (-1)
theorem sgE_rng {S : Int → Int} (gd : Gd S) {x r g s : Int} (hx : -1 ≤ x ∧ x < g ∧ g < S 1) (hr : -1 ≤ r ∧ r < s ∧ s < S 2) (hxr : x = -1 ↔ r = -1) (hf : Fpl S x r g s = true) : 0 ≤ sgE S x r g s ∧ sgE S x r g s ≤ 1200 := by
  have ga := gd.a
  have gb := gd.b
  unfold sgE
  split
  · omega
  · rename_i c
    have := gd.1.sag (x := x) (r := r) (y := g) (s := s) (by omega) (by omega) (by omega) (by omega)
    unfold Fpl at hf
    simp [c] at hf
    omega
theorem sq_rng {a : Int} (h : 0 ≤ a ∧ a ≤ 1200) : 0 ≤ a * a ∧ a * a ≤ 1440000 := by
  have h1 : 0 ≤ a * a := Int.mul_nonneg h.1 h.1
  have h2 : a * a ≤ 1200 * 1200 := Int.mul_le_mul h.2 h.2 h.1 (by omega)
  omega
theorem lby_rng {S : Int → Int} (gd : Gd S) (mo sq : Int) {x r g s v : Int} {B : Int} (hx : -1 ≤ x ∧ x < g ∧ g < S 1) (hr : -1 ≤ r ∧ r < s ∧ s < S 2) (hxr : x = -1 ↔ r = -1) (hv : -1 ≤ v ∧ v ≤ B) (hB : 0 ≤ B) : -1 ≤ lby S mo sq x r g s v ∧ lby S mo sq x r g s v ≤ B + 1440000 := by
  unfold lby
  split
  · rename_i c
    have e := sgE_rng gd hx hr hxr c
    have q := sq_rng e
    repeat' split
    all_goals omega
  · omega
theorem lst_rng {S : Int → Int} (gd : Gd S) (mo sq : Int) : ∀ (n : Nat) (x r : Int), -1 ≤ x → -1 ≤ r → (x = -1 ↔ r = -1) → -1 ≤ lst S mo sq n x r ∧ lst S mo sq n x r ≤ 1440000 * n := by
  intro n
  induction n with
  | zero => intro x r _ _ _; simp [lst]
  | succ n ih =>
    intro x r hx hr hxr
    refine fo_inv (P := fun m => -1 ≤ m ∧ m ≤ 1440000 * ((n + 1 : Nat) : Int)) (x + 1) (fun g m g1 g2 hm => ?_) (-1) (by omega)
    refine fo_inv (P := fun m => -1 ≤ m ∧ m ≤ 1440000 * ((n + 1 : Nat) : Int)) (r + 1) (fun s m s1 s2 hm => ?_) m hm
    have a := ih g s (by omega) (by omega) (by omega)
    have b := lby_rng gd mo sq (x := x) (r := r) (g := g) (s := s) (v := lst S mo sq n g s) (B := 1440000 * n) (by omega) (by omega) hxr a (by omega)
    unfold mn1
    split <;> omega
/-- least at so many joins (as the model keeps it) -/
def Lv (S : Int → Int) (mo sq n x r : Int) : Int := lst S mo sq n.toNat x r
theorem Lv_rng {S : Int → Int} (gd : Gd S) (mo sq : Int) {n : Int} (hn : n ≤ 12) {x r : Int} (hx : -1 ≤ x) (hr : -1 ≤ r) (hxr : x = -1 ↔ r = -1) : -1 ≤ Lv S mo sq n x r ∧ Lv S mo sq n x r ≤ 17280000 := by
  have := lst_rng gd mo sq n.toNat x r hx hr hxr
  unfold Lv
  omega
def inS (S : Int → Int) (mo sq n x r g m : Int) : Int := fo (fun s m => mn1 (lby S mo sq x r g s (Lv S mo sq (n - 1) g s)) m) (r + 1) (S 2) m
theorem Lv_s {S : Int → Int} {mo sq n x r : Int} (hn : 1 ≤ n) : Lv S mo sq n x r = fo (inS S mo sq n x r) (x + 1) (S 1) (-1) := by
  unfold Lv
  rw [show n.toNat = (n - 1).toNat + 1 by omega]
  rfl
theorem m_worse {d : Nat} {h : Hp} {a b : Int} (ha : -1000000000 ≤ a ∧ a ≤ 1000000000) (hb : -1000000000 ≤ b ∧ b ≤ 1000000000) : cal (d+1) m_Mod_worse [.inl (a), .inl (b)] (h) = some (.inl (if b < a then a else b), h) := by
  show EX (d) m_Mod_worse 0 [(0, .inl (a)), (1, .inl (b))] [] (h) = _
  simp (disch := omega) only [Mod_worse_0, Mod_worse_5, Mod_worse_9, Mod_worse_10, wr_id, ix_id, okx, if_pos, if_neg, Int.toNat_of_nonneg, bak_v, bak_n, wr_b01, wr_bt, b01_or, b01_0, b01_1, lc_lt0, lc_gt0, lc_eq0, wl_wr, wr_wr, wl_id, true_and, and_true, true_or, or_true, not_true_eq_false, not_false_eq_true, nc0, nc1, nc2, nc3, nc4, nc5, nc6, nc7, nc8, nc9, nc10, nc11, nc12, nc13, nc14, nc15, nc16, nc17, nc18, nc19, nc20, nc21, nc22, nc23, nc35, nc47, nc59, nc60, nc61, nc73, nc74, nc214, nc215, nc1115, nc2230, nc3345, if_true, if_false, Int.reduceToNat]
  split <;> rfl
/-- the table in array cell a (82 or 83) -/
def lsV (h : Hp) (a : Nat) (S : Int → Int) (mo sq x r : Int) : Prop := ∀ m, 0 ≤ m → m ≤ 12 → hI h a (169 * (x + 1) + 13 * (r + 1) + m).toNat = Lv S mo sq m x r
def pRe (b : Nat) (x r : Int) (a k : Nat) : Prop := a = b ∧ 169 * (x + 1) + 13 * (r + 1) ≤ (k : Int) ∧ (k : Int) < 169 * (x + 1) + 13 * (r + 1) + 13
theorem m_leastBy {d a : Nat} {h : Hp} {S nb : Int → Int} (ha : a = 82 ∨ a = 83) (p : PT h S nb) (n64 : N64 nb) (gd : Gd S) {mo sq n x r g s : Int} (hmo : -1 ≤ mo ∧ mo ≤ 100000000) (hsq : sq = 0 ∨ sq = 1) (hn : 1 ≤ n ∧ n ≤ 12) (hx : -1 ≤ x ∧ x < g ∧ g < S 1) (hr : -1 ≤ r ∧ r < s ∧ s < S 2) (hxr : x = -1 ↔ r = -1) (lv : lsV h a S mo sq g s) : cal (d+3) m_Mod_leastBy [.inr (.inr (72)), .inr (.inr (a)), .inl (x), .inl (r), .inl (g), .inl (s), .inl (n), .inl (mo), .inl (sq)] (h) = some (.inl (lby S mo sq x r g s (Lv S mo sq (n - 1) g s)), h) := by
  have ga := gd.a
  have gb := gd.b
  have ms := p.1.1
  have hm := ms.1
  have ef := p.follows (d := d) n64 gd (x := x) (r := r) (y := g) (s := s) hx hr hxr
  have el := lv (n - 1) (by omega) (by omega)
  have lr := Lv_rng gd mo sq (n := n - 1) (by omega) (x := g) (r := s) (by omega) (by omega) (by omega)
  have hk : sK h a = 20 := by rcases ha with e | e <;> subst e; exact hm.k82; exact hm.k83
  have hN : sN h a = 2197 := by rcases ha with e | e <;> subst e; exact hm.n82; exact hm.n83
  show EX (d+2) m_Mod_leastBy 0 [(0, .inr (.inr (72))), (1, .inr (.inr (a))), (2, .inl (x)), (3, .inl (r)), (4, .inl (g)), (5, .inl (s)), (6, .inl (n)), (7, .inl (mo)), (8, .inl (sq))] [] (h) = _
  by_cases c : Fpl S x r g s = true
  · have sr := sgE_rng gd hx hr hxr c
    have e52 : EX (d+2) m_Mod_leastBy 0 [(0, .inr (.inr (72))), (1, .inr (.inr (a))), (2, .inl (x)), (3, .inl (r)), (4, .inl (g)), (5, .inl (s)), (6, .inl (n)), (7, .inl (mo)), (8, .inl (sq))] [] (h) = EX (d+2) m_Mod_leastBy 52 [(7, .inl (mo)), (8, .inl (sq)), (9, .inl (Lv S mo sq (n - 1) g s))] [.inl (sgE S x r g s)] (h) := by
      by_cases cx : x = -1
      · have : sgE S x r g s = 0 := by unfold sgE; rw [if_pos cx]
        rw [this]
        simp (disch := omega) only [Mod_leastBy_0, Mod_leastBy_10, Mod_leastBy_15, Mod_leastBy_27, Mod_leastBy_35, wr_id, ix_id, okx, if_pos, if_neg, Int.toNat_of_nonneg, bak_v, bak_n, wr_b01, wr_bt, b01_or, b01_0, b01_1, lc_lt0, lc_gt0, lc_eq0, wl_wr, wr_wr, wl_id, true_and, and_true, true_or, or_true, not_true_eq_false, not_false_eq_true, nc0, nc1, nc2, nc3, nc4, nc5, nc6, nc7, nc8, nc9, nc10, nc11, nc12, nc13, nc14, nc15, nc16, nc17, nc18, nc19, nc20, nc21, nc22, nc23, nc35, nc47, nc59, nc60, nc61, nc73, nc74, nc214, nc215, nc1115, nc2230, nc3345, if_true, if_false, Int.reduceToNat, hm.k, ef, c, m_spot, hk, hN, el]
      · have : sgE S x r g s = sagM S x r g s := by unfold sgE; rw [if_neg cx]
        rw [this]
        simp (disch := omega) only [Mod_leastBy_0, Mod_leastBy_10, Mod_leastBy_15, Mod_leastBy_27, Mod_leastBy_39, wr_id, ix_id, okx, if_pos, if_neg, Int.toNat_of_nonneg, bak_v, bak_n, wr_b01, wr_bt, b01_or, b01_0, b01_1, lc_lt0, lc_gt0, lc_eq0, wl_wr, wr_wr, wl_id, true_and, and_true, true_or, or_true, not_true_eq_false, not_false_eq_true, nc0, nc1, nc2, nc3, nc4, nc5, nc6, nc7, nc8, nc9, nc10, nc11, nc12, nc13, nc14, nc15, nc16, nc17, nc18, nc19, nc20, nc21, nc22, nc23, nc35, nc47, nc59, nc60, nc61, nc73, nc74, nc214, nc215, nc1115, nc2230, nc3345, if_true, if_false, Int.reduceToNat, hm.k, hm.r1, ef, c, m_spot, hk, hN, el, m_sag ms.rs]
    rw [show m_Mod_leastBy = 214 from rfl] at e52
    refine e52.trans ?_
    unfold lby
    rw [if_pos c]
    by_cases c1 : Lv S mo sq (n - 1) g s = -1
    · simp (disch := omega) only [Mod_leastBy_52, Mod_leastBy_73, wr_id, ix_id, okx, if_pos, if_neg, Int.toNat_of_nonneg, bak_v, bak_n, wr_b01, wr_bt, b01_or, b01_0, b01_1, lc_lt0, lc_gt0, lc_eq0, wl_wr, wr_wr, wl_id, true_and, and_true, true_or, or_true, not_true_eq_false, not_false_eq_true, nc0, nc1, nc2, nc3, nc4, nc5, nc6, nc7, nc8, nc9, nc10, nc11, nc12, nc13, nc14, nc15, nc16, nc17, nc18, nc19, nc20, nc21, nc22, nc23, nc35, nc47, nc59, nc60, nc61, nc73, nc74, nc214, nc215, nc1115, nc2230, nc3345, if_true, if_false, Int.reduceToNat, c1]
    · by_cases c2 : ¬ mo = -1 ∧ mo < sgE S x r g s
      · simp (disch := omega) only [Mod_leastBy_52, Mod_leastBy_60, Mod_leastBy_66, Mod_leastBy_73, wr_id, ix_id, okx, if_pos, if_neg, Int.toNat_of_nonneg, bak_v, bak_n, wr_b01, wr_bt, b01_or, b01_0, b01_1, lc_lt0, lc_gt0, lc_eq0, wl_wr, wr_wr, wl_id, true_and, and_true, true_or, or_true, not_true_eq_false, not_false_eq_true, nc0, nc1, nc2, nc3, nc4, nc5, nc6, nc7, nc8, nc9, nc10, nc11, nc12, nc13, nc14, nc15, nc16, nc17, nc18, nc19, nc20, nc21, nc22, nc23, nc35, nc47, nc59, nc60, nc61, nc73, nc74, nc214, nc215, nc1115, nc2230, nc3345, if_true, if_false, Int.reduceToNat]
      · have e75 : EX (d+2) m_Mod_leastBy 52 [(7, .inl (mo)), (8, .inl (sq)), (9, .inl (Lv S mo sq (n - 1) g s))] [.inl (sgE S x r g s)] (h) = EX (d+2) m_Mod_leastBy 75 [(8, .inl (sq)), (9, .inl (Lv S mo sq (n - 1) g s)), (10, .inl (sgE S x r g s))] [] (h) := by
          by_cases c3 : mo = -1
          · simp (disch := omega) only [Mod_leastBy_52, Mod_leastBy_60, wr_id, ix_id, okx, if_pos, if_neg, Int.toNat_of_nonneg, bak_v, bak_n, wr_b01, wr_bt, b01_or, b01_0, b01_1, lc_lt0, lc_gt0, lc_eq0, wl_wr, wr_wr, wl_id, true_and, and_true, true_or, or_true, not_true_eq_false, not_false_eq_true, nc0, nc1, nc2, nc3, nc4, nc5, nc6, nc7, nc8, nc9, nc10, nc11, nc12, nc13, nc14, nc15, nc16, nc17, nc18, nc19, nc20, nc21, nc22, nc23, nc35, nc47, nc59, nc60, nc61, nc73, nc74, nc214, nc215, nc1115, nc2230, nc3345, if_true, if_false, Int.reduceToNat]
          · simp (disch := omega) only [Mod_leastBy_52, Mod_leastBy_60, Mod_leastBy_66, wr_id, ix_id, okx, if_pos, if_neg, Int.toNat_of_nonneg, bak_v, bak_n, wr_b01, wr_bt, b01_or, b01_0, b01_1, lc_lt0, lc_gt0, lc_eq0, wl_wr, wr_wr, wl_id, true_and, and_true, true_or, or_true, not_true_eq_false, not_false_eq_true, nc0, nc1, nc2, nc3, nc4, nc5, nc6, nc7, nc8, nc9, nc10, nc11, nc12, nc13, nc14, nc15, nc16, nc17, nc18, nc19, nc20, nc21, nc22, nc23, nc35, nc47, nc59, nc60, nc61, nc73, nc74, nc214, nc215, nc1115, nc2230, nc3345, if_true, if_false, Int.reduceToNat]
        refine e75.trans ?_
        rw [if_neg (by omega)]
        rcases hsq with e | e <;> subst e
        · simp (disch := omega) only [Mod_leastBy_75, Mod_leastBy_91, Mod_leastBy_98, wr_id, ix_id, okx, if_pos, if_neg, Int.toNat_of_nonneg, bak_v, bak_n, wr_b01, wr_bt, b01_or, b01_0, b01_1, lc_lt0, lc_gt0, lc_eq0, wl_wr, wr_wr, wl_id, true_and, and_true, true_or, or_true, not_true_eq_false, not_false_eq_true, nc0, nc1, nc2, nc3, nc4, nc5, nc6, nc7, nc8, nc9, nc10, nc11, nc12, nc13, nc14, nc15, nc16, nc17, nc18, nc19, nc20, nc21, nc22, nc23, nc35, nc47, nc59, nc60, nc61, nc73, nc74, nc214, nc215, nc1115, nc2230, nc3345, if_true, if_false, Int.reduceToNat, m_worse]
        · simp (disch := omega) only [Mod_leastBy_75, Mod_leastBy_80, Mod_leastBy_98, wr_id, ix_id, okx, if_pos, if_neg, Int.toNat_of_nonneg, bak_v, bak_n, wr_b01, wr_bt, b01_or, b01_0, b01_1, lc_lt0, lc_gt0, lc_eq0, wl_wr, wr_wr, wl_id, true_and, and_true, true_or, or_true, not_true_eq_false, not_false_eq_true, nc0, nc1, nc2, nc3, nc4, nc5, nc6, nc7, nc8, nc9, nc10, nc11, nc12, nc13, nc14, nc15, nc16, nc17, nc18, nc19, nc20, nc21, nc22, nc23, nc35, nc47, nc59, nc60, nc61, nc73, nc74, nc214, nc215, nc1115, nc2230, nc3345, if_true, if_false, Int.reduceToNat]
  · have c' : Fpl S x r g s = false := by simpa using c
    rw [c'] at ef
    unfold lby
    rw [if_neg c]
    simp (disch := omega) only [Mod_leastBy_0, Mod_leastBy_10, Mod_leastBy_13, wr_id, ix_id, okx, if_pos, if_neg, Int.toNat_of_nonneg, bak_v, bak_n, wr_b01, wr_bt, b01_or, b01_0, b01_1, lc_lt0, lc_gt0, lc_eq0, wl_wr, wr_wr, wl_id, true_and, and_true, true_or, or_true, not_true_eq_false, not_false_eq_true, nc0, nc1, nc2, nc3, nc4, nc5, nc6, nc7, nc8, nc9, nc10, nc11, nc12, nc13, nc14, nc15, nc16, nc17, nc18, nc19, nc20, nc21, nc22, nc23, nc35, nc47, nc59, nc60, nc61, nc73, nc74, nc214, nc215, nc1115, nc2230, nc3345, if_true, if_false, Int.reduceToNat, hm.k, ef]
    simp
theorem m_lL_1 {d a : Nat} {h : Hp} {S nb : Int → Int} (ha : a = 82 ∨ a = 83) (p : PT h S nb) (n64 : N64 nb) (gd : Gd S) {mo sq n x r g : Int} (hmo : -1 ≤ mo ∧ mo ≤ 100000000) (hsq : sq = 0 ∨ sq = 1) (hn : 1 ≤ n ∧ n ≤ 12) (hx : -1 ≤ x ∧ x < g ∧ g < S 1) (hr : -1 ≤ r ∧ r < S 2) (hxr : x = -1 ↔ r = -1) (lv : ∀ s, 0 ≤ s → s < S 2 → lsV h a S mo sq g s) : ∀ s, r + 1 ≤ s → s ≤ 12 → ∀ m, (-1 ≤ m ∧ m ≤ 100000000) → EX (d+3) m_Mod_laysLeast 110 [(0, .inr (.inr (72))), (1, .inr (.inr (a))), (2, .inl (mo)), (3, .inl (sq)), (4, .inl (x)), (5, .inl (r)), (6, .inl (n)), (7, .inl (m)), (8, .inl (g)), (9, .inl (s))] [] (h) = EX (d+3) m_Mod_laysLeast 169 [(0, .inr (.inr (72))), (1, .inr (.inr (a))), (2, .inl (mo)), (3, .inl (sq)), (4, .inl (x)), (5, .inl (r)), (6, .inl (n)), (7, .inl (fo (fun s m => mn1 (lby S mo sq x r g s (Lv S mo sq (n - 1) g s)) m) s (S 2) m)), (8, .inl (g))] [] (h) := by
  have ga := gd.a
  have gb := gd.b
  have ms := p.1.1
  have hm := ms.1
  refine up_ind (hi := S 2) ?_ ?_
  · intro s hs h0 h1 m hm0
    rw [Mod_laysLeast_110, fo_stop hs]
    simp (disch := omega) only [wr_id, ix_id, okx, if_pos, if_neg, Int.toNat_of_nonneg, bak_v, bak_n, wr_b01, wr_bt, b01_or, b01_0, b01_1, lc_lt0, lc_gt0, lc_eq0, wl_wr, wr_wr, wl_id, true_and, and_true, true_or, or_true, not_true_eq_false, not_false_eq_true, nc0, nc1, nc2, nc3, nc4, nc5, nc6, nc7, nc8, nc9, nc10, nc11, nc12, nc13, nc14, nc15, nc16, nc17, nc18, nc19, nc20, nc21, nc22, nc23, nc35, nc47, nc59, nc60, nc61, nc73, nc74, nc214, nc215, nc1115, nc2230, nc3345, if_true, if_false, Int.reduceToNat, hm.k, hm.r1, hm.r2, hm.r3, hm.r4, hm.r15, hm.r16, hm.r19, hm.r23, hm.r24, hm.r25, hm.r26, hm.r29, hm.r30, hm.r31, hm.r33, hm.r34, hm.r35, hm.k73, hm.k74, hm.k75, hm.k76, hm.k77, hm.k78, hm.k79, hm.k80, hm.k81, hm.k82, hm.k83, hm.k84, hm.k85, hm.k86, hm.k87, hm.k88, hm.k89, hm.n73, hm.n74, hm.n75, hm.n76, hm.n77, hm.n78, hm.n79, hm.n80, hm.n81, hm.n82, hm.n83, hm.n84, hm.n85, hm.n86, hm.n87, hm.n88, hm.n89, ms.2]
  · intro s hs ih h0 h1 m hm0
    have el := m_leastBy (d := d) ha p n64 gd (mo := mo) (sq := sq) (n := n) (x := x) (r := r) (g := g) (s := s) hmo hsq hn hx (by omega) hxr (lv s (by omega) hs)
    have lr := Lv_rng gd mo sq (n := n - 1) (by omega) (x := g) (r := s) (by omega) (by omega) (by omega)
    have br := lby_rng gd mo sq (x := x) (r := r) (g := g) (s := s) (v := Lv S mo sq (n - 1) g s) (B := 17280000) hx (by omega) hxr lr (by omega)
    rw [Mod_laysLeast_110, fo_step hs]
    have em : mn1 (lby S mo sq x r g s (Lv S mo sq (n - 1) g s)) m = if ¬ lby S mo sq x r g s (Lv S mo sq (n - 1) g s) = -1 ∧ (m = -1 ∨ lby S mo sq x r g s (Lv S mo sq (n - 1) g s) < m) then lby S mo sq x r g s (Lv S mo sq (n - 1) g s) else m := rfl
    rw [em]
    generalize lby S mo sq x r g s (Lv S mo sq (n - 1) g s) = v at *
    by_cases c1 : v = -1
    · rw [if_neg (show ¬ (¬ v = -1 ∧ (m = -1 ∨ v < m)) by omega)]
      simp (disch := omega) only [Mod_laysLeast_121, Mod_laysLeast_138, Mod_laysLeast_163, wr_id, ix_id, okx, if_pos, if_neg, Int.toNat_of_nonneg, bak_v, bak_n, wr_b01, wr_bt, b01_or, b01_0, b01_1, lc_lt0, lc_gt0, lc_eq0, wl_wr, wr_wr, wl_id, true_and, and_true, true_or, or_true, not_true_eq_false, not_false_eq_true, nc0, nc1, nc2, nc3, nc4, nc5, nc6, nc7, nc8, nc9, nc10, nc11, nc12, nc13, nc14, nc15, nc16, nc17, nc18, nc19, nc20, nc21, nc22, nc23, nc35, nc47, nc59, nc60, nc61, nc73, nc74, nc214, nc215, nc1115, nc2230, nc3345, if_true, if_false, Int.reduceToNat, hm.k, hm.r1, hm.r2, hm.r3, hm.r4, hm.r15, hm.r16, hm.r19, hm.r23, hm.r24, hm.r25, hm.r26, hm.r29, hm.r30, hm.r31, hm.r33, hm.r34, hm.r35, hm.k73, hm.k74, hm.k75, hm.k76, hm.k77, hm.k78, hm.k79, hm.k80, hm.k81, hm.k82, hm.k83, hm.k84, hm.k85, hm.k86, hm.k87, hm.k88, hm.k89, hm.n73, hm.n74, hm.n75, hm.n76, hm.n77, hm.n78, hm.n79, hm.n80, hm.n81, hm.n82, hm.n83, hm.n84, hm.n85, hm.n86, hm.n87, hm.n88, hm.n89, ms.2, el, c1]
      exact ih (by omega) (by omega) _ hm0
    · by_cases c2 : m = -1
      · rw [if_pos (show ¬ v = -1 ∧ (m = -1 ∨ v < m) by omega)]
        simp (disch := omega) only [Mod_laysLeast_121, Mod_laysLeast_138, Mod_laysLeast_146, Mod_laysLeast_159, Mod_laysLeast_163, wr_id, ix_id, okx, if_pos, if_neg, Int.toNat_of_nonneg, bak_v, bak_n, wr_b01, wr_bt, b01_or, b01_0, b01_1, lc_lt0, lc_gt0, lc_eq0, wl_wr, wr_wr, wl_id, true_and, and_true, true_or, or_true, not_true_eq_false, not_false_eq_true, nc0, nc1, nc2, nc3, nc4, nc5, nc6, nc7, nc8, nc9, nc10, nc11, nc12, nc13, nc14, nc15, nc16, nc17, nc18, nc19, nc20, nc21, nc22, nc23, nc35, nc47, nc59, nc60, nc61, nc73, nc74, nc214, nc215, nc1115, nc2230, nc3345, if_true, if_false, Int.reduceToNat, hm.k, hm.r1, hm.r2, hm.r3, hm.r4, hm.r15, hm.r16, hm.r19, hm.r23, hm.r24, hm.r25, hm.r26, hm.r29, hm.r30, hm.r31, hm.r33, hm.r34, hm.r35, hm.k73, hm.k74, hm.k75, hm.k76, hm.k77, hm.k78, hm.k79, hm.k80, hm.k81, hm.k82, hm.k83, hm.k84, hm.k85, hm.k86, hm.k87, hm.k88, hm.k89, hm.n73, hm.n74, hm.n75, hm.n76, hm.n77, hm.n78, hm.n79, hm.n80, hm.n81, hm.n82, hm.n83, hm.n84, hm.n85, hm.n86, hm.n87, hm.n88, hm.n89, ms.2, el]
        exact ih (by omega) (by omega) _ (by omega)
      · by_cases c3 : v < m
        · rw [if_pos (show ¬ v = -1 ∧ (m = -1 ∨ v < m) by omega)]
          simp (disch := omega) only [Mod_laysLeast_121, Mod_laysLeast_138, Mod_laysLeast_146, Mod_laysLeast_152, Mod_laysLeast_159, Mod_laysLeast_163, wr_id, ix_id, okx, if_pos, if_neg, Int.toNat_of_nonneg, bak_v, bak_n, wr_b01, wr_bt, b01_or, b01_0, b01_1, lc_lt0, lc_gt0, lc_eq0, wl_wr, wr_wr, wl_id, true_and, and_true, true_or, or_true, not_true_eq_false, not_false_eq_true, nc0, nc1, nc2, nc3, nc4, nc5, nc6, nc7, nc8, nc9, nc10, nc11, nc12, nc13, nc14, nc15, nc16, nc17, nc18, nc19, nc20, nc21, nc22, nc23, nc35, nc47, nc59, nc60, nc61, nc73, nc74, nc214, nc215, nc1115, nc2230, nc3345, if_true, if_false, Int.reduceToNat, hm.k, hm.r1, hm.r2, hm.r3, hm.r4, hm.r15, hm.r16, hm.r19, hm.r23, hm.r24, hm.r25, hm.r26, hm.r29, hm.r30, hm.r31, hm.r33, hm.r34, hm.r35, hm.k73, hm.k74, hm.k75, hm.k76, hm.k77, hm.k78, hm.k79, hm.k80, hm.k81, hm.k82, hm.k83, hm.k84, hm.k85, hm.k86, hm.k87, hm.k88, hm.k89, hm.n73, hm.n74, hm.n75, hm.n76, hm.n77, hm.n78, hm.n79, hm.n80, hm.n81, hm.n82, hm.n83, hm.n84, hm.n85, hm.n86, hm.n87, hm.n88, hm.n89, ms.2, el]
          exact ih (by omega) (by omega) _ (by omega)
        · rw [if_neg (show ¬ (¬ v = -1 ∧ (m = -1 ∨ v < m)) by omega)]
          simp (disch := omega) only [Mod_laysLeast_121, Mod_laysLeast_138, Mod_laysLeast_146, Mod_laysLeast_152, Mod_laysLeast_163, wr_id, ix_id, okx, if_pos, if_neg, Int.toNat_of_nonneg, bak_v, bak_n, wr_b01, wr_bt, b01_or, b01_0, b01_1, lc_lt0, lc_gt0, lc_eq0, wl_wr, wr_wr, wl_id, true_and, and_true, true_or, or_true, not_true_eq_false, not_false_eq_true, nc0, nc1, nc2, nc3, nc4, nc5, nc6, nc7, nc8, nc9, nc10, nc11, nc12, nc13, nc14, nc15, nc16, nc17, nc18, nc19, nc20, nc21, nc22, nc23, nc35, nc47, nc59, nc60, nc61, nc73, nc74, nc214, nc215, nc1115, nc2230, nc3345, if_true, if_false, Int.reduceToNat, hm.k, hm.r1, hm.r2, hm.r3, hm.r4, hm.r15, hm.r16, hm.r19, hm.r23, hm.r24, hm.r25, hm.r26, hm.r29, hm.r30, hm.r31, hm.r33, hm.r34, hm.r35, hm.k73, hm.k74, hm.k75, hm.k76, hm.k77, hm.k78, hm.k79, hm.k80, hm.k81, hm.k82, hm.k83, hm.k84, hm.k85, hm.k86, hm.k87, hm.k88, hm.k89, hm.n73, hm.n74, hm.n75, hm.n76, hm.n77, hm.n78, hm.n79, hm.n80, hm.n81, hm.n82, hm.n83, hm.n84, hm.n85, hm.n86, hm.n87, hm.n88, hm.n89, ms.2, el]
          exact ih (by omega) (by omega) _ hm0
theorem inS_rng {S : Int → Int} (gd : Gd S) (mo sq : Int) {n x r g m : Int} (hn : 1 ≤ n ∧ n ≤ 12) (hx : -1 ≤ x ∧ x < g ∧ g < S 1) (hr : -1 ≤ r ∧ r < S 2) (hxr : x = -1 ↔ r = -1) (hm : -1 ≤ m ∧ m ≤ 100000000) : -1 ≤ inS S mo sq n x r g m ∧ inS S mo sq n x r g m ≤ 100000000 := by
  refine fo_inv (P := fun m => -1 ≤ m ∧ m ≤ 100000000) (r + 1) (fun s m s1 s2 hm => ?_) m hm
  have lr := Lv_rng gd mo sq (n := n - 1) (by omega) (x := g) (r := s) (by omega) (by omega) (by omega)
  have br := lby_rng gd mo sq (x := x) (r := r) (g := g) (s := s) (v := Lv S mo sq (n - 1) g s) (B := 17280000) hx (by omega) hxr lr (by omega)
  unfold mn1
  split <;> omega
theorem m_lL_2 {d a : Nat} {h : Hp} {S nb : Int → Int} (ha : a = 82 ∨ a = 83) (p : PT h S nb) (n64 : N64 nb) (gd : Gd S) {mo sq n x r : Int} (hmo : -1 ≤ mo ∧ mo ≤ 100000000) (hsq : sq = 0 ∨ sq = 1) (hn : 1 ≤ n ∧ n ≤ 12) (hx : -1 ≤ x) (hr : -1 ≤ r ∧ r < S 2) (hxr : x = -1 ↔ r = -1) (lv : ∀ g s, x < g → g < S 1 → 0 ≤ s → s < S 2 → lsV h a S mo sq g s) : ∀ g, x + 1 ≤ g → g ≤ 12 → ∀ m, (-1 ≤ m ∧ m ≤ 100000000) → EX (d+3) m_Mod_laysLeast 88 [(0, .inr (.inr (72))), (1, .inr (.inr (a))), (2, .inl (mo)), (3, .inl (sq)), (4, .inl (x)), (5, .inl (r)), (6, .inl (n)), (7, .inl (m)), (8, .inl (g))] [] (h) = EX (d+3) m_Mod_laysLeast 175 [(0, .inr (.inr (72))), (1, .inr (.inr (a))), (2, .inl (mo)), (3, .inl (sq)), (4, .inl (x)), (5, .inl (r)), (6, .inl (n)), (7, .inl (fo (inS S mo sq n x r) g (S 1) m))] [] (h) := by
  have ga := gd.a
  have gb := gd.b
  have ms := p.1.1
  have hm := ms.1
  refine up_ind (hi := S 1) ?_ ?_
  · intro g hg h0 h1 m hm0
    rw [Mod_laysLeast_88, fo_stop hg]
    simp (disch := omega) only [wr_id, ix_id, okx, if_pos, if_neg, Int.toNat_of_nonneg, bak_v, bak_n, wr_b01, wr_bt, b01_or, b01_0, b01_1, lc_lt0, lc_gt0, lc_eq0, wl_wr, wr_wr, wl_id, true_and, and_true, true_or, or_true, not_true_eq_false, not_false_eq_true, nc0, nc1, nc2, nc3, nc4, nc5, nc6, nc7, nc8, nc9, nc10, nc11, nc12, nc13, nc14, nc15, nc16, nc17, nc18, nc19, nc20, nc21, nc22, nc23, nc35, nc47, nc59, nc60, nc61, nc73, nc74, nc214, nc215, nc1115, nc2230, nc3345, if_true, if_false, Int.reduceToNat, hm.k, hm.r1, hm.r2, hm.r3, hm.r4, hm.r15, hm.r16, hm.r19, hm.r23, hm.r24, hm.r25, hm.r26, hm.r29, hm.r30, hm.r31, hm.r33, hm.r34, hm.r35, hm.k73, hm.k74, hm.k75, hm.k76, hm.k77, hm.k78, hm.k79, hm.k80, hm.k81, hm.k82, hm.k83, hm.k84, hm.k85, hm.k86, hm.k87, hm.k88, hm.k89, hm.n73, hm.n74, hm.n75, hm.n76, hm.n77, hm.n78, hm.n79, hm.n80, hm.n81, hm.n82, hm.n83, hm.n84, hm.n85, hm.n86, hm.n87, hm.n88, hm.n89, ms.2]
  · intro g hg ih h0 h1 m hm0
    rw [Mod_laysLeast_88, fo_step hg]
    simp (disch := omega) only [Mod_laysLeast_99, Mod_laysLeast_104, wr_id, ix_id, okx, if_pos, if_neg, Int.toNat_of_nonneg, bak_v, bak_n, wr_b01, wr_bt, b01_or, b01_0, b01_1, lc_lt0, lc_gt0, lc_eq0, wl_wr, wr_wr, wl_id, true_and, and_true, true_or, or_true, not_true_eq_false, not_false_eq_true, nc0, nc1, nc2, nc3, nc4, nc5, nc6, nc7, nc8, nc9, nc10, nc11, nc12, nc13, nc14, nc15, nc16, nc17, nc18, nc19, nc20, nc21, nc22, nc23, nc35, nc47, nc59, nc60, nc61, nc73, nc74, nc214, nc215, nc1115, nc2230, nc3345, if_true, if_false, Int.reduceToNat, hm.k, hm.r1, hm.r2, hm.r3, hm.r4, hm.r15, hm.r16, hm.r19, hm.r23, hm.r24, hm.r25, hm.r26, hm.r29, hm.r30, hm.r31, hm.r33, hm.r34, hm.r35, hm.k73, hm.k74, hm.k75, hm.k76, hm.k77, hm.k78, hm.k79, hm.k80, hm.k81, hm.k82, hm.k83, hm.k84, hm.k85, hm.k86, hm.k87, hm.k88, hm.k89, hm.n73, hm.n74, hm.n75, hm.n76, hm.n77, hm.n78, hm.n79, hm.n80, hm.n81, hm.n82, hm.n83, hm.n84, hm.n85, hm.n86, hm.n87, hm.n88, hm.n89, ms.2]
    refine (m_lL_1 (d := d) ha p n64 gd hmo hsq hn (x := x) (r := r) (g := g) (by omega) hr hxr (fun s s0 s1 => lv g s (by omega) hg s0 s1) (r + 1) (by omega) (by omega) m hm0).trans ?_
    rw [Mod_laysLeast_169]
    exact ih (by omega) (by omega) _ (inS_rng gd mo sq hn (by omega) hr hxr hm0)
