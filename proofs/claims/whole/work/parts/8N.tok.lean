/-! the text's tokens: pure -/
def advN (q : Int → Bool) : Nat → Int → Int
  | 0, p => p
  | c + 1, p => if q p = true then advN q c (p + 1) else p
/-- as far as q goes on -/
def adv (q : Int → Bool) (p n : Int) : Int := advN q (n - p).toNat p
theorem adv_stop {q : Int → Bool} {p n : Int} (h : n ≤ p) : adv q p n = p := by
  unfold adv
  rw [show (n - p).toNat = 0 by omega]
  rfl
theorem adv_step {q : Int → Bool} {p n : Int} (h : p < n) : adv q p n = if q p = true then adv q (p + 1) n else p := by
  unfold adv
  rw [show (n - p).toNat = (n - (p + 1)).toNat + 1 by omega]
  rfl
theorem adv_go {q : Int → Bool} {p n : Int} (h : p < n) (c : q p = true) : adv q p n = adv q (p + 1) n := by rw [adv_step h, if_pos c]
theorem adv_no {q : Int → Bool} {p n : Int} (h : p < n) (c : ¬ q p = true) : adv q p n = p := by rw [adv_step h, if_neg c]
theorem adv_rng {q : Int → Bool} {n : Int} : ∀ p, p ≤ n → p ≤ adv q p n ∧ adv q p n ≤ n := by
  refine up_ind (hi := n) ?_ ?_
  · intro p h1 h2; rw [adv_stop h1]; omega
  · intro p h1 ih h2
    rw [adv_step h1]
    split
    · have := ih (by omega); omega
    · omega
theorem adv_sat {q : Int → Bool} {n : Int} : ∀ p, ∀ k, p ≤ k → k < adv q p n → q k = true := by
  refine up_ind (hi := n) ?_ ?_
  · intro p h1 k k0 k1; rw [adv_stop h1] at k1; omega
  · intro p h1 ih k k0 k1
    rw [adv_step h1] at k1
    split at k1
    · rename_i c
      by_cases e : k = p
      · rw [e]; exact c
      · exact ih k (by omega) k1
    · omega
theorem adv_pos {q : Int → Bool} {p n : Int} (h : p < n) (c : q p = true) : p + 1 ≤ adv q p n := by
  rw [adv_go h c]
  exact (adv_rng (p + 1) (by omega)).1
def qB (T : Int → Int) : Int → Bool := fun k => decide (T k = 10 ∨ T k = 32)
def qL (T : Int → Int) : Int → Bool := fun k => decide (97 ≤ T k ∧ T k ≤ 122)
def qD (T : Int → Int) : Int → Bool := fun k => decide (48 ≤ T k ∧ T k ≤ 57)
def txt (T : Int → Int) (a b : Int) : List Int := (List.range (b - a).toNat).map (fun j : Nat => T (a + j))
theorem txt_nil {T : Int → Int} {a b : Int} (h : b ≤ a) : txt T a b = [] := by
  unfold txt
  rw [show (b - a).toNat = 0 by omega]
  rfl
theorem txt_cons {T : Int → Int} {a b : Int} (h : a < b) : txt T a b = T a :: txt T (a + 1) b := by
  unfold txt
  rw [show (b - a).toNat = (b - (a + 1)).toNat + 1 by omega, List.range_succ_eq_map, List.map_cons, List.map_map]
  congr 1
  · congr 1; omega
  · refine List.map_congr_left (fun j _ => ?_)
    show T (a + ((j + 1 : Nat) : Int)) = T (a + 1 + j)
    congr 1
    omega
/-- the first of some words, from number n on -/
def kwL : List (List Int) → Int → Int → List Int → Int
  | [], _, e, _ => e
  | l :: r, n, e, s => if s = l then n else kwL r (n + 1) e s
def Wm : List (List Int) := [[114, 97, 105, 108], [99, 108, 111, 116, 104], [104, 111, 111, 107], [109, 97, 114, 107], [114, 105, 110, 103], [98, 114, 111, 107, 101, 110], [108, 97, 119], [99, 104, 97, 105, 114], [112, 108, 101, 97, 116], [115, 108, 105, 112], [106, 111, 105, 110], [111, 114], [97, 110, 100], [110, 111, 116], [104, 109], [114, 109], [104, 111, 111, 107, 115], [114, 105, 110, 103, 115]]
def Wc : List (List Int) := [[114, 97, 105, 108], [99, 108, 111, 116, 104], [104, 111, 111, 107], [114, 105, 110, 103], [98, 114, 111, 107, 101, 110], [108, 97, 119], [99, 104, 97, 105, 114], [112, 108, 101, 97, 116], [115, 108, 105, 112], [106, 111, 105, 110], [109, 97, 114, 107], [111, 114], [97, 110, 100], [110, 111, 116], [104, 109], [114, 109], [104, 111, 111, 107, 115], [114, 105, 110, 103, 115]]
def sgK (c : Int) : Int := if c = 59 then 25 else if c = 58 then 26 else if c = 43 then 27 else if c = 45 then 28 else if c = 42 then 29 else if c = 40 then 30 else if c = 41 then 31 else if c = 91 then 32 else if c = 93 then 33 else if c = 61 then 34 else if c = 60 then 35 else if c = 62 then 36 else 23
/-- where the token that begins at a ends; its kind; its number -/
def tkE (T : Int → Int) (n a : Int) : Int := if n ≤ a then a else if qL T a = true then adv (qL T) a n else if qD T a = true then adv (qD T) a n else a + 1
def tkK (T : Int → Int) (n a : Int) : Int := if n ≤ a then 22 else if qL T a = true then kwL Wm 0 20 (txt T a (adv (qL T) a n)) else if qD T a = true then (if 3 < adv (qD T) a n - a then 23 else 21) else sgK (T a)
def nuF (T : Int → Int) (a : Int) : Int → Int → Int := fun k m => if k - a < 3 then 10 * m + T k - 48 else m
def tkN (T : Int → Int) (n a : Int) : Int := fo (nuF T a) a (adv (qD T) a n) 0
def sk (T : Int → Int) (n p : Int) : Int := adv (qB T) p n
def nx (T : Int → Int) (n a : Int) : Int := sk T n (tkE T n a)
theorem tkE_rng {T : Int → Int} {n a : Int} (h1 : a ≤ n) : a ≤ tkE T n a ∧ tkE T n a ≤ n ∧ (a < n → a + 1 ≤ tkE T n a) := by
  unfold tkE
  by_cases c0 : n ≤ a
  · rw [if_pos c0]; omega
  · rw [if_neg c0]
    by_cases c1 : qL T a = true
    · rw [if_pos c1]
      have := adv_rng (q := qL T) a h1
      have := adv_pos (show a < n by omega) c1
      omega
    · rw [if_neg c1]
      by_cases c2 : qD T a = true
      · rw [if_pos c2]
        have := adv_rng (q := qD T) a h1
        have := adv_pos (show a < n by omega) c2
        omega
      · rw [if_neg c2]; omega
theorem nx_rng {T : Int → Int} {n a : Int} (h1 : a ≤ n) : a ≤ nx T n a ∧ nx T n a ≤ n ∧ (a < n → a + 1 ≤ nx T n a) := by
  have e := tkE_rng (T := T) h1
  have s := adv_rng (q := qB T) (tkE T n a) e.2.1
  unfold nx sk
  omega
theorem sk_rng {T : Int → Int} {n p : Int} (h : p ≤ n) : p ≤ sk T n p ∧ sk T n p ≤ n := adv_rng p h
theorem nu_rng {T : Int → Int} {a : Int} : ∀ e, a ≤ e → (∀ k, a ≤ k → k < e → qD T k = true) → 0 ≤ fo (nuF T a) a e 0 ∧ (e - a ≤ 0 → fo (nuF T a) a e 0 ≤ 0) ∧ (e - a ≤ 1 → fo (nuF T a) a e 0 ≤ 9) ∧ (e - a ≤ 2 → fo (nuF T a) a e 0 ≤ 99) ∧ fo (nuF T a) a e 0 ≤ 999 := by
  refine dn_ind (lo := a + 1) ?_ ?_
  · intro e h1 h2 _
    rw [fo_stop (by omega)]
    omega
  · intro e h1 ih h2 hq
    have i := ih (by omega) (fun k k0 k1 => hq k k0 (by omega))
    have c := hq (e - 1) (by omega) (by omega)
    unfold qD at c
    simp only [decide_eq_true_eq] at c
    have f : fo (nuF T a) a e 0 = nuF T a (e - 1) (fo (nuF T a) a (e - 1) 0) := by
      have := fo_last (F := nuF T a) (N := e - 1) a (by omega) 0
      rw [show e - 1 + 1 = e by omega] at this
      exact this
    rw [f]
    generalize fo (nuF T a) a (e - 1) 0 = v at *
    unfold nuF
    split <;> omega
theorem tkN_rng {T : Int → Int} {n a : Int} (h : a ≤ n) : 0 ≤ tkN T n a ∧ tkN T n a ≤ 999 := by
  have := nu_rng (T := T) (a := a) (adv (qD T) a n) (adv_rng a h).1 (fun k k0 k1 => adv_sat a k k0 k1)
  unfold tkN
  omega
theorem kwL_rng {e : Int} : ∀ (l : List (List Int)) (n : Int) (s : List Int), kwL l n e s = e ∨ (n ≤ kwL l n e s ∧ kwL l n e s < n + l.length) := by
  intro l
  induction l with
  | nil => intro n s; exact Or.inl rfl
  | cons w r ih =>
    intro n s
    simp only [kwL]
    split
    · right; simp only [List.length_cons]; omega
    · rcases ih (n + 1) s with z | z
      · exact Or.inl z
      · right; simp only [List.length_cons]; omega
/-- kinds that there are -/
def kdO (k : Int) : Prop := (0 ≤ k ∧ k ≤ 17) ∨ (20 ≤ k ∧ k ≤ 23) ∨ (25 ≤ k ∧ k ≤ 36)
theorem sgK_rng (c : Int) : sgK c = 23 ∨ (25 ≤ sgK c ∧ sgK c ≤ 36) := by
  unfold sgK
  repeat' split
  all_goals omega
theorem tkK_ok (T : Int → Int) (n a : Int) : kdO (tkK T n a) := by
  unfold kdO tkK
  by_cases c0 : n ≤ a
  · rw [if_pos c0]; omega
  · rw [if_neg c0]
    by_cases c1 : qL T a = true
    · rw [if_pos c1]
      have := kwL_rng (e := 20) Wm 0 (txt T a (adv (qL T) a n))
      have e : ((Wm.length : Nat) : Int) = 18 := rfl
      omega
    · rw [if_neg c1]
      by_cases c2 : qD T a = true
      · rw [if_pos c2]; split <;> omega
      · rw [if_neg c2]
        have := sgK_rng (T a)
        omega
theorem tkK_21 {T : Int → Int} {n a : Int} (h : tkK T n a = 21) : a < n ∧ qL T a ≠ true ∧ qD T a = true := by
  unfold tkK at h
  by_cases c0 : n ≤ a
  · rw [if_pos c0] at h; omega
  · rw [if_neg c0] at h
    by_cases c1 : qL T a = true
    · rw [if_pos c1] at h
      have := kwL_rng (e := 20) Wm 0 (txt T a (adv (qL T) a n))
      have e : ((Wm.length : Nat) : Int) = 18 := rfl
      omega
    · rw [if_neg c1] at h
      by_cases c2 : qD T a = true
      · exact ⟨by omega, c1, c2⟩
      · rw [if_neg c2] at h
        have := sgK_rng (T a)
        omega
theorem tkK_22 {T : Int → Int} {n a : Int} (h : ¬ tkK T n a = 22) : a < n := by
  unfold tkK at h
  by_cases c0 : n ≤ a
  · rw [if_pos c0] at h; omega
  · omega
/-! texts that stand -/
def txF (i : Nat) (k : Int) : Int := (txL.getD i []).getD k.toNat 0
def STR (h : Hp) : Prop := (sK h 2 = 40 ∧ sK h 3 = 40 ∧ sK h 4 = 40) ∧ (sN h 2 = 88 ∧ sN h 3 = 12 ∧ sN h 4 = 89) ∧ (∀ k : Nat, hI h 2 k = txF 0 k) ∧ (∀ k : Nat, hI h 3 k = txF 1 k) ∧ (∀ k : Nat, hI h 4 k = txF 2 k)
theorem STR.fr {h h' : Hp} (s : STR h) {p : Nat → Nat → Prop} (f : Fr p h h') (hp : ∀ a k, p a k → 6 ≤ a) : STR h' := by
  have n : ∀ a k, a < 6 → ¬ p a k := fun a k h1 h2 => by have := hp a k h2; omega
  refine ⟨by simp only [f.K]; exact s.1, by simp only [f.N]; exact s.2.1, fun k => by rw [f.I (n 2 k (by omega))]; exact s.2.2.1 k, fun k => by rw [f.I (n 3 k (by omega))]; exact s.2.2.2.1 k, fun k => by rw [f.I (n 4 k (by omega))]; exact s.2.2.2.2 k⟩
theorem cs0 : (catS [] ≤ 8) = True := eq_true (by decide)
theorem cs1 (v : Int) : (catS [(.inl v : AV)] ≤ 8) = True := eq_true (by show 1 ≤ 8; omega)
/-- a word at k, then a blank -/
def SLr (K : Int → Int) : Int → List Int → Bool
  | k, [] => decide (K k = 32)
  | k, c :: r => decide (K k = c) && (!(decide (c = 32)) && (decide (0 ≤ c ∧ c ≤ 255) && SLr K (k + 1) r))
def SLw (K : Int → Int) (N : Int) : Int → List (List Int) → Bool
  | k, [] => decide (k = N)
  | k, l :: r => decide (k + l.length < N) && (SLr K k l && SLw K N (k + l.length + 1) r)
theorem SLw_m : SLw (txF 2) 89 1 Wm = true := by decide +kernel
theorem SLw_c : SLw (txF 0) 88 0 Wc = true := by decide +kernel
/-! the model's tokens -/
def tOk (T : Int → Int) : Prop := ∀ k, 0 ≤ T k ∧ T k ≤ 255
def MK (h : Hp) (T : Int → Int) (n a : Int) : Prop := hI h 72 6 = a ∧ hI h 72 7 = tkE T n a ∧ hI h 72 9 = tkK T n a ∧ (tkK T n a = 21 → hI h 72 10 = tkN T n a)
/-- the model, its tape, the text's length -/
def MX (h : Hp) (T : Int → Int) (n : Int) : Prop := MR h ∧ STR h ∧ (∀ k : Nat, hI h 75 k = T k) ∧ tOk T ∧ hI h 72 8 = n ∧ (0 ≤ n ∧ n ≤ 900)
theorem MX.fr {h h' : Hp} {T : Int → Int} {n : Int} (x : MX h T n) {p : Nat → Nat → Prop} (f : Fr p h h') (hp : ∀ a k, p a k → 6 ≤ a) (h5 : ∀ k, ¬ p 75 k) (h8 : ¬ p 72 8) : MX h' T n := ⟨x.1.fr f, x.2.1.fr f hp, fun k => by rw [f.I (h5 k)]; exact x.2.2.1 k, x.2.2.2.1, by rw [f.I h8]; exact x.2.2.2.2.1, x.2.2.2.2.2⟩
theorem m_see {d : Nat} {h : Hp} {T : Int → Int} {n k : Int} (x : MX h T n) (hk : 0 ≤ k ∧ k ≤ 900) : cal (d+1) m_Mod_see [.inr (.inr (72)), .inl (k)] (h) = some (.inl (if k < n then T k else -1), h) := by
  obtain ⟨hm, st, tp, to, e8, nr⟩ := x
  have e := tp k.toNat
  rw [Int.toNat_of_nonneg hk.1] at e
  show EX (d) m_Mod_see 0 [(0, .inr (.inr (72))), (1, .inl (k))] [] (h) = _
  by_cases c : k < n
  · rw [if_pos c]
    simp (disch := omega) only [Mod_see_0, Mod_see_8, Mod_see_17, Mod_see_18, wr_id, ix_id, okx, if_pos, if_neg, Int.toNat_of_nonneg, bak_v, bak_n, wr_b01, wr_bt, b01_or, b01_0, b01_1, lc_lt0, lc_gt0, lc_eq0, wl_wr, wr_wr, wl_id, true_and, and_true, true_or, or_true, not_true_eq_false, not_false_eq_true, nc0, nc1, nc2, nc3, nc4, nc5, nc6, nc7, nc8, nc9, nc10, nc11, nc12, nc13, nc14, nc15, nc16, nc17, nc18, nc19, nc20, nc21, nc22, nc23, nc35, nc47, nc59, nc60, nc61, nc73, nc74, nc214, nc215, nc1115, nc2230, nc3345, if_true, if_false, Int.reduceToNat, hm.k, hm.r1, hm.r2, hm.r3, hm.r4, hm.r15, hm.r16, hm.r19, hm.r23, hm.r24, hm.r25, hm.r26, hm.r29, hm.r30, hm.r31, hm.r33, hm.r34, hm.r35, hm.k73, hm.k74, hm.k75, hm.k76, hm.k77, hm.k78, hm.k79, hm.k80, hm.k81, hm.k82, hm.k83, hm.k84, hm.k85, hm.k86, hm.k87, hm.k88, hm.k89, hm.n73, hm.n74, hm.n75, hm.n76, hm.n77, hm.n78, hm.n79, hm.n80, hm.n81, hm.n82, hm.n83, hm.n84, hm.n85, hm.n86, hm.n87, hm.n88, hm.n89, e8, e]
  · rw [if_neg c]
    simp (disch := omega) only [Mod_see_0, Mod_see_8, Mod_see_17, Mod_see_18, wr_id, ix_id, okx, if_pos, if_neg, Int.toNat_of_nonneg, bak_v, bak_n, wr_b01, wr_bt, b01_or, b01_0, b01_1, lc_lt0, lc_gt0, lc_eq0, wl_wr, wr_wr, wl_id, true_and, and_true, true_or, or_true, not_true_eq_false, not_false_eq_true, nc0, nc1, nc2, nc3, nc4, nc5, nc6, nc7, nc8, nc9, nc10, nc11, nc12, nc13, nc14, nc15, nc16, nc17, nc18, nc19, nc20, nc21, nc22, nc23, nc35, nc47, nc59, nc60, nc61, nc73, nc74, nc214, nc215, nc1115, nc2230, nc3345, if_true, if_false, Int.reduceToNat, hm.k, hm.r1, hm.r2, hm.r3, hm.r4, hm.r15, hm.r16, hm.r19, hm.r23, hm.r24, hm.r25, hm.r26, hm.r29, hm.r30, hm.r31, hm.r33, hm.r34, hm.r35, hm.k73, hm.k74, hm.k75, hm.k76, hm.k77, hm.k78, hm.k79, hm.k80, hm.k81, hm.k82, hm.k83, hm.k84, hm.k85, hm.k86, hm.k87, hm.k88, hm.k89, hm.n73, hm.n74, hm.n75, hm.n76, hm.n77, hm.n78, hm.n79, hm.n80, hm.n81, hm.n82, hm.n83, hm.n84, hm.n85, hm.n86, hm.n87, hm.n88, hm.n89, e8]
theorem m_small {d : Nat} {h : Hp} {c : Int} (hc : -1 ≤ c ∧ c ≤ 255) : cal (d+1) m_Mod_isSmall [.inl (c)] (h) = some (.inl (b01 (97 ≤ c ∧ c ≤ 122)), h) := by
  show EX (d) m_Mod_isSmall 0 [(0, .inl (c))] [] (h) = _
  unfold b01
  by_cases h1 : c < 97
  · rw [if_neg (by omega)]
    simp (disch := omega) only [Mod_isSmall_0, Mod_isSmall_16, Mod_isSmall_17, wr_id, ix_id, okx, if_pos, if_neg, Int.toNat_of_nonneg, bak_v, bak_n, wr_b01, wr_bt, b01_or, b01_0, b01_1, lc_lt0, lc_gt0, lc_eq0, wl_wr, wr_wr, wl_id, true_and, and_true, true_or, or_true, not_true_eq_false, not_false_eq_true, nc0, nc1, nc2, nc3, nc4, nc5, nc6, nc7, nc8, nc9, nc10, nc11, nc12, nc13, nc14, nc15, nc16, nc17, nc18, nc19, nc20, nc21, nc22, nc23, nc35, nc47, nc59, nc60, nc61, nc73, nc74, nc214, nc215, nc1115, nc2230, nc3345, if_true, if_false, Int.reduceToNat]
  · by_cases h2 : 122 < c
    · rw [if_neg (by omega)]
      simp (disch := omega) only [Mod_isSmall_0, Mod_isSmall_6, Mod_isSmall_16, Mod_isSmall_17, wr_id, ix_id, okx, if_pos, if_neg, Int.toNat_of_nonneg, bak_v, bak_n, wr_b01, wr_bt, b01_or, b01_0, b01_1, lc_lt0, lc_gt0, lc_eq0, wl_wr, wr_wr, wl_id, true_and, and_true, true_or, or_true, not_true_eq_false, not_false_eq_true, nc0, nc1, nc2, nc3, nc4, nc5, nc6, nc7, nc8, nc9, nc10, nc11, nc12, nc13, nc14, nc15, nc16, nc17, nc18, nc19, nc20, nc21, nc22, nc23, nc35, nc47, nc59, nc60, nc61, nc73, nc74, nc214, nc215, nc1115, nc2230, nc3345, if_true, if_false, Int.reduceToNat]
    · rw [if_pos (by omega)]
      simp (disch := omega) only [Mod_isSmall_0, Mod_isSmall_6, Mod_isSmall_12, Mod_isSmall_17, wr_id, ix_id, okx, if_pos, if_neg, Int.toNat_of_nonneg, bak_v, bak_n, wr_b01, wr_bt, b01_or, b01_0, b01_1, lc_lt0, lc_gt0, lc_eq0, wl_wr, wr_wr, wl_id, true_and, and_true, true_or, or_true, not_true_eq_false, not_false_eq_true, nc0, nc1, nc2, nc3, nc4, nc5, nc6, nc7, nc8, nc9, nc10, nc11, nc12, nc13, nc14, nc15, nc16, nc17, nc18, nc19, nc20, nc21, nc22, nc23, nc35, nc47, nc59, nc60, nc61, nc73, nc74, nc214, nc215, nc1115, nc2230, nc3345, if_true, if_false, Int.reduceToNat]
theorem m_digit {d : Nat} {h : Hp} {c : Int} (hc : -1 ≤ c ∧ c ≤ 255) : cal (d+1) m_Mod_isDigit [.inl (c)] (h) = some (.inl (b01 (48 ≤ c ∧ c ≤ 57)), h) := by
  show EX (d) m_Mod_isDigit 0 [(0, .inl (c))] [] (h) = _
  unfold b01
  by_cases h1 : c < 48
  · rw [if_neg (by omega)]
    simp (disch := omega) only [Mod_isDigit_0, Mod_isDigit_16, Mod_isDigit_17, wr_id, ix_id, okx, if_pos, if_neg, Int.toNat_of_nonneg, bak_v, bak_n, wr_b01, wr_bt, b01_or, b01_0, b01_1, lc_lt0, lc_gt0, lc_eq0, wl_wr, wr_wr, wl_id, true_and, and_true, true_or, or_true, not_true_eq_false, not_false_eq_true, nc0, nc1, nc2, nc3, nc4, nc5, nc6, nc7, nc8, nc9, nc10, nc11, nc12, nc13, nc14, nc15, nc16, nc17, nc18, nc19, nc20, nc21, nc22, nc23, nc35, nc47, nc59, nc60, nc61, nc73, nc74, nc214, nc215, nc1115, nc2230, nc3345, if_true, if_false, Int.reduceToNat]
  · by_cases h2 : 57 < c
    · rw [if_neg (by omega)]
      simp (disch := omega) only [Mod_isDigit_0, Mod_isDigit_6, Mod_isDigit_16, Mod_isDigit_17, wr_id, ix_id, okx, if_pos, if_neg, Int.toNat_of_nonneg, bak_v, bak_n, wr_b01, wr_bt, b01_or, b01_0, b01_1, lc_lt0, lc_gt0, lc_eq0, wl_wr, wr_wr, wl_id, true_and, and_true, true_or, or_true, not_true_eq_false, not_false_eq_true, nc0, nc1, nc2, nc3, nc4, nc5, nc6, nc7, nc8, nc9, nc10, nc11, nc12, nc13, nc14, nc15, nc16, nc17, nc18, nc19, nc20, nc21, nc22, nc23, nc35, nc47, nc59, nc60, nc61, nc73, nc74, nc214, nc215, nc1115, nc2230, nc3345, if_true, if_false, Int.reduceToNat]
    · rw [if_pos (by omega)]
      simp (disch := omega) only [Mod_isDigit_0, Mod_isDigit_6, Mod_isDigit_12, Mod_isDigit_17, wr_id, ix_id, okx, if_pos, if_neg, Int.toNat_of_nonneg, bak_v, bak_n, wr_b01, wr_bt, b01_or, b01_0, b01_1, lc_lt0, lc_gt0, lc_eq0, wl_wr, wr_wr, wl_id, true_and, and_true, true_or, or_true, not_true_eq_false, not_false_eq_true, nc0, nc1, nc2, nc3, nc4, nc5, nc6, nc7, nc8, nc9, nc10, nc11, nc12, nc13, nc14, nc15, nc16, nc17, nc18, nc19, nc20, nc21, nc22, nc23, nc35, nc47, nc59, nc60, nc61, nc73, nc74, nc214, nc215, nc1115, nc2230, nc3345, if_true, if_false, Int.reduceToNat]
theorem m_key_1 {d : Nat} {h : Hp} {T : Int → Int} {n a b w k : Int} (x : MX h T n) (ha : hI h 72 6 = a) (hb : hI h 72 7 = b) (hab : 0 ≤ a ∧ a ≤ b ∧ b ≤ n) (hk : 0 ≤ k) : ∀ (l : List Int) (i : Int), 0 ≤ i → a + i ≤ b → k + i + l.length < 89 → SLr (txF 2) (k + i) l = true → EX (d) m_Mod_keyAt 15 [(0, .inr (.inr (72))), (1, .inl (w)), (2, .inl (k)), (3, .inl (i))] [] (h) = if txt T (a + i) b = l then some (.inl w, h) else EX (d) m_Mod_keyAt 97 [(0, .inr (.inr (72))), (1, .inl (w)), (2, .inl (k))] [] (h) := by
  obtain ⟨hm, st, tp, to, e8, nr⟩ := x
  intro l
  induction l with
  | nil =>
    intro i i0 ab hl sl
    simp only [SLr, decide_eq_true_eq] at sl
    simp only [List.length_nil] at hl
    have e4 := st.2.2.2.2 (k + i).toNat
    rw [Int.toNat_of_nonneg (by omega), sl] at e4
    rw [Mod_keyAt_15]
    by_cases c : a + i = b
    · rw [if_pos (txt_nil (by omega))]
      simp (disch := omega) only [Mod_keyAt_69, Mod_keyAt_82, Mod_keyAt_95, wr_id, ix_id, okx, if_pos, if_neg, Int.toNat_of_nonneg, bak_v, bak_n, wr_b01, wr_bt, b01_or, b01_0, b01_1, lc_lt0, lc_gt0, lc_eq0, wl_wr, wr_wr, wl_id, true_and, and_true, true_or, or_true, not_true_eq_false, not_false_eq_true, nc0, nc1, nc2, nc3, nc4, nc5, nc6, nc7, nc8, nc9, nc10, nc11, nc12, nc13, nc14, nc15, nc16, nc17, nc18, nc19, nc20, nc21, nc22, nc23, nc35, nc47, nc59, nc60, nc61, nc73, nc74, nc214, nc215, nc1115, nc2230, nc3345, if_true, if_false, Int.reduceToNat, cs0, cs1, st.1.2.2, st.2.1.2.2, e4, hm.k, ha, hb]
    · have nt : ¬ txt T (a + i) b = [] := by rw [txt_cons (by omega)]; exact List.cons_ne_nil _ _
      rw [if_neg nt]
      simp (disch := omega) only [Mod_keyAt_69, Mod_keyAt_82, wr_id, ix_id, okx, if_pos, if_neg, Int.toNat_of_nonneg, bak_v, bak_n, wr_b01, wr_bt, b01_or, b01_0, b01_1, lc_lt0, lc_gt0, lc_eq0, wl_wr, wr_wr, wl_id, true_and, and_true, true_or, or_true, not_true_eq_false, not_false_eq_true, nc0, nc1, nc2, nc3, nc4, nc5, nc6, nc7, nc8, nc9, nc10, nc11, nc12, nc13, nc14, nc15, nc16, nc17, nc18, nc19, nc20, nc21, nc22, nc23, nc35, nc47, nc59, nc60, nc61, nc73, nc74, nc214, nc215, nc1115, nc2230, nc3345, if_true, if_false, Int.reduceToNat, cs0, cs1, st.1.2.2, st.2.1.2.2, e4, hm.k, ha, hb]
  | cons c r ih =>
    intro i i0 ab hl sl
    simp only [SLr, Bool.and_eq_true, decide_eq_true_eq, Bool.not_eq_true', decide_eq_false_iff_not] at sl
    simp only [List.length_cons] at hl
    obtain ⟨s1, s2, s4, s3⟩ := sl
    have e4 := st.2.2.2.2 (k + i).toNat
    rw [Int.toNat_of_nonneg (by omega), s1] at e4
    rw [Mod_keyAt_15]
    by_cases c1 : a + i < b
    · have e5 := tp (a + i).toNat
      rw [Int.toNat_of_nonneg (by omega)] at e5
      have tr := to (a + i)
      by_cases c2 : T (a + i) = c
      · have ih := ih (i + 1) (by omega) (by omega) (by omega) (by rw [show k + (i + 1) = k + i + 1 by omega]; exact s3)
        have et : (txt T (a + i) b = c :: r) = (txt T (a + (i + 1)) b = r) := by
          rw [txt_cons c1, c2, show a + i + 1 = a + (i + 1) by omega]
          simp
        simp only [et]
        simp (disch := omega) only [Mod_keyAt_28, Mod_keyAt_41, Mod_keyAt_63, wr_id, ix_id, okx, if_pos, if_neg, Int.toNat_of_nonneg, bak_v, bak_n, wr_b01, wr_bt, b01_or, b01_0, b01_1, lc_lt0, lc_gt0, lc_eq0, wl_wr, wr_wr, wl_id, true_and, and_true, true_or, or_true, not_true_eq_false, not_false_eq_true, nc0, nc1, nc2, nc3, nc4, nc5, nc6, nc7, nc8, nc9, nc10, nc11, nc12, nc13, nc14, nc15, nc16, nc17, nc18, nc19, nc20, nc21, nc22, nc23, nc35, nc47, nc59, nc60, nc61, nc73, nc74, nc214, nc215, nc1115, nc2230, nc3345, if_true, if_false, Int.reduceToNat, hm.k, hm.r1, hm.r2, hm.r3, hm.r4, hm.r15, hm.r16, hm.r19, hm.r23, hm.r24, hm.r25, hm.r26, hm.r29, hm.r30, hm.r31, hm.r33, hm.r34, hm.r35, hm.k73, hm.k74, hm.k75, hm.k76, hm.k77, hm.k78, hm.k79, hm.k80, hm.k81, hm.k82, hm.k83, hm.k84, hm.k85, hm.k86, hm.k87, hm.k88, hm.k89, hm.n73, hm.n74, hm.n75, hm.n76, hm.n77, hm.n78, hm.n79, hm.n80, hm.n81, hm.n82, hm.n83, hm.n84, hm.n85, hm.n86, hm.n87, hm.n88, hm.n89, cs0, cs1, st.1.2.2, st.2.1.2.2, e4, ha, hb, e5, c2]
        exact ih
      · have nt : ¬ txt T (a + i) b = c :: r := by rw [txt_cons c1]; intro z; exact c2 (by injection z)
        rw [if_neg nt]
        simp (disch := omega) only [Mod_keyAt_28, Mod_keyAt_41, Mod_keyAt_69, wr_id, ix_id, okx, if_pos, if_neg, Int.toNat_of_nonneg, bak_v, bak_n, wr_b01, wr_bt, b01_or, b01_0, b01_1, lc_lt0, lc_gt0, lc_eq0, wl_wr, wr_wr, wl_id, true_and, and_true, true_or, or_true, not_true_eq_false, not_false_eq_true, nc0, nc1, nc2, nc3, nc4, nc5, nc6, nc7, nc8, nc9, nc10, nc11, nc12, nc13, nc14, nc15, nc16, nc17, nc18, nc19, nc20, nc21, nc22, nc23, nc35, nc47, nc59, nc60, nc61, nc73, nc74, nc214, nc215, nc1115, nc2230, nc3345, if_true, if_false, Int.reduceToNat, hm.k, hm.r1, hm.r2, hm.r3, hm.r4, hm.r15, hm.r16, hm.r19, hm.r23, hm.r24, hm.r25, hm.r26, hm.r29, hm.r30, hm.r31, hm.r33, hm.r34, hm.r35, hm.k73, hm.k74, hm.k75, hm.k76, hm.k77, hm.k78, hm.k79, hm.k80, hm.k81, hm.k82, hm.k83, hm.k84, hm.k85, hm.k86, hm.k87, hm.k88, hm.k89, hm.n73, hm.n74, hm.n75, hm.n76, hm.n77, hm.n78, hm.n79, hm.n80, hm.n81, hm.n82, hm.n83, hm.n84, hm.n85, hm.n86, hm.n87, hm.n88, hm.n89, cs0, cs1, st.1.2.2, st.2.1.2.2, e4, ha, hb, e5]
    · have nt : ¬ txt T (a + i) b = c :: r := by rw [txt_nil (by omega)]; intro z; cases z
      rw [if_neg nt]
      simp (disch := omega) only [Mod_keyAt_28, Mod_keyAt_69, wr_id, ix_id, okx, if_pos, if_neg, Int.toNat_of_nonneg, bak_v, bak_n, wr_b01, wr_bt, b01_or, b01_0, b01_1, lc_lt0, lc_gt0, lc_eq0, wl_wr, wr_wr, wl_id, true_and, and_true, true_or, or_true, not_true_eq_false, not_false_eq_true, nc0, nc1, nc2, nc3, nc4, nc5, nc6, nc7, nc8, nc9, nc10, nc11, nc12, nc13, nc14, nc15, nc16, nc17, nc18, nc19, nc20, nc21, nc22, nc23, nc35, nc47, nc59, nc60, nc61, nc73, nc74, nc214, nc215, nc1115, nc2230, nc3345, if_true, if_false, Int.reduceToNat, hm.k, hm.r1, hm.r2, hm.r3, hm.r4, hm.r15, hm.r16, hm.r19, hm.r23, hm.r24, hm.r25, hm.r26, hm.r29, hm.r30, hm.r31, hm.r33, hm.r34, hm.r35, hm.k73, hm.k74, hm.k75, hm.k76, hm.k77, hm.k78, hm.k79, hm.k80, hm.k81, hm.k82, hm.k83, hm.k84, hm.k85, hm.k86, hm.k87, hm.k88, hm.k89, hm.n73, hm.n74, hm.n75, hm.n76, hm.n77, hm.n78, hm.n79, hm.n80, hm.n81, hm.n82, hm.n83, hm.n84, hm.n85, hm.n86, hm.n87, hm.n88, hm.n89, cs0, cs1, st.1.2.2, st.2.1.2.2, e4, ha, hb]
theorem m_key_2 {d : Nat} {h : Hp} {w : Int} (st : STR h) : ∀ (l : List Int) (k : Int), 0 ≤ k → k + l.length < 89 → SLr (txF 2) k l = true → EX (d) m_Mod_keyAt 97 [(0, .inr (.inr (72))), (1, .inl (w)), (2, .inl (k))] [] (h) = EX (d) m_Mod_keyAt 4 [(0, .inr (.inr (72))), (1, .inl (w + 1)), (2, .inl (k + l.length + 1))] [] (h) := by
  intro l
  induction l with
  | nil =>
    intro k k0 hl sl
    simp only [SLr, decide_eq_true_eq] at sl
    simp only [List.length_nil] at hl
    have e4 := st.2.2.2.2 k.toNat
    rw [Int.toNat_of_nonneg k0, sl] at e4
    rw [Mod_keyAt_97]
    simp (disch := omega) only [Mod_keyAt_114, wr_id, ix_id, okx, if_pos, if_neg, Int.toNat_of_nonneg, bak_v, bak_n, wr_b01, wr_bt, b01_or, b01_0, b01_1, lc_lt0, lc_gt0, lc_eq0, wl_wr, wr_wr, wl_id, true_and, and_true, true_or, or_true, not_true_eq_false, not_false_eq_true, nc0, nc1, nc2, nc3, nc4, nc5, nc6, nc7, nc8, nc9, nc10, nc11, nc12, nc13, nc14, nc15, nc16, nc17, nc18, nc19, nc20, nc21, nc22, nc23, nc35, nc47, nc59, nc60, nc61, nc73, nc74, nc214, nc215, nc1115, nc2230, nc3345, if_true, if_false, Int.reduceToNat, cs0, cs1, st.1.2.2, st.2.1.2.2, e4, List.length_nil, Int.add_zero]
  | cons c r ih =>
    intro k k0 hl sl
    simp only [SLr, Bool.and_eq_true, decide_eq_true_eq, Bool.not_eq_true', decide_eq_false_iff_not] at sl
    simp only [List.length_cons] at hl
    obtain ⟨s1, s2, s4, s3⟩ := sl
    have e4 := st.2.2.2.2 k.toNat
    rw [Int.toNat_of_nonneg k0, s1] at e4
    have ih := ih (k + 1) (by omega) (by omega) s3
    rw [Mod_keyAt_97]
    simp (disch := omega) only [Mod_keyAt_108, wr_id, ix_id, okx, if_pos, if_neg, Int.toNat_of_nonneg, bak_v, bak_n, wr_b01, wr_bt, b01_or, b01_0, b01_1, lc_lt0, lc_gt0, lc_eq0, wl_wr, wr_wr, wl_id, true_and, and_true, true_or, or_true, not_true_eq_false, not_false_eq_true, nc0, nc1, nc2, nc3, nc4, nc5, nc6, nc7, nc8, nc9, nc10, nc11, nc12, nc13, nc14, nc15, nc16, nc17, nc18, nc19, nc20, nc21, nc22, nc23, nc35, nc47, nc59, nc60, nc61, nc73, nc74, nc214, nc215, nc1115, nc2230, nc3345, if_true, if_false, Int.reduceToNat, cs0, cs1, st.1.2.2, st.2.1.2.2, e4]
    refine ih.trans ?_
    congr 1
    simp only [List.length_cons]
    rw [show k + 1 + (r.length : Int) + 1 = k + ((r.length + 1 : Nat) : Int) + 1 by omega]
theorem m_key_3 {d : Nat} {h : Hp} {T : Int → Int} {n a b : Int} (x : MX h T n) (ha : hI h 72 6 = a) (hb : hI h 72 7 = b) (hab : 0 ≤ a ∧ a ≤ b ∧ b ≤ n) : ∀ (L : List (List Int)) (w k : Int), 0 ≤ k → k ≤ 89 → SLw (txF 2) 89 k L = true → EX (d) m_Mod_keyAt 4 [(0, .inr (.inr (72))), (1, .inl (w)), (2, .inl (k))] [] (h) = some (.inl (kwL L w 20 (txt T a b)), h) := by
  have st := x.2.1
  have sl4 : sL h 4 = 89 := by rw [sL_eq, st.2.1.2.2]; rfl
  intro L
  induction L with
  | nil =>
    intro w k k0 k1 sl
    simp only [SLw, decide_eq_true_eq] at sl
    rw [Mod_keyAt_4]
    simp (disch := omega) only [Mod_keyAt_123, wr_id, ix_id, okx, if_pos, if_neg, Int.toNat_of_nonneg, bak_v, bak_n, wr_b01, wr_bt, b01_or, b01_0, b01_1, lc_lt0, lc_gt0, lc_eq0, wl_wr, wr_wr, wl_id, true_and, and_true, true_or, or_true, not_true_eq_false, not_false_eq_true, nc0, nc1, nc2, nc3, nc4, nc5, nc6, nc7, nc8, nc9, nc10, nc11, nc12, nc13, nc14, nc15, nc16, nc17, nc18, nc19, nc20, nc21, nc22, nc23, nc35, nc47, nc59, nc60, nc61, nc73, nc74, nc214, nc215, nc1115, nc2230, nc3345, if_true, if_false, Int.reduceToNat, cs1, st.1.2.2, sl4, kwL]
  | cons l r ih =>
    intro w k k0 k1 sl
    simp only [SLw, Bool.and_eq_true, decide_eq_true_eq] at sl
    obtain ⟨s1, s2, s3⟩ := sl
    have e1 := m_key_1 (d := d) (w := w) (k := k) x ha hb hab k0 l 0 (by omega) (by omega) (by omega) (by rw [Int.add_zero]; exact s2)
    rw [Int.add_zero] at e1
    have e2 := m_key_2 (d := d) (w := w) st l k k0 s1 s2
    have e3 := ih (w + 1) (k + l.length + 1) (by omega) (by omega) s3
    rw [Mod_keyAt_4]
    simp (disch := omega) only [Mod_keyAt_13, wr_id, ix_id, okx, if_pos, if_neg, Int.toNat_of_nonneg, bak_v, bak_n, wr_b01, wr_bt, b01_or, b01_0, b01_1, lc_lt0, lc_gt0, lc_eq0, wl_wr, wr_wr, wl_id, true_and, and_true, true_or, or_true, not_true_eq_false, not_false_eq_true, nc0, nc1, nc2, nc3, nc4, nc5, nc6, nc7, nc8, nc9, nc10, nc11, nc12, nc13, nc14, nc15, nc16, nc17, nc18, nc19, nc20, nc21, nc22, nc23, nc35, nc47, nc59, nc60, nc61, nc73, nc74, nc214, nc215, nc1115, nc2230, nc3345, if_true, if_false, Int.reduceToNat, cs1, st.1.2.2, sl4, kwL]
    refine e1.trans ?_
    by_cases c : txt T a b = l
    · rw [if_pos c, if_pos c]
    · rw [if_neg c, if_neg c, e2, e3]
theorem m_keyAt {d : Nat} {h : Hp} {T : Int → Int} {n a b : Int} (x : MX h T n) (ha : hI h 72 6 = a) (hb : hI h 72 7 = b) (hab : 0 ≤ a ∧ a ≤ b ∧ b ≤ n) : cal (d+1) m_Mod_keyAt [.inr (.inr (72))] (h) = some (.inl (kwL Wm 0 20 (txt T a b)), h) := by
  show EX (d) m_Mod_keyAt 0 [(0, .inr (.inr (72)))] [] (h) = _
  rw [Mod_keyAt_0]
  exact m_key_3 x ha hb hab Wm 0 1 (by omega) (by omega) SLw_m
