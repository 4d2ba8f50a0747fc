/-! the class: evenFor, pure and measureBehind -/
theorem lst_no {S : Int → Int} (mo sq : Int) : ∀ (n : Nat) (x r : Int), cnt (Fpl S) Bpl (S 1) (S 2) n x r = 0 → lst S mo sq n x r = -1 := by
  intro n
  induction n with
  | zero => intro x r h; simp [cnt, Bpl] at h
  | succ n ih =>
    intro x r h
    have nn : ∀ n x r, 0 ≤ cnt (Fpl S) Bpl (S 1) (S 2) n x r := fun n x r => cnt_nn (fun r => by simp [Bpl]) n x r
    refine fo_inv (P := fun m => m = -1) (x + 1) (fun g m g1 g2 hm => ?_) (-1) rfl
    refine fo_inv (P := fun m => m = -1) (r + 1) (fun s m s1 s2 hm => ?_) m hm
    have h1 := sm_z (x + 1) (fun g _ _ => sm_nn (r + 1) (fun s _ _ => by split; exact nn _ _ _; exact Int.le_refl 0)) h g g1 g2
    have h2 := sm_z (r + 1) (fun s _ _ => by split; exact nn _ _ _; exact Int.le_refl 0) h1 s s1 s2
    have e : lby S mo sq x r g s (lst S mo sq n g s) = -1 := by
      unfold lby
      split
      · rename_i c
        rw [if_pos c] at h2
        rw [ih g s h2]
        simp
      · rfl
    rw [e, hm]
    rfl
/-- FAR for none -/
def toF (v : Int) : Int := if v = -1 then 536870912 else v
theorem toF_rng {v : Int} (h : -1 ≤ v ∧ v ≤ 100000000) : 0 ≤ toF v ∧ toF v ≤ 536870912 := by unfold toF; split <;> omega
/-- what the class weighs -/
def wlE (sq g v : Int) : Int := if sq = 0 then (if g < toF v then toF v else g) else g * g + toF v
/-- mode of measuring -/
def mdE (S : Int → Int) (mo sq : Int) : Prop := (sq = 0 ∧ mo = -1) ∨ (sq = 1 ∧ mo = eMo S)
theorem wl_ok {S : Int → Int} (gd : Gd S) {mo sq : Int} (md : mdE S mo sq) {x r y s v : Int} (hx : 0 ≤ x ∧ x < y ∧ y < S 1) (hr : 0 ≤ r ∧ r < s ∧ s < S 2) (hb : bt (S 10) s = 0) (hs : 0 ≤ sagM S x r y s) (hq : sq = 1 → sagM S x r y s ≤ eMo S) (hv : -1 ≤ v ∧ v ≤ 17280000) : 0 ≤ wlE sq (sagM S x r y s) v ∧ wlE sq (sagM S x r y s) v ≤ 600000000 ∧ (wlE sq (sagM S x r y s) v = toF (lby S mo sq x r y s v) ∨ (lby S mo sq x r y s v = -1 ∧ 536870912 ≤ wlE sq (sagM S x r y s) v)) := by
  have ga := gd.a
  have gb := gd.b
  have eo := eMo_ok gd
  have sg := gd.1.sag (x := x) (r := r) (y := y) (s := s) (by omega) (by omega) (by omega) (by omega)
  have cf : Fpl S x r y s = true := by simp [Fpl, hb, hs]
  have es : sgE S x r y s = sagM S x r y s := by unfold sgE; rw [if_neg (by omega)]
  have q := sq_rng (a := sagM S x r y s) (by omega)
  unfold lby
  rw [if_pos cf, es]
  unfold wlE toF
  generalize sagM S x r y s = g at *
  generalize g * g = gg at *
  rcases md with ⟨a, b⟩ | ⟨a, b⟩
  · subst a; subst b
    by_cases c : v = -1
    · subst c
      simp
      repeat' split
      all_goals omega
    · simp [c]
      repeat' split
      all_goals omega
  · subst a
    have := hq rfl
    have c2 : ¬ mo < g := by omega
    by_cases c : v = -1
    · subst c
      simp
      omega
    · simp [c, c2]
      omega
theorem toF_mn {v m : Int} (hv : -1 ≤ v ∧ v ≤ 100000000) (hm : -1 ≤ m ∧ m ≤ 100000000) : toF (mn1 v m) = if toF v < toF m then toF v else toF m := by
  unfold mn1 toF
  repeat' split
  all_goals omega
def shE (h : Hp) (N y s : Int) (acc : Int → Int) : Prop := ∀ m, 0 ≤ m → m < N → hI h 70 ((y * 12 + s) * 12 + m).toNat = toF (acc m)
theorem shE.cg {h : Hp} {N x r : Int} {acc acc' : Int → Int} (v : shE h N x r acc) (e : ∀ m, 0 ≤ m → m < N → acc m = acc' m) : shE h N x r acc' := fun m m0 m1 => by rw [v m m0 m1, e m m0 m1]
def pS (x r : Int) (a k : Nat) : Prop := a = 70 ∧ (x * 12 + r) * 12 ≤ (k : Int) ∧ (k : Int) < (x * 12 + r) * 12 + 12
theorem pS.ge {x r : Int} : ∀ a k, pS x r a k → 60 ≤ a := fun a k q => by unfold pS at q; omega
theorem shE.fr {h h' : Hp} {N x r y s : Int} {acc : Int → Int} (v : shE h N y s acc) (f : Fr (pS x r) h h') (hN : N ≤ 12) (hx : 0 ≤ x) (hr : 0 ≤ r ∧ r ≤ 11) (hy : 0 ≤ y) (hs : 0 ≤ s ∧ s ≤ 11) (ne : ¬ (x = y ∧ r = s)) : shE h' N y s acc := by
  intro m m0 m1
  rw [f.I (by unfold pS; omega)]
  exact v m m0 m1
/-- least at a ring that may be broken -/
def EvC (S : Int → Int) (mo sq m y s : Int) : Int := if bt (S 10) s = 0 then Lv S mo sq m y s else -1
theorem JN.fr {h h' : Hp} {S : Int → Int} (j : JN h S) {p : Nat → Nat → Prop} (f : Fr p h h') (hp : ∀ a k, p a k → ¬ a = 61 ∧ ¬ a = 62 ∧ ¬ (a = 60 ∧ k = 2)) : JN h' S := ⟨fun y s a b c d m m0 m1 => by rw [f.I (fun q => (hp _ _ q).1 rfl)]; exact j.1 y s a b c d m m0 m1, fun m m0 m1 => by rw [f.I (fun q => (hp _ _ q).2.1 rfl)]; exact j.2.1 m m0 m1, by rw [f.I (fun q => (hp _ _ q).2.2 ⟨rfl, rfl⟩)]; exact j.2.2⟩
/-- what measuring needs -/
def EN (h : Hp) (w : Nat) (S : Int → Int) (sq : Int) : Prop := JW h w S ∧ JN h S ∧ (sq = 1 → hI h 60 5 = eMo S)
theorem EN.fr {h h' : Hp} {w : Nat} {S : Int → Int} {sq : Int} (e : EN h w S sq) {p : Nat → Nat → Prop} (f : Fr p h h') (hp : ∀ a k, p a k → a = 63 ∨ a = 70) : EN h' w S sq := ⟨e.1.fr f (fun a k q => by have := hp a k q; omega), e.2.1.fr f (fun a k q => by have := hp a k q; omega), fun q => by rw [f.I (fun c => by have := hp _ _ c; omega)]; exact e.2.2 q⟩
theorem pS.e {x r : Int} : ∀ a k, pS x r a k → a = 63 ∨ a = 70 := fun a k q => by unfold pS at q; omega
theorem c_mB_1 {d w : Nat} {S : Int → Int} (gd : Gd S) {mo sq : Int} (md : mdE S mo sq) {x r y s : Int} (hx : 0 ≤ x ∧ x < y ∧ y < S 1) (hr : 0 ≤ r ∧ r < s ∧ s < S 2) (hs : 0 ≤ sagM S x r y s) (hq : sq = 1 → sagM S x r y s ≤ eMo S) {acc : Int → Int} (hacc : ∀ m, m ≤ 12 → -1 ≤ acc m ∧ acc m ≤ 100000000) : ∀ n, 1 ≤ n → n ≤ 12 → ∀ h, EN h w S sq → shE h (fullN S) y s (fun m => EvC S mo sq m y s) → shE h (fullN S) x r (fun m => if 1 ≤ m ∧ m < n then mn1 (lby S mo sq x r y s (Lv S mo sq (m - 1) y s)) (acc m) else acc m) → ∃ h', EX (d+1) m_Joinings_measureBehind 87 [(0, .inr (.inr (60))), (1, .inr (.inr (w))), (2, .inl (x)), (3, .inl (r)), (4, .inr (.inr (70))), (5, .inl (sq)), (6, .inl ((x * 12 + r) * 12)), (7, .inl (y)), (8, .inl (s)), (9, .inl (sagM S x r y s)), (10, .inl ((y * 12 + s) * 12)), (11, .inl (n))] [] (h) = EX (d+1) m_Joinings_measureBehind 175 [(0, .inr (.inr (60))), (1, .inr (.inr (w))), (2, .inl (x)), (3, .inl (r)), (4, .inr (.inr (70))), (5, .inl (sq)), (6, .inl ((x * 12 + r) * 12)), (7, .inl (y)), (8, .inl (s))] [] (h') ∧ shE h' (fullN S) x r (fun m => if 1 ≤ m then mn1 (lby S mo sq x r y s (Lv S mo sq (m - 1) y s)) (acc m) else acc m) ∧ Fr (pS x r) h h' := by
  have ga := gd.a
  have gb := gd.b
  have fs := fullN_spec S
  have sg := gd.1.sag (x := x) (r := r) (y := y) (s := s) (by omega) (by omega) (by omega) (by omega)
  have q := sq_rng (a := sagM S x r y s) (by omega)
  refine up_ind (hi := fullN S) ?_ ?_
  · intro n hn h0 h1 h en vb va
    have hc := en.1.1
    have jn := en.2.1.2.2
    refine ⟨h, ?_, va.cg (fun m m0 m1 => ?_), Fr.rf⟩
    · rw [Joinings_measureBehind_87]
      simp (disch := omega) only [wr_id, ix_id, okx, if_pos, if_neg, Int.toNat_of_nonneg, bak_v, bak_n, wr_b01, wr_bt, b01_or, b01_0, b01_1, lc_lt0, lc_gt0, lc_eq0, wl_wr, wr_wr, wl_id, true_and, and_true, true_or, or_true, not_true_eq_false, not_false_eq_true, nc0, nc1, nc2, nc3, nc4, nc5, nc6, nc7, nc8, nc9, nc10, nc11, nc12, nc13, nc14, nc15, nc16, nc17, nc18, nc19, nc20, nc21, nc22, nc23, nc35, nc47, nc59, nc60, nc61, nc73, nc74, nc214, nc215, nc1115, nc2230, nc3345, if_true, if_false, Int.reduceToNat, hc.k6, hc.r5, hc.r6, hc.r0, hc.r2, hc.r7, hc.r8, hc.r9, hc.r10, hc.r11, hc.r12, hc.r13, hc.r14, hc.r15, hc.r16, hc.r17, hc.r18, hc.r8_0, hc.r8_1, hc.r11_0, hc.r11_1, hc.r60_0, hc.r60_1, hc.r60_4, hc.r64_0, hc.r64_3, hc.r64_4, hc.r68_0, hc.r41_0, hc.r41_1, hc.r42_0, hc.r42_1, hc.k7, hc.k8, hc.k9, hc.k11, hc.k12, hc.k13, hc.k32, hc.k41, hc.k42, hc.k43, hc.k60, hc.k61, hc.k62, hc.k63, hc.k64, hc.k65, hc.k66, hc.k67, hc.k68, hc.k69, hc.k70, hc.k71, hc.n6, hc.n7, hc.n8, hc.n9, hc.n11, hc.n12, hc.n13, hc.n32, hc.n41, hc.n42, hc.n43, hc.n60, hc.n61, hc.n62, hc.n63, hc.n64, hc.n65, hc.n66, hc.n67, hc.n68, hc.n69, hc.n70, hc.n71, jn]
    · by_cases c : 1 ≤ m
      · simp only [c, true_and, show m < n by omega, if_true]
      · simp only [c, false_and, if_false]
  · intro n hn ih h0 h1 h en vb va
    have hc := en.1.1
    have jn := en.2.1.2.2
    have e1 := va n (by omega) (by omega)
    dsimp only at e1
    rw [if_neg (by omega)] at e1
    have e2 := vb (n - 1) (by omega) (by omega)
    rw [show (y * 12 + s) * 12 + (n - 1) = (y * 12 + s) * 12 + n - 1 by omega] at e2
    have e3 := en.2.1.row (y := y) (s := s) (m := n - 1) (by omega) (by omega) (by omega)
    rw [show (y * 12 + s) * 12 + (n - 1) = (y * 12 + s) * 12 + n - 1 by omega] at e3
    have mr := Mc_rng gd (n - 1) (x := y) (r := s) (by omega) (by omega)
    have lr := Lv_rng gd mo sq (n := n - 1) (by omega) (x := y) (r := s) (by omega) (by omega) (by omega)
    by_cases c : Mc S (n - 1) y s = 0
    · refine ⟨h, ?_, va.cg (fun m m0 m1 => ?_), Fr.rf⟩
      · rw [Joinings_measureBehind_87]
        simp (disch := omega) only [Joinings_measureBehind_96, wr_id, ix_id, okx, if_pos, if_neg, Int.toNat_of_nonneg, bak_v, bak_n, wr_b01, wr_bt, b01_or, b01_0, b01_1, lc_lt0, lc_gt0, lc_eq0, wl_wr, wr_wr, wl_id, true_and, and_true, true_or, or_true, not_true_eq_false, not_false_eq_true, nc0, nc1, nc2, nc3, nc4, nc5, nc6, nc7, nc8, nc9, nc10, nc11, nc12, nc13, nc14, nc15, nc16, nc17, nc18, nc19, nc20, nc21, nc22, nc23, nc35, nc47, nc59, nc60, nc61, nc73, nc74, nc214, nc215, nc1115, nc2230, nc3345, if_true, if_false, Int.reduceToNat, hc.k6, hc.r5, hc.r6, hc.r0, hc.r2, hc.r7, hc.r8, hc.r9, hc.r10, hc.r11, hc.r12, hc.r13, hc.r14, hc.r15, hc.r16, hc.r17, hc.r18, hc.r8_0, hc.r8_1, hc.r11_0, hc.r11_1, hc.r60_0, hc.r60_1, hc.r60_4, hc.r64_0, hc.r64_3, hc.r64_4, hc.r68_0, hc.r41_0, hc.r41_1, hc.r42_0, hc.r42_1, hc.k7, hc.k8, hc.k9, hc.k11, hc.k12, hc.k13, hc.k32, hc.k41, hc.k42, hc.k43, hc.k60, hc.k61, hc.k62, hc.k63, hc.k64, hc.k65, hc.k66, hc.k67, hc.k68, hc.k69, hc.k70, hc.k71, hc.n6, hc.n7, hc.n8, hc.n9, hc.n11, hc.n12, hc.n13, hc.n32, hc.n41, hc.n42, hc.n43, hc.n60, hc.n61, hc.n62, hc.n63, hc.n64, hc.n65, hc.n66, hc.n67, hc.n68, hc.n69, hc.n70, hc.n71, jn, e3, c]
      · by_cases c1 : 1 ≤ m
        · by_cases c2 : m < n
          · simp only [c1, c2, and_self, if_true]
          · simp only [c1, c2, and_false, if_false, if_true]
            have cz := Mc_z (S := S) (y := y) (s := s) (m - 1) (n - 1) (by omega) (by omega) c
            have : lby S mo sq x r y s (Lv S mo sq (m - 1) y s) = -1 := by
              unfold lby
              split
              · rename_i cf
                have cb : bt (S 10) s = 0 := by simp [Fpl] at cf; exact cf.1
                unfold Mc at cz
                rw [if_pos cb] at cz
                have : Lv S mo sq (m - 1) y s = -1 := lst_no mo sq _ _ _ cz
                rw [this]
                simp
              · rfl
            rw [this]
            rfl
        · simp only [c1, false_and, if_false]
    · have cb : bt (S 10) s = 0 := by
        refine Decidable.not_not.mp fun q => c ?_
        unfold Mc
        rw [if_neg q]
      have ee : EvC S mo sq (n - 1) y s = Lv S mo sq (n - 1) y s := by unfold EvC; rw [if_pos cb]
      dsimp only at e2
      rw [ee] at e2
      obtain ⟨w0, w1, w2⟩ := wl_ok gd md (v := Lv S mo sq (n - 1) y s) hx hr cb hs hq lr
      have br := lby_rng gd mo sq (x := x) (r := r) (g := y) (s := s) (v := Lv S mo sq (n - 1) y s) (B := 17280000) (by omega) (by omega) (by omega) lr (by omega)
      have tr := toF_rng (v := Lv S mo sq (n - 1) y s) (by omega)
      have ta := toF_rng (hacc n (by omega))
      have tm := toF_mn (v := lby S mo sq x r y s (Lv S mo sq (n - 1) y s)) (m := acc n) (by omega) (hacc n (by omega))
      have tl := toF_rng (v := lby S mo sq x r y s (Lv S mo sq (n - 1) y s)) (by omega)
      have ex : (if wlE sq (sagM S x r y s) (Lv S mo sq (n - 1) y s) < toF (acc n) then wlE sq (sagM S x r y s) (Lv S mo sq (n - 1) y s) else toF (acc n)) = toF (mn1 (lby S mo sq x r y s (Lv S mo sq (n - 1) y s)) (acc n)) := by
        rw [tm]
        rcases w2 with w2 | ⟨w2, w3⟩
        · rw [w2]
        · rw [w2, if_neg (by omega), if_neg (show ¬ toF (-1) < toF (acc n) by have e9 : toF (-1) = 536870912 := rfl; omega)]
      have f0 : Fr (pS x r) h (pI h 70 ((x * 12 + r) * 12 + n).toNat (toF (mn1 (lby S mo sq x r y s (Lv S mo sq (n - 1) y s)) (acc n)))) := Fr.pI Fr.rf (by unfold pS; omega)
      obtain ⟨h', e, k1, f1⟩ := ih (by omega) (by omega) _ (en.fr f0 pS.e) (vb.fr f0 (by omega) (by omega) (by omega) (by omega) (by omega) (by omega)) (fun m m0 m1 => by
        rw [hI_pI]
        dsimp only
        by_cases c : m = n
        · rw [if_pos ⟨rfl, by rw [c]⟩, c, if_pos (by omega)]
        · rw [if_neg (fun q => c (by have := q.2; omega)), va m m0 m1]
          dsimp only
          by_cases c2 : 1 ≤ m ∧ m < n
          · rw [if_pos c2, if_pos (by omega)]
          · rw [if_neg c2, if_neg (by omega)])
      refine ⟨h', ?_, k1, f0.tr f1⟩
      rw [← ex] at e
      have e146 : EX (d+1) m_Joinings_measureBehind 111 [(0, .inr (.inr (60))), (1, .inr (.inr (w))), (2, .inl (x)), (3, .inl (r)), (4, .inr (.inr (70))), (5, .inl (sq)), (6, .inl ((x * 12 + r) * 12)), (7, .inl (y)), (8, .inl (s)), (9, .inl (sagM S x r y s)), (10, .inl ((y * 12 + s) * 12)), (11, .inl (n))] [] (h) = EX (d+1) m_Joinings_measureBehind 146 [(0, .inr (.inr (60))), (1, .inr (.inr (w))), (2, .inl (x)), (3, .inl (r)), (4, .inr (.inr (70))), (5, .inl (sq)), (6, .inl ((x * 12 + r) * 12)), (7, .inl (y)), (8, .inl (s)), (9, .inl (sagM S x r y s)), (10, .inl ((y * 12 + s) * 12)), (11, .inl (n))] [.inl (wlE sq (sagM S x r y s) (Lv S mo sq (n - 1) y s))] (h) := by
        unfold wlE
        rcases md with ⟨a, b⟩ | ⟨a, b⟩ <;> subst a
        · rw [if_pos rfl]
          simp (disch := omega) only [Joinings_measureBehind_111, Joinings_measureBehind_139, wr_id, ix_id, okx, if_pos, if_neg, Int.toNat_of_nonneg, bak_v, bak_n, wr_b01, wr_bt, b01_or, b01_0, b01_1, lc_lt0, lc_gt0, lc_eq0, wl_wr, wr_wr, wl_id, true_and, and_true, true_or, or_true, not_true_eq_false, not_false_eq_true, nc0, nc1, nc2, nc3, nc4, nc5, nc6, nc7, nc8, nc9, nc10, nc11, nc12, nc13, nc14, nc15, nc16, nc17, nc18, nc19, nc20, nc21, nc22, nc23, nc35, nc47, nc59, nc60, nc61, nc73, nc74, nc214, nc215, nc1115, nc2230, nc3345, if_true, if_false, Int.reduceToNat, hc.k6, hc.r5, hc.r6, hc.r0, hc.r2, hc.r7, hc.r8, hc.r9, hc.r10, hc.r11, hc.r12, hc.r13, hc.r14, hc.r15, hc.r16, hc.r17, hc.r18, hc.r8_0, hc.r8_1, hc.r11_0, hc.r11_1, hc.r60_0, hc.r60_1, hc.r60_4, hc.r64_0, hc.r64_3, hc.r64_4, hc.r68_0, hc.r41_0, hc.r41_1, hc.r42_0, hc.r42_1, hc.k7, hc.k8, hc.k9, hc.k11, hc.k12, hc.k13, hc.k32, hc.k41, hc.k42, hc.k43, hc.k60, hc.k61, hc.k62, hc.k63, hc.k64, hc.k65, hc.k66, hc.k67, hc.k68, hc.k69, hc.k70, hc.k71, hc.n6, hc.n7, hc.n8, hc.n9, hc.n11, hc.n12, hc.n13, hc.n32, hc.n41, hc.n42, hc.n43, hc.n60, hc.n61, hc.n62, hc.n63, hc.n64, hc.n65, hc.n66, hc.n67, hc.n68, hc.n69, hc.n70, hc.n71, e2, max_s]
        · rw [if_neg (by omega)]
          simp (disch := omega) only [Joinings_measureBehind_111, Joinings_measureBehind_128, wr_id, ix_id, okx, if_pos, if_neg, Int.toNat_of_nonneg, bak_v, bak_n, wr_b01, wr_bt, b01_or, b01_0, b01_1, lc_lt0, lc_gt0, lc_eq0, wl_wr, wr_wr, wl_id, true_and, and_true, true_or, or_true, not_true_eq_false, not_false_eq_true, nc0, nc1, nc2, nc3, nc4, nc5, nc6, nc7, nc8, nc9, nc10, nc11, nc12, nc13, nc14, nc15, nc16, nc17, nc18, nc19, nc20, nc21, nc22, nc23, nc35, nc47, nc59, nc60, nc61, nc73, nc74, nc214, nc215, nc1115, nc2230, nc3345, if_true, if_false, Int.reduceToNat, hc.k6, hc.r5, hc.r6, hc.r0, hc.r2, hc.r7, hc.r8, hc.r9, hc.r10, hc.r11, hc.r12, hc.r13, hc.r14, hc.r15, hc.r16, hc.r17, hc.r18, hc.r8_0, hc.r8_1, hc.r11_0, hc.r11_1, hc.r60_0, hc.r60_1, hc.r60_4, hc.r64_0, hc.r64_3, hc.r64_4, hc.r68_0, hc.r41_0, hc.r41_1, hc.r42_0, hc.r42_1, hc.k7, hc.k8, hc.k9, hc.k11, hc.k12, hc.k13, hc.k32, hc.k41, hc.k42, hc.k43, hc.k60, hc.k61, hc.k62, hc.k63, hc.k64, hc.k65, hc.k66, hc.k67, hc.k68, hc.k69, hc.k70, hc.k71, hc.n6, hc.n7, hc.n8, hc.n9, hc.n11, hc.n12, hc.n13, hc.n32, hc.n41, hc.n42, hc.n43, hc.n60, hc.n61, hc.n62, hc.n63, hc.n64, hc.n65, hc.n66, hc.n67, hc.n68, hc.n69, hc.n70, hc.n71, e2]
      rw [Joinings_measureBehind_87]
      simp (disch := omega) only [Joinings_measureBehind_96, wr_id, ix_id, okx, if_pos, if_neg, Int.toNat_of_nonneg, bak_v, bak_n, wr_b01, wr_bt, b01_or, b01_0, b01_1, lc_lt0, lc_gt0, lc_eq0, wl_wr, wr_wr, wl_id, true_and, and_true, true_or, or_true, not_true_eq_false, not_false_eq_true, nc0, nc1, nc2, nc3, nc4, nc5, nc6, nc7, nc8, nc9, nc10, nc11, nc12, nc13, nc14, nc15, nc16, nc17, nc18, nc19, nc20, nc21, nc22, nc23, nc35, nc47, nc59, nc60, nc61, nc73, nc74, nc214, nc215, nc1115, nc2230, nc3345, if_true, if_false, Int.reduceToNat, hc.k6, hc.r5, hc.r6, hc.r0, hc.r2, hc.r7, hc.r8, hc.r9, hc.r10, hc.r11, hc.r12, hc.r13, hc.r14, hc.r15, hc.r16, hc.r17, hc.r18, hc.r8_0, hc.r8_1, hc.r11_0, hc.r11_1, hc.r60_0, hc.r60_1, hc.r60_4, hc.r64_0, hc.r64_3, hc.r64_4, hc.r68_0, hc.r41_0, hc.r41_1, hc.r42_0, hc.r42_1, hc.k7, hc.k8, hc.k9, hc.k11, hc.k12, hc.k13, hc.k32, hc.k41, hc.k42, hc.k43, hc.k60, hc.k61, hc.k62, hc.k63, hc.k64, hc.k65, hc.k66, hc.k67, hc.k68, hc.k69, hc.k70, hc.k71, hc.n6, hc.n7, hc.n8, hc.n9, hc.n11, hc.n12, hc.n13, hc.n32, hc.n41, hc.n42, hc.n43, hc.n60, hc.n61, hc.n62, hc.n63, hc.n64, hc.n65, hc.n66, hc.n67, hc.n68, hc.n69, hc.n70, hc.n71, jn, e3]
      refine e146.trans ?_
      simp (disch := omega) only [Joinings_measureBehind_146, Joinings_measureBehind_168, Joinings_measureBehind_169, wr_id, ix_id, okx, if_pos, if_neg, Int.toNat_of_nonneg, bak_v, bak_n, wr_b01, wr_bt, b01_or, b01_0, b01_1, lc_lt0, lc_gt0, lc_eq0, wl_wr, wr_wr, wl_id, true_and, and_true, true_or, or_true, not_true_eq_false, not_false_eq_true, nc0, nc1, nc2, nc3, nc4, nc5, nc6, nc7, nc8, nc9, nc10, nc11, nc12, nc13, nc14, nc15, nc16, nc17, nc18, nc19, nc20, nc21, nc22, nc23, nc35, nc47, nc59, nc60, nc61, nc73, nc74, nc214, nc215, nc1115, nc2230, nc3345, if_true, if_false, Int.reduceToNat, hc.k6, hc.r5, hc.r6, hc.r0, hc.r2, hc.r7, hc.r8, hc.r9, hc.r10, hc.r11, hc.r12, hc.r13, hc.r14, hc.r15, hc.r16, hc.r17, hc.r18, hc.r8_0, hc.r8_1, hc.r11_0, hc.r11_1, hc.r60_0, hc.r60_1, hc.r60_4, hc.r64_0, hc.r64_3, hc.r64_4, hc.r68_0, hc.r41_0, hc.r41_1, hc.r42_0, hc.r42_1, hc.k7, hc.k8, hc.k9, hc.k11, hc.k12, hc.k13, hc.k32, hc.k41, hc.k42, hc.k43, hc.k60, hc.k61, hc.k62, hc.k63, hc.k64, hc.k65, hc.k66, hc.k67, hc.k68, hc.k69, hc.k70, hc.k71, hc.n6, hc.n7, hc.n8, hc.n9, hc.n11, hc.n12, hc.n13, hc.n32, hc.n41, hc.n42, hc.n43, hc.n60, hc.n61, hc.n62, hc.n63, hc.n64, hc.n65, hc.n66, hc.n67, hc.n68, hc.n69, hc.n70, hc.n71, e1, min_s]
      exact e
/-- so far: the acc with the joins at ring s and behind -/
def aR (S : Int → Int) (mo sq x r y s : Int) (acc : Int → Int) : Int → Int := fun m => if 1 ≤ m then fo (fun s a => mn1 (lby S mo sq x r y s (Lv S mo sq (m - 1) y s)) a) s (S 2) (acc m) else acc m
theorem mn1_rng {v m : Int} (hv : -1 ≤ v ∧ v ≤ 100000000) (hm : -1 ≤ m ∧ m ≤ 100000000) : -1 ≤ mn1 v m ∧ mn1 v m ≤ 100000000 := by
  unfold mn1
  split <;> omega
theorem c_mB_2 {d w : Nat} {S : Int → Int} (gd : Gd S) {mo sq : Int} (md : mdE S mo sq) {x r y : Int} (hx : 0 ≤ x ∧ x < y ∧ y < S 1) (hr : 0 ≤ r ∧ r < S 2) : ∀ s, r + 1 ≤ s → s ≤ 12 → ∀ h acc, (∀ m, m ≤ 12 → -1 ≤ acc m ∧ acc m ≤ 100000000) → EN h w S sq → (∀ s, r < s → s < S 2 → shE h (fullN S) y s (fun m => EvC S mo sq m y s)) → shE h (fullN S) x r acc → ∃ h', EX (d+1) m_Joinings_measureBehind 32 [(0, .inr (.inr (60))), (1, .inr (.inr (w))), (2, .inl (x)), (3, .inl (r)), (4, .inr (.inr (70))), (5, .inl (sq)), (6, .inl ((x * 12 + r) * 12)), (7, .inl (y)), (8, .inl (s))] [] (h) = EX (d+1) m_Joinings_measureBehind 181 [(0, .inr (.inr (60))), (1, .inr (.inr (w))), (2, .inl (x)), (3, .inl (r)), (4, .inr (.inr (70))), (5, .inl (sq)), (6, .inl ((x * 12 + r) * 12)), (7, .inl (y))] [] (h') ∧ shE h' (fullN S) x r (aR S mo sq x r y s acc) ∧ Fr (pS x r) h h' := by
  have ga := gd.a
  have gb := gd.b
  have fs := fullN_spec S
  have eo := eMo_rng gd
  refine up_ind (hi := S 2) ?_ ?_
  · intro s hs h0 h1 h acc ac en tb va
    have hw := en.1.2.1
    have wv := en.1.2
    refine ⟨h, ?_, va.cg (fun m m0 m1 => ?_), Fr.rf⟩
    · rw [Joinings_measureBehind_32]
      simp (disch := omega) only [wr_id, ix_id, okx, if_pos, if_neg, Int.toNat_of_nonneg, bak_v, bak_n, wr_b01, wr_bt, b01_or, b01_0, b01_1, lc_lt0, lc_gt0, lc_eq0, wl_wr, wr_wr, wl_id, true_and, and_true, true_or, or_true, not_true_eq_false, not_false_eq_true, nc0, nc1, nc2, nc3, nc4, nc5, nc6, nc7, nc8, nc9, nc10, nc11, nc12, nc13, nc14, nc15, nc16, nc17, nc18, nc19, nc20, nc21, nc22, nc23, nc35, nc47, nc59, nc60, nc61, nc73, nc74, nc214, nc215, nc1115, nc2230, nc3345, if_true, if_false, Int.reduceToNat, hw.k, hw.r0, hw.r1, hw.r2, hw.r3, hw.r4, hw.k1, hw.k2, hw.k3, hw.k4, hw.k5, hw.n1, hw.n2, hw.n3, hw.n4, hw.n5, wv.f5, wv.f6, wv.f7, wv.f8, wv.f9, wv.f10, wv.f11, wv.f12, wv.f13, wv.f14, wv.pk, wv.qk, wv.hk, wv.rk]
    · unfold aR
      rw [fo_stop hs]
      simp
  · intro s hs ih h0 h1 h acc ac en tb va
    have hw := en.1.2.1
    have wv := en.1.2
    have hc := en.1.1
    have es := c_sag (d := d) wv ga.2 gb.2 (x := x) (r := r) (y := y) (s := s) (by omega) (by omega) (by omega) (by omega) (by omega) (by omega)
    have sg := gd.1.sag (x := x) (r := r) (y := y) (s := s) (by omega) (by omega) (by omega) (by omega)
    have skip : (sagM S x r y s < 0 ∨ (sq = 1 ∧ eMo S < sagM S x r y s)) → ∀ m, aR S mo sq x r y (s + 1) acc m = aR S mo sq x r y s acc m := by
      intro q m
      unfold aR
      rw [fo_step (i := s) hs]
      have : lby S mo sq x r y s (Lv S mo sq (m - 1) y s) = -1 := by
        unfold lby
        split
        · rename_i cf
          have cs : 0 ≤ sagM S x r y s := by
            simp [Fpl] at cf
            rcases cf.2 with z | z <;> omega
          have e1 : sgE S x r y s = sagM S x r y s := by unfold sgE; rw [if_neg (by omega)]
          rw [e1]
          have eo := eMo_ok gd
          rcases md with ⟨a, b⟩ | ⟨a, b⟩
          · omega
          · rw [if_pos (Or.inr (by omega))]
        · rfl
      rw [this]
      rfl
    by_cases c : sagM S x r y s < 0
    · obtain ⟨h2, e2, k2, f2⟩ := ih (by omega) (by omega) h acc ac en tb va
      refine ⟨h2, ?_, k2.cg (fun m _ _ => skip (Or.inl c) m), f2⟩
      rw [Joinings_measureBehind_32]
      simp (disch := omega) only [Joinings_measureBehind_41, Joinings_measureBehind_51, Joinings_measureBehind_175, wr_id, ix_id, okx, if_pos, if_neg, Int.toNat_of_nonneg, bak_v, bak_n, wr_b01, wr_bt, b01_or, b01_0, b01_1, lc_lt0, lc_gt0, lc_eq0, wl_wr, wr_wr, wl_id, true_and, and_true, true_or, or_true, not_true_eq_false, not_false_eq_true, nc0, nc1, nc2, nc3, nc4, nc5, nc6, nc7, nc8, nc9, nc10, nc11, nc12, nc13, nc14, nc15, nc16, nc17, nc18, nc19, nc20, nc21, nc22, nc23, nc35, nc47, nc59, nc60, nc61, nc73, nc74, nc214, nc215, nc1115, nc2230, nc3345, if_true, if_false, Int.reduceToNat, hw.k, hw.r0, hw.r1, hw.r2, hw.r3, hw.r4, hw.k1, hw.k2, hw.k3, hw.k4, hw.k5, hw.n1, hw.n2, hw.n3, hw.n4, hw.n5, wv.f5, wv.f6, wv.f7, wv.f8, wv.f9, wv.f10, wv.f11, wv.f12, wv.f13, wv.f14, wv.pk, wv.qk, wv.hk, wv.rk, es, e2]
    · by_cases c2 : sq = 1 ∧ eMo S < sagM S x r y s
      · obtain ⟨h2, e2, k2, f2⟩ := ih (by omega) (by omega) h acc ac en tb va
        have e5 := en.2.2 c2.1
        refine ⟨h2, ?_, k2.cg (fun m _ _ => skip (Or.inr c2) m), f2⟩
        rw [Joinings_measureBehind_32]
        simp (disch := omega) only [Joinings_measureBehind_41, Joinings_measureBehind_51, Joinings_measureBehind_58, Joinings_measureBehind_63, Joinings_measureBehind_72, Joinings_measureBehind_175, wr_id, ix_id, okx, if_pos, if_neg, Int.toNat_of_nonneg, bak_v, bak_n, wr_b01, wr_bt, b01_or, b01_0, b01_1, lc_lt0, lc_gt0, lc_eq0, wl_wr, wr_wr, wl_id, true_and, and_true, true_or, or_true, not_true_eq_false, not_false_eq_true, nc0, nc1, nc2, nc3, nc4, nc5, nc6, nc7, nc8, nc9, nc10, nc11, nc12, nc13, nc14, nc15, nc16, nc17, nc18, nc19, nc20, nc21, nc22, nc23, nc35, nc47, nc59, nc60, nc61, nc73, nc74, nc214, nc215, nc1115, nc2230, nc3345, if_true, if_false, Int.reduceToNat, hw.k, hw.r0, hw.r1, hw.r2, hw.r3, hw.r4, hw.k1, hw.k2, hw.k3, hw.k4, hw.k5, hw.n1, hw.n2, hw.n3, hw.n4, hw.n5, wv.f5, wv.f6, wv.f7, wv.f8, wv.f9, wv.f10, wv.f11, wv.f12, wv.f13, wv.f14, wv.pk, wv.qk, wv.hk, wv.rk, hc.k6, hc.r5, hc.r6, hc.r0, hc.r2, hc.r7, hc.r8, hc.r9, hc.r10, hc.r11, hc.r12, hc.r13, hc.r14, hc.r15, hc.r16, hc.r17, hc.r18, hc.r8_0, hc.r8_1, hc.r11_0, hc.r11_1, hc.r60_0, hc.r60_1, hc.r60_4, hc.r64_0, hc.r64_3, hc.r64_4, hc.r68_0, hc.r41_0, hc.r41_1, hc.r42_0, hc.r42_1, hc.k7, hc.k8, hc.k9, hc.k11, hc.k12, hc.k13, hc.k32, hc.k41, hc.k42, hc.k43, hc.k60, hc.k61, hc.k62, hc.k63, hc.k64, hc.k65, hc.k66, hc.k67, hc.k68, hc.k69, hc.k70, hc.k71, hc.n6, hc.n7, hc.n8, hc.n9, hc.n11, hc.n12, hc.n13, hc.n32, hc.n41, hc.n42, hc.n43, hc.n60, hc.n61, hc.n62, hc.n63, hc.n64, hc.n65, hc.n66, hc.n67, hc.n68, hc.n69, hc.n70, hc.n71, es, e5, e2]
      · obtain ⟨h1', e1, k1, f1⟩ := c_mB_1 (d := d) (w := w) gd md (x := x) (r := r) (y := y) (s := s) hx (by omega) (by omega) (by omega) (acc := acc) ac 1 (by omega) (by omega) h en (tb s (by omega) hs) (va.cg (fun m _ _ => by rw [if_neg (by omega)]))
        obtain ⟨h2, e2, k2, f2⟩ := ih (by omega) (by omega) h1' (fun m => if 1 ≤ m then mn1 (lby S mo sq x r y s (Lv S mo sq (m - 1) y s)) (acc m) else acc m) (fun m hm => by
          split
          · have lr := Lv_rng gd mo sq (n := m - 1) (by omega) (x := y) (r := s) (by omega) (by omega) (by omega)
            have br := lby_rng gd mo sq (x := x) (r := r) (g := y) (s := s) (v := Lv S mo sq (m - 1) y s) (B := 17280000) (by omega) (by omega) (by omega) lr (by omega)
            exact mn1_rng (by omega) (ac m hm)
          · exact ac m hm) (en.fr f1 pS.e) (fun z z1 z2 => (tb z z1 z2).fr f1 (by omega) (by omega) (by omega) (by omega) (by omega) (by omega)) k1
        refine ⟨h2, ?_, k2.cg (fun m m0 m1 => ?_), f1.tr f2⟩
        · rw [Joinings_measureBehind_32]
          rcases md with ⟨a, b⟩ | ⟨a, b⟩
          · simp (disch := omega) only [Joinings_measureBehind_41, Joinings_measureBehind_51, Joinings_measureBehind_58, Joinings_measureBehind_75, Joinings_measureBehind_82, wr_id, ix_id, okx, if_pos, if_neg, Int.toNat_of_nonneg, bak_v, bak_n, wr_b01, wr_bt, b01_or, b01_0, b01_1, lc_lt0, lc_gt0, lc_eq0, wl_wr, wr_wr, wl_id, true_and, and_true, true_or, or_true, not_true_eq_false, not_false_eq_true, nc0, nc1, nc2, nc3, nc4, nc5, nc6, nc7, nc8, nc9, nc10, nc11, nc12, nc13, nc14, nc15, nc16, nc17, nc18, nc19, nc20, nc21, nc22, nc23, nc35, nc47, nc59, nc60, nc61, nc73, nc74, nc214, nc215, nc1115, nc2230, nc3345, if_true, if_false, Int.reduceToNat, hw.k, hw.r0, hw.r1, hw.r2, hw.r3, hw.r4, hw.k1, hw.k2, hw.k3, hw.k4, hw.k5, hw.n1, hw.n2, hw.n3, hw.n4, hw.n5, wv.f5, wv.f6, wv.f7, wv.f8, wv.f9, wv.f10, wv.f11, wv.f12, wv.f13, wv.f14, wv.pk, wv.qk, wv.hk, wv.rk, hc.k6, hc.r5, hc.r6, hc.r0, hc.r2, hc.r7, hc.r8, hc.r9, hc.r10, hc.r11, hc.r12, hc.r13, hc.r14, hc.r15, hc.r16, hc.r17, hc.r18, hc.r8_0, hc.r8_1, hc.r11_0, hc.r11_1, hc.r60_0, hc.r60_1, hc.r60_4, hc.r64_0, hc.r64_3, hc.r64_4, hc.r68_0, hc.r41_0, hc.r41_1, hc.r42_0, hc.r42_1, hc.k7, hc.k8, hc.k9, hc.k11, hc.k12, hc.k13, hc.k32, hc.k41, hc.k42, hc.k43, hc.k60, hc.k61, hc.k62, hc.k63, hc.k64, hc.k65, hc.k66, hc.k67, hc.k68, hc.k69, hc.k70, hc.k71, hc.n6, hc.n7, hc.n8, hc.n9, hc.n11, hc.n12, hc.n13, hc.n32, hc.n41, hc.n42, hc.n43, hc.n60, hc.n61, hc.n62, hc.n63, hc.n64, hc.n65, hc.n66, hc.n67, hc.n68, hc.n69, hc.n70, hc.n71, es, c_rowOf]
            refine e1.trans ?_
            rw [Joinings_measureBehind_175]
            exact e2
          · have e5 := en.2.2 a
            simp (disch := omega) only [Joinings_measureBehind_41, Joinings_measureBehind_51, Joinings_measureBehind_58, Joinings_measureBehind_63, Joinings_measureBehind_75, Joinings_measureBehind_82, wr_id, ix_id, okx, if_pos, if_neg, Int.toNat_of_nonneg, bak_v, bak_n, wr_b01, wr_bt, b01_or, b01_0, b01_1, lc_lt0, lc_gt0, lc_eq0, wl_wr, wr_wr, wl_id, true_and, and_true, true_or, or_true, not_true_eq_false, not_false_eq_true, nc0, nc1, nc2, nc3, nc4, nc5, nc6, nc7, nc8, nc9, nc10, nc11, nc12, nc13, nc14, nc15, nc16, nc17, nc18, nc19, nc20, nc21, nc22, nc23, nc35, nc47, nc59, nc60, nc61, nc73, nc74, nc214, nc215, nc1115, nc2230, nc3345, if_true, if_false, Int.reduceToNat, hw.k, hw.r0, hw.r1, hw.r2, hw.r3, hw.r4, hw.k1, hw.k2, hw.k3, hw.k4, hw.k5, hw.n1, hw.n2, hw.n3, hw.n4, hw.n5, wv.f5, wv.f6, wv.f7, wv.f8, wv.f9, wv.f10, wv.f11, wv.f12, wv.f13, wv.f14, wv.pk, wv.qk, wv.hk, wv.rk, hc.k6, hc.r5, hc.r6, hc.r0, hc.r2, hc.r7, hc.r8, hc.r9, hc.r10, hc.r11, hc.r12, hc.r13, hc.r14, hc.r15, hc.r16, hc.r17, hc.r18, hc.r8_0, hc.r8_1, hc.r11_0, hc.r11_1, hc.r60_0, hc.r60_1, hc.r60_4, hc.r64_0, hc.r64_3, hc.r64_4, hc.r68_0, hc.r41_0, hc.r41_1, hc.r42_0, hc.r42_1, hc.k7, hc.k8, hc.k9, hc.k11, hc.k12, hc.k13, hc.k32, hc.k41, hc.k42, hc.k43, hc.k60, hc.k61, hc.k62, hc.k63, hc.k64, hc.k65, hc.k66, hc.k67, hc.k68, hc.k69, hc.k70, hc.k71, hc.n6, hc.n7, hc.n8, hc.n9, hc.n11, hc.n12, hc.n13, hc.n32, hc.n41, hc.n42, hc.n43, hc.n60, hc.n61, hc.n62, hc.n63, hc.n64, hc.n65, hc.n66, hc.n67, hc.n68, hc.n69, hc.n70, hc.n71, es, e5, c_rowOf]
            refine e1.trans ?_
            rw [Joinings_measureBehind_175]
            exact e2
        · unfold aR
          by_cases c1 : 1 ≤ m
          · simp only [c1, if_true]
            rw [fo_step (i := s) hs]
          · simp only [c1, if_false]
def aH (S : Int → Int) (mo sq x r y : Int) (acc : Int → Int) : Int → Int := fun m => if 1 ≤ m then fo (inS S mo sq m x r) y (S 1) (acc m) else acc m
theorem c_mB_3 {d w : Nat} {S : Int → Int} (gd : Gd S) {mo sq : Int} (md : mdE S mo sq) {x r : Int} (hx : 0 ≤ x) (hr : 0 ≤ r ∧ r < S 2) : ∀ y, x + 1 ≤ y → y ≤ 12 → ∀ h acc, (∀ m, m ≤ 12 → -1 ≤ acc m ∧ acc m ≤ 100000000) → EN h w S sq → (∀ y s, x < y → y < S 1 → 0 ≤ s → s < S 2 → shE h (fullN S) y s (fun m => EvC S mo sq m y s)) → shE h (fullN S) x r acc → ∃ h', EX (d+1) m_Joinings_measureBehind 18 [(0, .inr (.inr (60))), (1, .inr (.inr (w))), (2, .inl (x)), (3, .inl (r)), (4, .inr (.inr (70))), (5, .inl (sq)), (6, .inl ((x * 12 + r) * 12)), (7, .inl (y))] [] (h) = some (.inl 0, h') ∧ shE h' (fullN S) x r (aH S mo sq x r y acc) ∧ Fr (pS x r) h h' := by
  have ga := gd.a
  have gb := gd.b
  have fs := fullN_spec S
  refine up_ind (hi := S 1) ?_ ?_
  · intro y hy h0 h1 h acc ac en tb va
    have hw := en.1.2.1
    have wv := en.1.2
    refine ⟨h, ?_, va.cg (fun m m0 m1 => ?_), Fr.rf⟩
    · rw [Joinings_measureBehind_18]
      simp (disch := omega) only [Joinings_measureBehind_187, wr_id, ix_id, okx, if_pos, if_neg, Int.toNat_of_nonneg, bak_v, bak_n, wr_b01, wr_bt, b01_or, b01_0, b01_1, lc_lt0, lc_gt0, lc_eq0, wl_wr, wr_wr, wl_id, true_and, and_true, true_or, or_true, not_true_eq_false, not_false_eq_true, nc0, nc1, nc2, nc3, nc4, nc5, nc6, nc7, nc8, nc9, nc10, nc11, nc12, nc13, nc14, nc15, nc16, nc17, nc18, nc19, nc20, nc21, nc22, nc23, nc35, nc47, nc59, nc60, nc61, nc73, nc74, nc214, nc215, nc1115, nc2230, nc3345, if_true, if_false, Int.reduceToNat, hw.k, hw.r0, hw.r1, hw.r2, hw.r3, hw.r4, hw.k1, hw.k2, hw.k3, hw.k4, hw.k5, hw.n1, hw.n2, hw.n3, hw.n4, hw.n5, wv.f5, wv.f6, wv.f7, wv.f8, wv.f9, wv.f10, wv.f11, wv.f12, wv.f13, wv.f14, wv.pk, wv.qk, wv.hk, wv.rk]
    · unfold aH
      rw [fo_stop hy]
      simp
  · intro y hy ih h0 h1 h acc ac en tb va
    have hw := en.1.2.1
    have wv := en.1.2
    obtain ⟨h1', e1, k1, f1⟩ := c_mB_2 (d := d) (w := w) gd md (x := x) (r := r) (y := y) (by omega) hr (r + 1) (by omega) (by omega) h acc ac en (fun s s1 s2 => tb y s (by omega) hy (by omega) s2) va
    obtain ⟨h2, e2, k2, f2⟩ := ih (by omega) (by omega) h1' _ (fun m hm => by
      unfold aR
      split
      · exact inS_rng gd mo sq (n := m) (by omega) (by omega) (by omega) (by omega) (ac m hm)
      · exact ac m hm) (en.fr f1 pS.e) (fun y s z1 z2 z3 z4 => (tb y s z1 z2 z3 z4).fr f1 (by omega) (by omega) (by omega) (by omega) (by omega) (by omega)) k1
    refine ⟨h2, ?_, k2.cg (fun m m0 m1 => ?_), f1.tr f2⟩
    · rw [Joinings_measureBehind_18]
      simp (disch := omega) only [Joinings_measureBehind_27, wr_id, ix_id, okx, if_pos, if_neg, Int.toNat_of_nonneg, bak_v, bak_n, wr_b01, wr_bt, b01_or, b01_0, b01_1, lc_lt0, lc_gt0, lc_eq0, wl_wr, wr_wr, wl_id, true_and, and_true, true_or, or_true, not_true_eq_false, not_false_eq_true, nc0, nc1, nc2, nc3, nc4, nc5, nc6, nc7, nc8, nc9, nc10, nc11, nc12, nc13, nc14, nc15, nc16, nc17, nc18, nc19, nc20, nc21, nc22, nc23, nc35, nc47, nc59, nc60, nc61, nc73, nc74, nc214, nc215, nc1115, nc2230, nc3345, if_true, if_false, Int.reduceToNat, hw.k, hw.r0, hw.r1, hw.r2, hw.r3, hw.r4, hw.k1, hw.k2, hw.k3, hw.k4, hw.k5, hw.n1, hw.n2, hw.n3, hw.n4, hw.n5, wv.f5, wv.f6, wv.f7, wv.f8, wv.f9, wv.f10, wv.f11, wv.f12, wv.f13, wv.f14, wv.pk, wv.qk, wv.hk, wv.rk, e1]
      rw [Joinings_measureBehind_181]
      exact e2
    · unfold aH aR
      by_cases c1 : 1 ≤ m
      · simp only [c1, if_true]
        rw [fo_step (i := y) hy]
        rfl
      · simp only [c1, if_false]
theorem c_measureBehind {d w : Nat} {h : Hp} {S : Int → Int} (gd : Gd S) {mo sq : Int} (md : mdE S mo sq) {x r : Int} (hx : 0 ≤ x ∧ x < S 1) (hr : 0 ≤ r ∧ r < S 2) (hb : bt (S 10) r = 0) (en : EN h w S sq) (tb : ∀ y s, x < y → y < S 1 → 0 ≤ s → s < S 2 → shE h (fullN S) y s (fun m => EvC S mo sq m y s)) (va : shE h (fullN S) x r (fun _ => -1)) : ∃ h', cal (d+2) m_Joinings_measureBehind [.inr (.inr (60)), .inr (.inr (w)), .inl (x), .inl (r), .inr (.inr (70)), .inl (sq)] (h) = some (.inl 0, h') ∧ shE h' (fullN S) x r (fun m => EvC S mo sq m x r) ∧ Fr (pS x r) h h' := by
  have ga := gd.a
  have gb := gd.b
  have hc := en.1.1
  have f0 : Fr (pS x r) h (pI h 70 ((x * 12 + r) * 12).toNat 0) := Fr.pI Fr.rf (by unfold pS; omega)
  obtain ⟨h2, e2, k2, f2⟩ := c_mB_3 (d := d) (w := w) gd md (x := x) (r := r) (by omega) hr (x + 1) (by omega) (by omega) _ (fun m => if m = 0 then 0 else -1) (fun m hm => by split <;> omega) (en.fr f0 pS.e) (fun y s z1 z2 z3 z4 => (tb y s z1 z2 z3 z4).fr f0 (by have := fullN_spec S; omega) (by omega) (by omega) (by omega) (by omega) (by omega)) (fun m m0 m1 => by
    rw [hI_pI]
    by_cases c : m = 0
    · rw [if_pos ⟨rfl, by rw [c]; congr 1; omega⟩]; simp [c, toF]
    · rw [if_neg (fun q => c (by have := q.2; omega)), va m m0 m1]; simp [c])
  refine ⟨h2, ?_, k2.cg (fun m m0 m1 => ?_), f0.tr f2⟩
  · show EX (d+1) m_Joinings_measureBehind 0 [(0, .inr (.inr (60))), (1, .inr (.inr (w))), (2, .inl (x)), (3, .inl (r)), (4, .inr (.inr (70))), (5, .inl (sq))] [] (h) = _
    simp (disch := omega) only [Joinings_measureBehind_0, Joinings_measureBehind_5, Joinings_measureBehind_13, wr_id, ix_id, okx, if_pos, if_neg, Int.toNat_of_nonneg, bak_v, bak_n, wr_b01, wr_bt, b01_or, b01_0, b01_1, lc_lt0, lc_gt0, lc_eq0, wl_wr, wr_wr, wl_id, true_and, and_true, true_or, or_true, not_true_eq_false, not_false_eq_true, nc0, nc1, nc2, nc3, nc4, nc5, nc6, nc7, nc8, nc9, nc10, nc11, nc12, nc13, nc14, nc15, nc16, nc17, nc18, nc19, nc20, nc21, nc22, nc23, nc35, nc47, nc59, nc60, nc61, nc73, nc74, nc214, nc215, nc1115, nc2230, nc3345, if_true, if_false, Int.reduceToNat, hc.k6, hc.r5, hc.r6, hc.r0, hc.r2, hc.r7, hc.r8, hc.r9, hc.r10, hc.r11, hc.r12, hc.r13, hc.r14, hc.r15, hc.r16, hc.r17, hc.r18, hc.r8_0, hc.r8_1, hc.r11_0, hc.r11_1, hc.r60_0, hc.r60_1, hc.r60_4, hc.r64_0, hc.r64_3, hc.r64_4, hc.r68_0, hc.r41_0, hc.r41_1, hc.r42_0, hc.r42_1, hc.k7, hc.k8, hc.k9, hc.k11, hc.k12, hc.k13, hc.k32, hc.k41, hc.k42, hc.k43, hc.k60, hc.k61, hc.k62, hc.k63, hc.k64, hc.k65, hc.k66, hc.k67, hc.k68, hc.k69, hc.k70, hc.k71, hc.n6, hc.n7, hc.n8, hc.n9, hc.n11, hc.n12, hc.n13, hc.n32, hc.n41, hc.n42, hc.n43, hc.n60, hc.n61, hc.n62, hc.n63, hc.n64, hc.n65, hc.n66, hc.n67, hc.n68, hc.n69, hc.n70, hc.n71, c_rowOf]
    exact e2
  · unfold aH EvC
    rw [if_pos hb]
    by_cases c : 1 ≤ m
    · rw [if_pos c, Lv_s c]
      dsimp only
      rw [if_neg (by omega)]
    · rw [if_neg c, show m = 0 by omega]
      rfl
