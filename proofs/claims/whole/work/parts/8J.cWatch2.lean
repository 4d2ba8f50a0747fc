/-! the class: Watcher, counting -/
def pO (o x r : Int) (a k : Nat) : Prop := a = 70 ∧ o + (x * 12 + r) * 12 ≤ (k : Int) ∧ (k : Int) < o + (x * 12 + r) * 12 + 12
theorem pO.ge {o x r : Int} : ∀ a k, pO o x r a k → 60 ≤ a := fun a k q => by unfold pO at q; omega
theorem pO.n8 {o x r : Int} : ∀ a k, pO o x r a k → ¬ a = 68 ∧ ¬ a = 69 := fun a k q => by unfold pO at q; omega
def rwS (h : Hp) (o M x r : Int) (acc : Int → Int) : Prop := ∀ m, 0 ≤ m → m < M → hI h 70 (o + (x * 12 + r) * 12 + m).toNat = acc m
theorem rwS.fr {h h' : Hp} {o M x r y s : Int} {acc : Int → Int} (v : rwS h o M y s acc) (f : Fr (pO o x r) h h') (ho : 0 ≤ o) (hM : M ≤ 12) (hx : 0 ≤ x) (hr : 0 ≤ r ∧ r ≤ 11) (hy : 0 ≤ y) (hs : 0 ≤ s ∧ s ≤ 11) (ne : ¬ (x = y ∧ r = s)) : rwS h' o M y s acc := by
  intro m m0 m1
  rw [f.I (by unfold pO; omega)]
  exact v m m0 m1
theorem rwS.cg {h : Hp} {o M x r : Int} {acc acc' : Int → Int} (v : rwS h o M x r acc) (e : ∀ m, 0 ≤ m → m < M → acc m = acc' m) : rwS h o M x r acc' := fun m m0 m1 => (v m m0 m1).trans (e m m0 m1)
theorem c_wMoved_l {d w : Nat} {o M l x r y s : Int} (ho : o = 0 ∨ o = 1728) (hM : M ≤ 12) (hl : -2 ≤ l ∧ l < M) (hx : 0 ≤ x ∧ x ≤ 11) (hy : 0 ≤ y ∧ y ≤ 11) (hr : 0 ≤ r ∧ r ≤ 11) (hs : 0 ≤ s ∧ s ≤ 11) (ne : ¬ (x = y ∧ r = s)) {acc bcc : Int → Int} : ∀ n, 1 ≤ n → n ≤ 13 → ∀ h, CR h w → rwS h o M y s bcc → rwS h o M x r (fun m => if 1 ≤ m ∧ m < n then acc m + bcc (m - 1) else acc m) → (n ≤ l + 1 ∨ n = 1) → ∃ h', EX (d) m_Watcher_addMoved 3 [(0, .inr (.inr (70))), (1, .inl (o + (y * 12 + s) * 12)), (2, .inl (o + (x * 12 + r) * 12)), (3, .inl (l)), (4, .inl (n))] [] (h) = some (.inl 0, h') ∧ rwS h' o M x r (fun m => if 1 ≤ m ∧ m ≤ l then acc m + bcc (m - 1) else acc m) ∧ Fr (pO o x r) h h' := by
  refine up_ind (hi := l + 1) ?_ ?_
  · intro n hn h0 h1 h hc vb va hz
    refine ⟨h, ?_, va.cg (fun m m0 m1 => ?_), Fr.rf⟩
    · rw [Watcher_addMoved_3]
      simp (disch := omega) only [Watcher_addMoved_32, wr_id, ix_id, okx, if_pos, if_neg, Int.toNat_of_nonneg, bak_v, bak_n, wr_b01, wr_bt, b01_or, b01_0, b01_1, lc_lt0, lc_gt0, lc_eq0, wl_wr, wr_wr, wl_id, true_and, and_true, true_or, or_true, not_true_eq_false, not_false_eq_true, nc0, nc1, nc2, nc3, nc4, nc5, nc6, nc7, nc8, nc9, nc10, nc11, nc12, nc13, nc14, nc15, nc16, nc17, nc18, nc19, nc20, nc21, nc22, nc23, nc35, nc47, nc59, nc60, nc61, nc73, nc74, nc214, nc215, nc1115, nc2230, nc3345, if_true, if_false, Int.reduceToNat]
    · by_cases c : 1 ≤ m ∧ m ≤ l
      · rw [if_pos c, if_pos (by omega)]
      · rw [if_neg c, if_neg (by omega)]
  · intro n hn ih h0 h1 h hc vb va hz
    have e1 := va n (by omega) (by omega)
    dsimp only at e1
    rw [if_neg (by omega)] at e1
    have e2 := vb (n - 1) (by omega) (by omega)
    rw [show o + (y * 12 + s) * 12 + (n - 1) = o + (y * 12 + s) * 12 + n - 1 by omega] at e2
    have f0 : Fr (pO o x r) h (pI h 70 (o + (x * 12 + r) * 12 + n).toNat (acc n + bcc (n - 1))) := Fr.pI Fr.rf (by unfold pO; omega)
    obtain ⟨h', e, k1, f1⟩ := ih (by omega) (by omega) _ (hc.fr f0) (vb.fr f0 (by omega) hM (by omega) (by omega) (by omega) (by omega) ne) (fun m m0 m1 => by
      rw [hI_pI]
      dsimp only
      by_cases c : m = n
      · rw [if_pos ⟨rfl, by rw [c]⟩, c, if_pos (by omega)]
      · rw [if_neg (fun q => c (by have := q.2; omega)), va m m0 m1]
        dsimp only
        by_cases c2 : 1 ≤ m ∧ m < n
        · rw [if_pos c2, if_pos (by omega)]
        · rw [if_neg c2, if_neg (by omega)]) (Or.inl (by omega))
    refine ⟨h', ?_, k1, f0.tr f1⟩
    rw [Watcher_addMoved_3]
    simp (disch := omega) only [Watcher_addMoved_9, Watcher_addMoved_26, wr_id, ix_id, okx, if_pos, if_neg, Int.toNat_of_nonneg, bak_v, bak_n, wr_b01, wr_bt, b01_or, b01_0, b01_1, lc_lt0, lc_gt0, lc_eq0, wl_wr, wr_wr, wl_id, true_and, and_true, true_or, or_true, not_true_eq_false, not_false_eq_true, nc0, nc1, nc2, nc3, nc4, nc5, nc6, nc7, nc8, nc9, nc10, nc11, nc12, nc13, nc14, nc15, nc16, nc17, nc18, nc19, nc20, nc21, nc22, nc23, nc35, nc47, nc59, nc60, nc61, nc73, nc74, nc214, nc215, nc1115, nc2230, nc3345, if_true, if_false, Int.reduceToNat, hc.k6, hc.r5, hc.r6, hc.r0, hc.r2, hc.r7, hc.r8, hc.r9, hc.r10, hc.r11, hc.r12, hc.r13, hc.r14, hc.r15, hc.r16, hc.r17, hc.r18, hc.r8_0, hc.r8_1, hc.r11_0, hc.r11_1, hc.r60_0, hc.r60_1, hc.r60_4, hc.r64_0, hc.r64_3, hc.r64_4, hc.r68_0, hc.r41_0, hc.r41_1, hc.r42_0, hc.r42_1, hc.k7, hc.k8, hc.k9, hc.k11, hc.k12, hc.k13, hc.k32, hc.k41, hc.k42, hc.k43, hc.k60, hc.k61, hc.k62, hc.k63, hc.k64, hc.k65, hc.k66, hc.k67, hc.k68, hc.k69, hc.k70, hc.k71, hc.n6, hc.n7, hc.n8, hc.n9, hc.n11, hc.n12, hc.n13, hc.n32, hc.n41, hc.n42, hc.n43, hc.n60, hc.n61, hc.n62, hc.n63, hc.n64, hc.n65, hc.n66, hc.n67, hc.n68, hc.n69, hc.n70, hc.n71, e1, e2]
    exact e
theorem c_wMoved {d w : Nat} {h : Hp} {o M l x r y s : Int} (ho : o = 0 ∨ o = 1728) (hM : M ≤ 12) (hl : -2 ≤ l ∧ l < M) (hx : 0 ≤ x ∧ x ≤ 11) (hy : 0 ≤ y ∧ y ≤ 11) (hr : 0 ≤ r ∧ r ≤ 11) (hs : 0 ≤ s ∧ s ≤ 11) (ne : ¬ (x = y ∧ r = s)) {acc bcc : Int → Int} (hc : CR h w) (vb : rwS h o M y s bcc) (va : rwS h o M x r acc) : ∃ h', cal (d+1) m_Watcher_addMoved [.inr (.inr (70)), .inl (o + (y * 12 + s) * 12), .inl (o + (x * 12 + r) * 12), .inl (l)] (h) = some (.inl 0, h') ∧ rwS h' o M x r (fun m => if 1 ≤ m ∧ m ≤ l then acc m + bcc (m - 1) else acc m) ∧ Fr (pO o x r) h h' := by
  obtain ⟨h', e, q⟩ := c_wMoved_l (d := d) (w := w) ho hM hl hx hy hr hs ne (acc := acc) (bcc := bcc) 1 (by omega) (by omega) h hc vb (va.cg (fun m _ _ => by rw [if_neg (by omega)])) (Or.inr rfl)
  refine ⟨h', ?_, q⟩
  show EX (d) m_Watcher_addMoved 0 [(0, .inr (.inr (70))), (1, .inl (o + (y * 12 + s) * 12)), (2, .inl (o + (x * 12 + r) * 12)), (3, .inl (l))] [] (h) = _
  rw [Watcher_addMoved_0]
  exact e
/-- fitting ways behind a join -/
def Cw (S nb : Int → Int) (t m y s : Int) : Int := Ctr S nb (-1) (-1) t m y s
def Mw (S nb : Int → Int) (t m y s : Int) : Int := if bt (S 10) s = 0 then Cw S nb t m y s else 0
def Fw (S nb : Int → Int) (t : Int) : Int → Int → Int → Int → Bool := FF S nb (-1) (-1) t
theorem Fw_pos {S nb : Int → Int} {t x r g s : Int} (hx : 0 ≤ x) (hg : 0 ≤ g) : Fw S nb t x r g s = true ↔ (bt (S 10) s = 0 ∧ 0 ≤ sagM S x r g s ∧ shB nb t r s (sagM S x r g s) = true) := by
  unfold Fw FF
  simp only [decide_eq_true_eq, if_neg (show ¬ x = -1 by omega)]
  constructor
  · rintro ⟨a, b, c⟩; exact ⟨a, c⟩
  · rintro ⟨a, c⟩; exact ⟨a, fun z => by omega, c⟩
theorem Fw_neg {S nb : Int → Int} {t g s : Int} (hg : 0 ≤ g) : Fw S nb t (-1) (-1) g s = true ↔ (bt (S 10) s = 0 ∧ shB nb t 0 s (-2) = true) := by
  unfold Fw FF
  simp only [decide_eq_true_eq, if_pos (show (-1 : Int) = -1 from rfl)]
  constructor
  · rintro ⟨a, b, c⟩; exact ⟨a, c⟩
  · rintro ⟨a, c⟩; exact ⟨a, fun z => by omega, c⟩
/-- a window, a tray, what is surveyed -/
def WS (h : Hp) (w t : Nat) (S rs rm nb : Int → Int) : Prop := RW h w t S rs rm nb ∧ SV h S nb t
theorem WS.fr {h h' : Hp} {w t : Nat} {S rs rm nb : Int → Int} (y : WS h w t S rs rm nb) {p : Nat → Nat → Prop} (f : Fr p h h') (hp : ∀ a k, p a k → 60 ≤ a) (hp2 : ∀ a k, p a k → ¬ a = 68 ∧ ¬ a = 69) : WS h' w t S rs rm nb := ⟨y.1.fr f hp, y.2.fr f hp2⟩
theorem c_wB_1 {d w t : Nat} {S rs rm nb : Int → Int} (q : SQ S rm nb t) {M : Int} (hM : 1 ≤ M ∧ M ≤ 12) {x r y : Int} (hx : 0 ≤ x ∧ x < y ∧ y < S 1) (hr : 0 ≤ r ∧ r < S 2) : ∀ s, r + 1 ≤ s → s ≤ 12 → ∀ h acc, WS h w t S rs rm nb → (∀ s, r < s → s < S 2 → rwS h 0 M y s (fun m => Mw S nb t m y s)) → rwS h 0 M x r acc → ∃ h', EX (d+2) m_Watcher_countBehind 47 [(0, .inr (.inr (68))), (1, .inr (.inr (w))), (2, .inl (x)), (3, .inl (r)), (4, .inl (M)), (5, .inr (.inr (70))), (6, .inl ((x * 12 + r) * 12)), (7, .inl (y)), (8, .inl (s))] [] (h) = EX (d+2) m_Watcher_countBehind 127 [(0, .inr (.inr (68))), (1, .inr (.inr (w))), (2, .inl (x)), (3, .inl (r)), (4, .inl (M)), (5, .inr (.inr (70))), (6, .inl ((x * 12 + r) * 12)), (7, .inl (y))] [] (h') ∧ rwS h' 0 M x r (fun m => if 1 ≤ m then acc m + sm (fun s => if Fw S nb t x r y s = true then Cw S nb t (m - 1) y s else 0) s (S 2) else acc m) ∧ Fr (pO 0 x r) h h' := by
  have ga := q.1.a
  have gb := q.1.b
  refine up_ind (hi := S 2) ?_ ?_
  · intro s hs h0 h1 h acc ws tb va
    have hw := ws.1.2.1
    have wv := ws.1.2
    refine ⟨h, ?_, va.cg (fun m m0 m1 => ?_), Fr.rf⟩
    · rw [Watcher_countBehind_47]
      simp (disch := omega) only [wr_id, ix_id, okx, if_pos, if_neg, Int.toNat_of_nonneg, bak_v, bak_n, wr_b01, wr_bt, b01_or, b01_0, b01_1, lc_lt0, lc_gt0, lc_eq0, wl_wr, wr_wr, wl_id, true_and, and_true, true_or, or_true, not_true_eq_false, not_false_eq_true, nc0, nc1, nc2, nc3, nc4, nc5, nc6, nc7, nc8, nc9, nc10, nc11, nc12, nc13, nc14, nc15, nc16, nc17, nc18, nc19, nc20, nc21, nc22, nc23, nc35, nc47, nc59, nc60, nc61, nc73, nc74, nc214, nc215, nc1115, nc2230, nc3345, if_true, if_false, Int.reduceToNat, hw.k, hw.r0, hw.r1, hw.r2, hw.r3, hw.r4, hw.k1, hw.k2, hw.k3, hw.k4, hw.k5, hw.n1, hw.n2, hw.n3, hw.n4, hw.n5, wv.f5, wv.f6, wv.f7, wv.f8, wv.f9, wv.f10, wv.f11, wv.f12, wv.f13, wv.f14, wv.pk, wv.qk, wv.hk, wv.rk]
    · rw [sm_stop hs, Int.add_zero]
      simp
  · intro s hs ih h0 h1 h acc ws tb va
    have hw := ws.1.2.1
    have wv := ws.1.2
    have hc := ws.1.1.1
    have eb := c_isBroken (d := d + 1) wv (r := s) (by omega)
    have ef := c_fits (d := d) q ws.1 ws.2 (x := x) (r := r) (g := y) (s := s) (by omega) (by omega)
    have fw := Fw_pos (S := S) (nb := nb) (t := t) (x := x) (r := r) (g := y) (s := s) (by omega) (by omega)
    have skip : ¬ Fw S nb t x r y s = true → ∃ h', EX (d+2) m_Watcher_countBehind 47 [(0, .inr (.inr (68))), (1, .inr (.inr (w))), (2, .inl (x)), (3, .inl (r)), (4, .inl (M)), (5, .inr (.inr (70))), (6, .inl ((x * 12 + r) * 12)), (7, .inl (y)), (8, .inl (s + 1))] [] (h) = EX (d+2) m_Watcher_countBehind 127 [(0, .inr (.inr (68))), (1, .inr (.inr (w))), (2, .inl (x)), (3, .inl (r)), (4, .inl (M)), (5, .inr (.inr (70))), (6, .inl ((x * 12 + r) * 12)), (7, .inl (y))] [] (h') ∧ rwS h' 0 M x r (fun m => if 1 ≤ m then acc m + sm (fun s => if Fw S nb t x r y s = true then Cw S nb t (m - 1) y s else 0) s (S 2) else acc m) ∧ Fr (pO 0 x r) h h' := fun cf => by
      obtain ⟨h2, e2, k2, f2⟩ := ih (by omega) (by omega) h acc ws tb va
      refine ⟨h2, e2, k2.cg (fun m m0 m1 => ?_), f2⟩
      by_cases c1 : 1 ≤ m
      · simp only [c1, if_true]
        rw [sm_step hs, if_neg cf, Int.zero_add]
      · simp only [c1, if_false]
    rcases bt_01 (S 10) s with cb | cb
    · by_cases c : 0 ≤ sagM S x r y s ∧ shB nb t r s (sagM S x r y s) = true
      · have b1 : b01 (0 ≤ sagM S x r y s ∧ shB nb t r s (sagM S x r y s) = true) = 1 := by unfold b01; rw [if_pos c]
        rw [b1] at ef
        have cf : Fw S nb t x r y s = true := fw.mpr ⟨cb, c⟩
        have em := min_s (d + 1) (S 1 - y) (S 2 - s) h
        have em2 := min_s (d + 1) (M - 1) (if wr (S 2 - s) < wr (S 1 - y) then S 2 - s else S 1 - y) h
        generalize hl : (if wr (S 2 - s) < wr (S 1 - y) then S 2 - s else S 1 - y) = l1 at *
        have l1r : 1 ≤ l1 ∧ l1 ≤ 12 ∧ (l1 = S 1 - y ∨ l1 = S 2 - s) := by
          rw [← hl, wr_id (by omega) (by omega), wr_id (by omega) (by omega)]
          split <;> omega
        generalize hl2 : (if wr l1 < wr (M - 1) then l1 else M - 1) = l at *
        have lr : l ≤ l1 ∧ l ≤ M - 1 ∧ 0 ≤ l ∧ (l = l1 ∨ l = M - 1) := by
          rw [← hl2, wr_id (by omega) (by omega), wr_id (by omega) (by omega)]
          split <;> omega
        obtain ⟨h1', e1, k1, f1⟩ := c_wMoved (d := d + 1) (w := w) (o := 0) (M := M) (l := l) (x := x) (r := r) (y := y) (s := s) (acc := acc) (bcc := fun m => Mw S nb t m y s) (Or.inl rfl) (by omega) (by omega) (by omega) (by omega) (by omega) (by omega) (by omega) hc (tb s (by omega) hs) va
        rw [Int.zero_add, Int.zero_add] at e1
        obtain ⟨h2, e2, k2, f2⟩ := ih (by omega) (by omega) h1' _ (ws.fr f1 pO.ge pO.n8) (fun z z1 z2 => (tb z z1 z2).fr f1 (by omega) (by omega) (by omega) (by omega) (by omega) (by omega) (by omega)) k1
        refine ⟨h2, ?_, k2.cg (fun m m0 m1 => ?_), f1.tr f2⟩
        · rw [Watcher_countBehind_47]
          simp (disch := omega) only [Watcher_countBehind_56, Watcher_countBehind_62, Watcher_countBehind_65, Watcher_countBehind_76, Watcher_countBehind_79, Watcher_countBehind_96, Watcher_countBehind_107, Watcher_countBehind_118, Watcher_countBehind_121, wr_id, ix_id, okx, if_pos, if_neg, Int.toNat_of_nonneg, bak_v, bak_n, wr_b01, wr_bt, b01_or, b01_0, b01_1, lc_lt0, lc_gt0, lc_eq0, wl_wr, wr_wr, wl_id, true_and, and_true, true_or, or_true, not_true_eq_false, not_false_eq_true, nc0, nc1, nc2, nc3, nc4, nc5, nc6, nc7, nc8, nc9, nc10, nc11, nc12, nc13, nc14, nc15, nc16, nc17, nc18, nc19, nc20, nc21, nc22, nc23, nc35, nc47, nc59, nc60, nc61, nc73, nc74, nc214, nc215, nc1115, nc2230, nc3345, if_true, if_false, Int.reduceToNat, hw.k, hw.r0, hw.r1, hw.r2, hw.r3, hw.r4, hw.k1, hw.k2, hw.k3, hw.k4, hw.k5, hw.n1, hw.n2, hw.n3, hw.n4, hw.n5, wv.f5, wv.f6, wv.f7, wv.f8, wv.f9, wv.f10, wv.f11, wv.f12, wv.f13, wv.f14, wv.pk, wv.qk, wv.hk, wv.rk, hc.k6, hc.r5, hc.r6, hc.r0, hc.r2, hc.r7, hc.r8, hc.r9, hc.r10, hc.r11, hc.r12, hc.r13, hc.r14, hc.r15, hc.r16, hc.r17, hc.r18, hc.r8_0, hc.r8_1, hc.r11_0, hc.r11_1, hc.r60_0, hc.r60_1, hc.r60_4, hc.r64_0, hc.r64_3, hc.r64_4, hc.r68_0, hc.r41_0, hc.r41_1, hc.r42_0, hc.r42_1, hc.k7, hc.k8, hc.k9, hc.k11, hc.k12, hc.k13, hc.k32, hc.k41, hc.k42, hc.k43, hc.k60, hc.k61, hc.k62, hc.k63, hc.k64, hc.k65, hc.k66, hc.k67, hc.k68, hc.k69, hc.k70, hc.k71, hc.n6, hc.n7, hc.n8, hc.n9, hc.n11, hc.n12, hc.n13, hc.n32, hc.n41, hc.n42, hc.n43, hc.n60, hc.n61, hc.n62, hc.n63, hc.n64, hc.n65, hc.n66, hc.n67, hc.n68, hc.n69, hc.n70, hc.n71, eb, cb, ef, em, c_rowOf, em2, e1, e2]
        · by_cases c1 : 1 ≤ m
          · simp only [c1, if_true, true_and]
            rw [sm_step hs, if_pos cf]
            by_cases c2 : m ≤ l
            · rw [if_pos c2]
              unfold Mw
              rw [if_pos cb]
              omega
            · rw [if_neg c2]
              have z : Cw S nb t (m - 1) y s = 0 := cnt_end _ _ _ (by omega) (by omega)
              rw [z]
              omega
          · simp only [c1, if_false, false_and]
      · have b1 : b01 (0 ≤ sagM S x r y s ∧ shB nb t r s (sagM S x r y s) = true) = 0 := by unfold b01; rw [if_neg c]
        rw [b1] at ef
        obtain ⟨h2, e2, k2, f2⟩ := skip (fun z => c (fw.mp z).2)
        refine ⟨h2, ?_, k2, f2⟩
        rw [Watcher_countBehind_47]
        simp (disch := omega) only [Watcher_countBehind_56, Watcher_countBehind_62, Watcher_countBehind_65, Watcher_countBehind_76, Watcher_countBehind_121, wr_id, ix_id, okx, if_pos, if_neg, Int.toNat_of_nonneg, bak_v, bak_n, wr_b01, wr_bt, b01_or, b01_0, b01_1, lc_lt0, lc_gt0, lc_eq0, wl_wr, wr_wr, wl_id, true_and, and_true, true_or, or_true, not_true_eq_false, not_false_eq_true, nc0, nc1, nc2, nc3, nc4, nc5, nc6, nc7, nc8, nc9, nc10, nc11, nc12, nc13, nc14, nc15, nc16, nc17, nc18, nc19, nc20, nc21, nc22, nc23, nc35, nc47, nc59, nc60, nc61, nc73, nc74, nc214, nc215, nc1115, nc2230, nc3345, if_true, if_false, Int.reduceToNat, hw.k, hw.r0, hw.r1, hw.r2, hw.r3, hw.r4, hw.k1, hw.k2, hw.k3, hw.k4, hw.k5, hw.n1, hw.n2, hw.n3, hw.n4, hw.n5, wv.f5, wv.f6, wv.f7, wv.f8, wv.f9, wv.f10, wv.f11, wv.f12, wv.f13, wv.f14, wv.pk, wv.qk, wv.hk, wv.rk, hc.k6, hc.r5, hc.r6, hc.r0, hc.r2, hc.r7, hc.r8, hc.r9, hc.r10, hc.r11, hc.r12, hc.r13, hc.r14, hc.r15, hc.r16, hc.r17, hc.r18, hc.r8_0, hc.r8_1, hc.r11_0, hc.r11_1, hc.r60_0, hc.r60_1, hc.r60_4, hc.r64_0, hc.r64_3, hc.r64_4, hc.r68_0, hc.r41_0, hc.r41_1, hc.r42_0, hc.r42_1, hc.k7, hc.k8, hc.k9, hc.k11, hc.k12, hc.k13, hc.k32, hc.k41, hc.k42, hc.k43, hc.k60, hc.k61, hc.k62, hc.k63, hc.k64, hc.k65, hc.k66, hc.k67, hc.k68, hc.k69, hc.k70, hc.k71, hc.n6, hc.n7, hc.n8, hc.n9, hc.n11, hc.n12, hc.n13, hc.n32, hc.n41, hc.n42, hc.n43, hc.n60, hc.n61, hc.n62, hc.n63, hc.n64, hc.n65, hc.n66, hc.n67, hc.n68, hc.n69, hc.n70, hc.n71, eb, cb, ef, e2]
    · obtain ⟨h2, e2, k2, f2⟩ := skip (fun z => by have := (fw.mp z).1; omega)
      refine ⟨h2, ?_, k2, f2⟩
      rw [Watcher_countBehind_47]
      simp (disch := omega) only [Watcher_countBehind_56, Watcher_countBehind_62, Watcher_countBehind_121, wr_id, ix_id, okx, if_pos, if_neg, Int.toNat_of_nonneg, bak_v, bak_n, wr_b01, wr_bt, b01_or, b01_0, b01_1, lc_lt0, lc_gt0, lc_eq0, wl_wr, wr_wr, wl_id, true_and, and_true, true_or, or_true, not_true_eq_false, not_false_eq_true, nc0, nc1, nc2, nc3, nc4, nc5, nc6, nc7, nc8, nc9, nc10, nc11, nc12, nc13, nc14, nc15, nc16, nc17, nc18, nc19, nc20, nc21, nc22, nc23, nc35, nc47, nc59, nc60, nc61, nc73, nc74, nc214, nc215, nc1115, nc2230, nc3345, if_true, if_false, Int.reduceToNat, hw.k, hw.r0, hw.r1, hw.r2, hw.r3, hw.r4, hw.k1, hw.k2, hw.k3, hw.k4, hw.k5, hw.n1, hw.n2, hw.n3, hw.n4, hw.n5, wv.f5, wv.f6, wv.f7, wv.f8, wv.f9, wv.f10, wv.f11, wv.f12, wv.f13, wv.f14, wv.pk, wv.qk, wv.hk, wv.rk, hc.k6, hc.r5, hc.r6, hc.r0, hc.r2, hc.r7, hc.r8, hc.r9, hc.r10, hc.r11, hc.r12, hc.r13, hc.r14, hc.r15, hc.r16, hc.r17, hc.r18, hc.r8_0, hc.r8_1, hc.r11_0, hc.r11_1, hc.r60_0, hc.r60_1, hc.r60_4, hc.r64_0, hc.r64_3, hc.r64_4, hc.r68_0, hc.r41_0, hc.r41_1, hc.r42_0, hc.r42_1, hc.k7, hc.k8, hc.k9, hc.k11, hc.k12, hc.k13, hc.k32, hc.k41, hc.k42, hc.k43, hc.k60, hc.k61, hc.k62, hc.k63, hc.k64, hc.k65, hc.k66, hc.k67, hc.k68, hc.k69, hc.k70, hc.k71, hc.n6, hc.n7, hc.n8, hc.n9, hc.n11, hc.n12, hc.n13, hc.n32, hc.n41, hc.n42, hc.n43, hc.n60, hc.n61, hc.n62, hc.n63, hc.n64, hc.n65, hc.n66, hc.n67, hc.n68, hc.n69, hc.n70, hc.n71, eb, cb, e2]
theorem c_wB_2 {d w t : Nat} {S rs rm nb : Int → Int} (q : SQ S rm nb t) {M : Int} (hM : 1 ≤ M ∧ M ≤ 12) {x r : Int} (hx : 0 ≤ x) (hr : 0 ≤ r ∧ r < S 2) : ∀ y, x + 1 ≤ y → y ≤ 12 → ∀ h acc, WS h w t S rs rm nb → (∀ y s, x < y → y < S 1 → 0 ≤ s → s < S 2 → rwS h 0 M y s (fun m => Mw S nb t m y s)) → rwS h 0 M x r acc → ∃ h', EX (d+2) m_Watcher_countBehind 33 [(0, .inr (.inr (68))), (1, .inr (.inr (w))), (2, .inl (x)), (3, .inl (r)), (4, .inl (M)), (5, .inr (.inr (70))), (6, .inl ((x * 12 + r) * 12)), (7, .inl (y))] [] (h) = some (.inl 0, h') ∧ rwS h' 0 M x r (fun m => if 1 ≤ m then acc m + sm (fun y => sm (fun s => if Fw S nb t x r y s = true then Cw S nb t (m - 1) y s else 0) (r + 1) (S 2)) y (S 1) else acc m) ∧ Fr (pO 0 x r) h h' := by
  have ga := q.1.a
  have gb := q.1.b
  refine up_ind (hi := S 1) ?_ ?_
  · intro y hy h0 h1 h acc ws tb va
    have hw := ws.1.2.1
    have wv := ws.1.2
    refine ⟨h, ?_, va.cg (fun m m0 m1 => ?_), Fr.rf⟩
    · rw [Watcher_countBehind_33]
      simp (disch := omega) only [Watcher_countBehind_133, wr_id, ix_id, okx, if_pos, if_neg, Int.toNat_of_nonneg, bak_v, bak_n, wr_b01, wr_bt, b01_or, b01_0, b01_1, lc_lt0, lc_gt0, lc_eq0, wl_wr, wr_wr, wl_id, true_and, and_true, true_or, or_true, not_true_eq_false, not_false_eq_true, nc0, nc1, nc2, nc3, nc4, nc5, nc6, nc7, nc8, nc9, nc10, nc11, nc12, nc13, nc14, nc15, nc16, nc17, nc18, nc19, nc20, nc21, nc22, nc23, nc35, nc47, nc59, nc60, nc61, nc73, nc74, nc214, nc215, nc1115, nc2230, nc3345, if_true, if_false, Int.reduceToNat, hw.k, hw.r0, hw.r1, hw.r2, hw.r3, hw.r4, hw.k1, hw.k2, hw.k3, hw.k4, hw.k5, hw.n1, hw.n2, hw.n3, hw.n4, hw.n5, wv.f5, wv.f6, wv.f7, wv.f8, wv.f9, wv.f10, wv.f11, wv.f12, wv.f13, wv.f14, wv.pk, wv.qk, wv.hk, wv.rk]
    · rw [sm_stop hy, Int.add_zero]
      simp
  · intro y hy ih h0 h1 h acc ws tb va
    have hw := ws.1.2.1
    have wv := ws.1.2
    obtain ⟨h1', e1, k1, f1⟩ := c_wB_1 (d := d) (w := w) (rs := rs) q hM (x := x) (r := r) (y := y) (by omega) hr (r + 1) (by omega) (by omega) h acc ws (fun s s1 s2 => tb y s (by omega) hy (by omega) s2) va
    obtain ⟨h2, e2, k2, f2⟩ := ih (by omega) (by omega) h1' _ (ws.fr f1 pO.ge pO.n8) (fun y s z1 z2 z3 z4 => (tb y s z1 z2 z3 z4).fr f1 (by omega) (by omega) (by omega) (by omega) (by omega) (by omega) (by omega)) k1
    refine ⟨h2, ?_, k2.cg (fun m m0 m1 => ?_), f1.tr f2⟩
    · rw [Watcher_countBehind_33]
      simp (disch := omega) only [Watcher_countBehind_42, wr_id, ix_id, okx, if_pos, if_neg, Int.toNat_of_nonneg, bak_v, bak_n, wr_b01, wr_bt, b01_or, b01_0, b01_1, lc_lt0, lc_gt0, lc_eq0, wl_wr, wr_wr, wl_id, true_and, and_true, true_or, or_true, not_true_eq_false, not_false_eq_true, nc0, nc1, nc2, nc3, nc4, nc5, nc6, nc7, nc8, nc9, nc10, nc11, nc12, nc13, nc14, nc15, nc16, nc17, nc18, nc19, nc20, nc21, nc22, nc23, nc35, nc47, nc59, nc60, nc61, nc73, nc74, nc214, nc215, nc1115, nc2230, nc3345, if_true, if_false, Int.reduceToNat, hw.k, hw.r0, hw.r1, hw.r2, hw.r3, hw.r4, hw.k1, hw.k2, hw.k3, hw.k4, hw.k5, hw.n1, hw.n2, hw.n3, hw.n4, hw.n5, wv.f5, wv.f6, wv.f7, wv.f8, wv.f9, wv.f10, wv.f11, wv.f12, wv.f13, wv.f14, wv.pk, wv.qk, wv.hk, wv.rk, e1]
      rw [Watcher_countBehind_127]
      exact e2
    · by_cases c1 : 1 ≤ m
      · simp only [c1, if_true]
        rw [sm_step hy, Int.add_assoc]
      · simp only [c1, if_false]
theorem c_wBehind {d w t : Nat} {h : Hp} {S rs rm nb : Int → Int} (q : SQ S rm nb t) {M : Int} (hM : 1 ≤ M ∧ M ≤ 12) {x r : Int} (hx : 0 ≤ x ∧ x < S 1) (hr : 0 ≤ r ∧ r < S 2) (hb : bt (S 10) r = 0) (ws : WS h w t S rs rm nb) (tb : ∀ y s, x < y → y < S 1 → 0 ≤ s → s < S 2 → rwS h 0 M y s (fun m => Mw S nb t m y s)) (vz : rwS h 0 M x r (fun _ => 0)) : ∃ h', cal (d+3) m_Watcher_countBehind [.inr (.inr (68)), .inr (.inr (w)), .inl (x), .inl (r), .inl (M), .inr (.inr (70))] (h) = some (.inl 0, h') ∧ rwS h' 0 M x r (fun m => Mw S nb t m x r) ∧ Fr (pO 0 x r) h h' := by
  have ga := q.1.a
  have gb := q.1.b
  have hc := ws.1.1.1
  have bv := ws.2.2.1 r hr.1 hr.2
  have eBB : BB S nb t r = bt (hI h 68 2) r := by rw [bv]; unfold BB; rw [if_neg (show ¬ r = -1 by omega)]
  have f0 : Fr (pO 0 x r) h (pI h 70 ((x * 12 + r) * 12).toNat (BB S nb t r)) := Fr.pI Fr.rf (by unfold pO; omega)
  have va0 : rwS (pI h 70 ((x * 12 + r) * 12).toNat (BB S nb t r)) 0 M x r (fun m => if m = 0 then BB S nb t r else 0) := fun m m0 m1 => by
    rw [hI_pI]
    by_cases c : m = 0
    · rw [if_pos ⟨rfl, by rw [c]; congr 1; omega⟩]; simp [c]
    · rw [if_neg (fun z => c (by have := z.2; omega)), vz m m0 m1]; simp [c]
  obtain ⟨h1, e1, k1, f1⟩ := c_wB_2 (d := d) (w := w) (rs := rs) q hM (x := x) (r := r) (by omega) hr (x + 1) (by omega) (by omega) _ _ (ws.fr f0 pO.ge pO.n8) (fun y s z1 z2 z3 z4 => (tb y s z1 z2 z3 z4).fr f0 (by omega) (by omega) (by omega) (by omega) (by omega) (by omega) (by omega)) va0
  refine ⟨h1, ?_, k1.cg (fun m m0 m1 => ?_), f0.tr f1⟩
  · show EX (d+2) m_Watcher_countBehind 0 [(0, .inr (.inr (68))), (1, .inr (.inr (w))), (2, .inl (x)), (3, .inl (r)), (4, .inl (M)), (5, .inr (.inr (70)))] [] (h) = _
    have eh := c_has (d := d + 1) (h := h) (v := hI h 68 2) (r := r) hr.1 (by omega)
    rw [← eBB] at eh
    rcases (show BB S nb t r = 0 ∨ BB S nb t r = 1 by rw [eBB]; exact bt_01 _ _) with cz | cz
    · rw [cz] at eh e1
      simp (disch := omega) only [Watcher_countBehind_0, Watcher_countBehind_5, Watcher_countBehind_19, Watcher_countBehind_26, Watcher_countBehind_27, Watcher_countBehind_28, wr_id, ix_id, okx, if_pos, if_neg, Int.toNat_of_nonneg, bak_v, bak_n, wr_b01, wr_bt, b01_or, b01_0, b01_1, lc_lt0, lc_gt0, lc_eq0, wl_wr, wr_wr, wl_id, true_and, and_true, true_or, or_true, not_true_eq_false, not_false_eq_true, nc0, nc1, nc2, nc3, nc4, nc5, nc6, nc7, nc8, nc9, nc10, nc11, nc12, nc13, nc14, nc15, nc16, nc17, nc18, nc19, nc20, nc21, nc22, nc23, nc35, nc47, nc59, nc60, nc61, nc73, nc74, nc214, nc215, nc1115, nc2230, nc3345, if_true, if_false, Int.reduceToNat, hc.k6, hc.r5, hc.r6, hc.r0, hc.r2, hc.r7, hc.r8, hc.r9, hc.r10, hc.r11, hc.r12, hc.r13, hc.r14, hc.r15, hc.r16, hc.r17, hc.r18, hc.r8_0, hc.r8_1, hc.r11_0, hc.r11_1, hc.r60_0, hc.r60_1, hc.r60_4, hc.r64_0, hc.r64_3, hc.r64_4, hc.r68_0, hc.r41_0, hc.r41_1, hc.r42_0, hc.r42_1, hc.k7, hc.k8, hc.k9, hc.k11, hc.k12, hc.k13, hc.k32, hc.k41, hc.k42, hc.k43, hc.k60, hc.k61, hc.k62, hc.k63, hc.k64, hc.k65, hc.k66, hc.k67, hc.k68, hc.k69, hc.k70, hc.k71, hc.n6, hc.n7, hc.n8, hc.n9, hc.n11, hc.n12, hc.n13, hc.n32, hc.n41, hc.n42, hc.n43, hc.n60, hc.n61, hc.n62, hc.n63, hc.n64, hc.n65, hc.n66, hc.n67, hc.n68, hc.n69, hc.n70, hc.n71, c_rowOf, eh]
      exact e1
    · rw [cz] at eh e1
      simp (disch := omega) only [Watcher_countBehind_0, Watcher_countBehind_5, Watcher_countBehind_19, Watcher_countBehind_22, Watcher_countBehind_27, Watcher_countBehind_28, wr_id, ix_id, okx, if_pos, if_neg, Int.toNat_of_nonneg, bak_v, bak_n, wr_b01, wr_bt, b01_or, b01_0, b01_1, lc_lt0, lc_gt0, lc_eq0, wl_wr, wr_wr, wl_id, true_and, and_true, true_or, or_true, not_true_eq_false, not_false_eq_true, nc0, nc1, nc2, nc3, nc4, nc5, nc6, nc7, nc8, nc9, nc10, nc11, nc12, nc13, nc14, nc15, nc16, nc17, nc18, nc19, nc20, nc21, nc22, nc23, nc35, nc47, nc59, nc60, nc61, nc73, nc74, nc214, nc215, nc1115, nc2230, nc3345, if_true, if_false, Int.reduceToNat, hc.k6, hc.r5, hc.r6, hc.r0, hc.r2, hc.r7, hc.r8, hc.r9, hc.r10, hc.r11, hc.r12, hc.r13, hc.r14, hc.r15, hc.r16, hc.r17, hc.r18, hc.r8_0, hc.r8_1, hc.r11_0, hc.r11_1, hc.r60_0, hc.r60_1, hc.r60_4, hc.r64_0, hc.r64_3, hc.r64_4, hc.r68_0, hc.r41_0, hc.r41_1, hc.r42_0, hc.r42_1, hc.k7, hc.k8, hc.k9, hc.k11, hc.k12, hc.k13, hc.k32, hc.k41, hc.k42, hc.k43, hc.k60, hc.k61, hc.k62, hc.k63, hc.k64, hc.k65, hc.k66, hc.k67, hc.k68, hc.k69, hc.k70, hc.k71, hc.n6, hc.n7, hc.n8, hc.n9, hc.n11, hc.n12, hc.n13, hc.n32, hc.n41, hc.n42, hc.n43, hc.n60, hc.n61, hc.n62, hc.n63, hc.n64, hc.n65, hc.n66, hc.n67, hc.n68, hc.n69, hc.n70, hc.n71, c_rowOf, eh]
      exact e1
  · unfold Mw
    rw [if_pos hb]
    by_cases c1 : 1 ≤ m
    · have c2 : ¬ m = 0 := by omega
      simp only [c1, c2, if_true, if_false, Int.zero_add]
      unfold Cw Ctr
      rw [show m.toNat = (m - 1).toNat + 1 by omega]
      rfl
    · have c2 : m = 0 := by omega
      subst c2
      simp [Cw, Ctr, cnt]
/-! countFits -/
def TCw (h : Hp) (S nb : Int → Int) (t M x r : Int) : Prop := ∀ y s, 0 ≤ y → y < S 1 → 0 ≤ s → s < S 2 → rwS h 0 M y s (fun m => if x < y ∨ (y = x ∧ r < s) then Mw S nb t m y s else 0)
def tAw (S nb : Int → Int) (t M y s : Int) : Int := if Fw S nb t (-1) (-1) y s = true then Cw S nb t (M - 1) y s else 0
def tAll (S nb : Int → Int) (t M x r : Int) : Int := sm (fun y => sm (fun s => tAw S nb t M y s) 0 (S 2)) (x + 1) (S 1) + sm (fun s => tAw S nb t M x s) (r + 1) (S 2)
def p0 (a k : Nat) : Prop := a = 70 ∧ k < 1728
theorem p0.ge : ∀ a k, p0 a k → 60 ≤ a := fun a k q => by unfold p0 at q; omega
theorem p0.n8 : ∀ a k, p0 a k → ¬ a = 68 ∧ ¬ a = 69 := fun a k q => by unfold p0 at q; omega
theorem c_wF_1 {d w t : Nat} {S rs rm nb : Int → Int} (q : SQ S rm nb t) {M : Int} (hM : 1 ≤ M ∧ M ≤ 12) {x : Int} (hx : 0 ≤ x ∧ x < S 1) : ∀ r, -1 ≤ r → r < S 2 → ∀ h, WS h w t S rs rm nb → TCw h S nb t M x r → ∃ h', EX (d+3) m_Watcher_countFits 69 [(0, .inr (.inr (68))), (1, .inr (.inr (w))), (3, .inl (M)), (4, .inr (.inr (70))), (5, .inl (tAll S nb t M x r)), (6, .inl (x)), (7, .inl (r))] [] (h) = EX (d+3) m_Watcher_countFits 136 [(0, .inr (.inr (68))), (1, .inr (.inr (w))), (3, .inl (M)), (4, .inr (.inr (70))), (5, .inl (tAll S nb t M x (-1))), (6, .inl (x))] [] (h') ∧ TCw h' S nb t M x (-1) ∧ Fr p0 h h' := by
  have ga := q.1.a
  have gb := q.1.b
  refine dn_ind (lo := 0) ?_ ?_
  · intro r hr h0 h1 h ws tc
    have er : r = -1 := by omega
    subst er
    refine ⟨h, ?_, tc, Fr.rf⟩
    rw [Watcher_countFits_69]
    simp (disch := omega) only [wr_id, ix_id, okx, if_pos, if_neg, Int.toNat_of_nonneg, bak_v, bak_n, wr_b01, wr_bt, b01_or, b01_0, b01_1, lc_lt0, lc_gt0, lc_eq0, wl_wr, wr_wr, wl_id, true_and, and_true, true_or, or_true, not_true_eq_false, not_false_eq_true, nc0, nc1, nc2, nc3, nc4, nc5, nc6, nc7, nc8, nc9, nc10, nc11, nc12, nc13, nc14, nc15, nc16, nc17, nc18, nc19, nc20, nc21, nc22, nc23, nc35, nc47, nc59, nc60, nc61, nc73, nc74, nc214, nc215, nc1115, nc2230, nc3345, if_true, if_false, Int.reduceToNat]
  · intro r hr ih h0 h1 h ws tc
    have hc := ws.1.1.1
    have wv := ws.1.2
    have hw := ws.1.2.1
    have eb := c_isBroken (d := d + 2) wv (r := r) (by omega)
    have er : r + -1 = r - 1 := by omega
    have fn := Fw_neg (S := S) (nb := nb) (t := t) (g := x) (s := r) hx.1
    have tS : tAll S nb t M x (r - 1) = tAll S nb t M x r + tAw S nb t M x r := by
      unfold tAll
      rw [show r - 1 + 1 = r by omega, sm_step (i := r) h1]
      omega
    rcases bt_01 (S 10) r with c | c
    · obtain ⟨h1', e1, k1, f1⟩ := c_wBehind (d := d) (w := w) (rs := rs) q hM hx (r := r) ⟨hr, h1⟩ c ws (fun y s z1 z2 z3 z4 => (tc y s (by omega) z2 z3 z4).cg (fun m _ _ => by rw [if_pos (by omega)])) ((tc x r (by omega) (by omega) hr h1).cg (fun m _ _ => by rw [if_neg (by omega)]))
      have ws1 := ws.fr f1 pO.ge pO.n8
      have hc1 := ws1.1.1.1
      have fm : Fr p0 h h1' := f1.mo (fun a k z => by unfold pO at z; unfold p0; omega)
      obtain ⟨h2, e2, t2, f2⟩ := ih (by omega) (by omega) h1' ws1 (fun y s y0 y1 s0 s1 => by
        by_cases c2 : y = x ∧ s = r
        · obtain ⟨ey, es⟩ := c2
          rw [ey, es]
          exact k1.cg (fun m _ _ => by rw [if_pos (by omega)])
        · intro m m0 m1
          rw [f1.I (by unfold pO; omega), tc y s y0 y1 s0 s1 m m0 m1]
          dsimp only
          by_cases c3 : x < y ∨ (y = x ∧ r < s)
          · rw [if_pos c3, if_pos (by omega)]
          · rw [if_neg c3, if_neg (by omega)])
      have eh := c_has (d := d + 2) (h := h1') (v := hI h1' 68 1) (r := r) hr (by omega)
      rw [ws1.2.1 r hr h1] at eh
      have ev := k1 (M - 1) (by omega) (by omega)
      rw [show 0 + (x * 12 + r) * 12 + (M - 1) = (x * 12 + r) * 12 + M - 1 by omega] at ev
      refine ⟨h2, ?_, t2, fm.tr f2⟩
      rw [Watcher_countFits_69]
      simp (disch := omega) only [Watcher_countFits_74, Watcher_countFits_80, Watcher_countFits_83, wr_id, ix_id, okx, if_pos, if_neg, Int.toNat_of_nonneg, bak_v, bak_n, wr_b01, wr_bt, b01_or, b01_0, b01_1, lc_lt0, lc_gt0, lc_eq0, wl_wr, wr_wr, wl_id, true_and, and_true, true_or, or_true, not_true_eq_false, not_false_eq_true, nc0, nc1, nc2, nc3, nc4, nc5, nc6, nc7, nc8, nc9, nc10, nc11, nc12, nc13, nc14, nc15, nc16, nc17, nc18, nc19, nc20, nc21, nc22, nc23, nc35, nc47, nc59, nc60, nc61, nc73, nc74, nc214, nc215, nc1115, nc2230, nc3345, if_true, if_false, Int.reduceToNat, hw.k, hw.r0, hw.r1, hw.r2, hw.r3, hw.r4, hw.k1, hw.k2, hw.k3, hw.k4, hw.k5, hw.n1, hw.n2, hw.n3, hw.n4, hw.n5, hc.k6, hc.r5, hc.r6, hc.r0, hc.r2, hc.r7, hc.r8, hc.r9, hc.r10, hc.r11, hc.r12, hc.r13, hc.r14, hc.r15, hc.r16, hc.r17, hc.r18, hc.r8_0, hc.r8_1, hc.r11_0, hc.r11_1, hc.r60_0, hc.r60_1, hc.r60_4, hc.r64_0, hc.r64_3, hc.r64_4, hc.r68_0, hc.r41_0, hc.r41_1, hc.r42_0, hc.r42_1, hc.k7, hc.k8, hc.k9, hc.k11, hc.k12, hc.k13, hc.k32, hc.k41, hc.k42, hc.k43, hc.k60, hc.k61, hc.k62, hc.k63, hc.k64, hc.k65, hc.k66, hc.k67, hc.k68, hc.k69, hc.k70, hc.k71, hc.n6, hc.n7, hc.n8, hc.n9, hc.n11, hc.n12, hc.n13, hc.n32, hc.n41, hc.n42, hc.n43, hc.n60, hc.n61, hc.n62, hc.n63, hc.n64, hc.n65, hc.n66, hc.n67, hc.n68, hc.n69, hc.n70, hc.n71, eb, c, e1]
      rw [tS] at e2
      by_cases co : shB nb t 0 r (-2) = true
      · have b1 : b01 (shB nb t 0 r (-2) = true) = 1 := by unfold b01; rw [if_pos co]
        have ta : tAw S nb t M x r = Mw S nb t (M - 1) x r := by unfold tAw Mw; rw [if_pos (fn.mpr ⟨c, co⟩), if_pos c]
        rw [b1] at eh
        rw [ta] at e2
        have hc := hc1
        simp (disch := omega) only [Watcher_countFits_95, Watcher_countFits_106, Watcher_countFits_109, Watcher_countFits_118, Watcher_countFits_127, Watcher_countFits_130, wr_id, ix_id, okx, if_pos, if_neg, Int.toNat_of_nonneg, bak_v, bak_n, wr_b01, wr_bt, b01_or, b01_0, b01_1, lc_lt0, lc_gt0, lc_eq0, wl_wr, wr_wr, wl_id, true_and, and_true, true_or, or_true, not_true_eq_false, not_false_eq_true, nc0, nc1, nc2, nc3, nc4, nc5, nc6, nc7, nc8, nc9, nc10, nc11, nc12, nc13, nc14, nc15, nc16, nc17, nc18, nc19, nc20, nc21, nc22, nc23, nc35, nc47, nc59, nc60, nc61, nc73, nc74, nc214, nc215, nc1115, nc2230, nc3345, if_true, if_false, Int.reduceToNat, hc.k6, hc.r5, hc.r6, hc.r0, hc.r2, hc.r7, hc.r8, hc.r9, hc.r10, hc.r11, hc.r12, hc.r13, hc.r14, hc.r15, hc.r16, hc.r17, hc.r18, hc.r8_0, hc.r8_1, hc.r11_0, hc.r11_1, hc.r60_0, hc.r60_1, hc.r60_4, hc.r64_0, hc.r64_3, hc.r64_4, hc.r68_0, hc.r41_0, hc.r41_1, hc.r42_0, hc.r42_1, hc.k7, hc.k8, hc.k9, hc.k11, hc.k12, hc.k13, hc.k32, hc.k41, hc.k42, hc.k43, hc.k60, hc.k61, hc.k62, hc.k63, hc.k64, hc.k65, hc.k66, hc.k67, hc.k68, hc.k69, hc.k70, hc.k71, hc.n6, hc.n7, hc.n8, hc.n9, hc.n11, hc.n12, hc.n13, hc.n32, hc.n41, hc.n42, hc.n43, hc.n60, hc.n61, hc.n62, hc.n63, hc.n64, hc.n65, hc.n66, hc.n67, hc.n68, hc.n69, hc.n70, hc.n71, eh, c_rowOf, ev, er]
        exact e2
      · have b1 : b01 (shB nb t 0 r (-2) = true) = 0 := by unfold b01; rw [if_neg co]
        have ta : tAw S nb t M x r = 0 := by unfold tAw; rw [if_neg (fun z => co (fn.mp z).2)]
        rw [b1] at eh
        rw [ta] at e2
        have hc := hc1
        simp (disch := omega) only [Watcher_countFits_95, Watcher_countFits_106, Watcher_countFits_126, Watcher_countFits_127, Watcher_countFits_130, wr_id, ix_id, okx, if_pos, if_neg, Int.toNat_of_nonneg, bak_v, bak_n, wr_b01, wr_bt, b01_or, b01_0, b01_1, lc_lt0, lc_gt0, lc_eq0, wl_wr, wr_wr, wl_id, true_and, and_true, true_or, or_true, not_true_eq_false, not_false_eq_true, nc0, nc1, nc2, nc3, nc4, nc5, nc6, nc7, nc8, nc9, nc10, nc11, nc12, nc13, nc14, nc15, nc16, nc17, nc18, nc19, nc20, nc21, nc22, nc23, nc35, nc47, nc59, nc60, nc61, nc73, nc74, nc214, nc215, nc1115, nc2230, nc3345, if_true, if_false, Int.reduceToNat, hc.k6, hc.r5, hc.r6, hc.r0, hc.r2, hc.r7, hc.r8, hc.r9, hc.r10, hc.r11, hc.r12, hc.r13, hc.r14, hc.r15, hc.r16, hc.r17, hc.r18, hc.r8_0, hc.r8_1, hc.r11_0, hc.r11_1, hc.r60_0, hc.r60_1, hc.r60_4, hc.r64_0, hc.r64_3, hc.r64_4, hc.r68_0, hc.r41_0, hc.r41_1, hc.r42_0, hc.r42_1, hc.k7, hc.k8, hc.k9, hc.k11, hc.k12, hc.k13, hc.k32, hc.k41, hc.k42, hc.k43, hc.k60, hc.k61, hc.k62, hc.k63, hc.k64, hc.k65, hc.k66, hc.k67, hc.k68, hc.k69, hc.k70, hc.k71, hc.n6, hc.n7, hc.n8, hc.n9, hc.n11, hc.n12, hc.n13, hc.n32, hc.n41, hc.n42, hc.n43, hc.n60, hc.n61, hc.n62, hc.n63, hc.n64, hc.n65, hc.n66, hc.n67, hc.n68, hc.n69, hc.n70, hc.n71, eh, er]
        exact e2
    · obtain ⟨h2, e2, t2, f2⟩ := ih (by omega) (by omega) h ws (fun y s y0 y1 s0 s1 => (tc y s y0 y1 s0 s1).cg (fun m _ _ => by
        by_cases c2 : y = x ∧ s = r
        · obtain ⟨ey, es⟩ := c2
          have : Mw S nb t m y s = 0 := by unfold Mw; rw [es, if_neg (by omega)]
          rw [this]; simp
        · by_cases c3 : x < y ∨ (y = x ∧ r < s)
          · rw [if_pos c3, if_pos (by omega)]
          · rw [if_neg c3, if_neg (by omega)]))
      have ta : tAw S nb t M x r = 0 := by unfold tAw; rw [if_neg (fun z => by have := (fn.mp z).1; omega)]
      rw [tS, ta, Int.add_zero] at e2
      refine ⟨h2, ?_, t2, f2⟩
      rw [Watcher_countFits_69]
      simp (disch := omega) only [Watcher_countFits_74, Watcher_countFits_80, Watcher_countFits_130, wr_id, ix_id, okx, if_pos, if_neg, Int.toNat_of_nonneg, bak_v, bak_n, wr_b01, wr_bt, b01_or, b01_0, b01_1, lc_lt0, lc_gt0, lc_eq0, wl_wr, wr_wr, wl_id, true_and, and_true, true_or, or_true, not_true_eq_false, not_false_eq_true, nc0, nc1, nc2, nc3, nc4, nc5, nc6, nc7, nc8, nc9, nc10, nc11, nc12, nc13, nc14, nc15, nc16, nc17, nc18, nc19, nc20, nc21, nc22, nc23, nc35, nc47, nc59, nc60, nc61, nc73, nc74, nc214, nc215, nc1115, nc2230, nc3345, if_true, if_false, Int.reduceToNat, hw.k, hw.r0, hw.r1, hw.r2, hw.r3, hw.r4, hw.k1, hw.k2, hw.k3, hw.k4, hw.k5, hw.n1, hw.n2, hw.n3, hw.n4, hw.n5, hc.k6, hc.r5, hc.r6, hc.r0, hc.r2, hc.r7, hc.r8, hc.r9, hc.r10, hc.r11, hc.r12, hc.r13, hc.r14, hc.r15, hc.r16, hc.r17, hc.r18, hc.r8_0, hc.r8_1, hc.r11_0, hc.r11_1, hc.r60_0, hc.r60_1, hc.r60_4, hc.r64_0, hc.r64_3, hc.r64_4, hc.r68_0, hc.r41_0, hc.r41_1, hc.r42_0, hc.r42_1, hc.k7, hc.k8, hc.k9, hc.k11, hc.k12, hc.k13, hc.k32, hc.k41, hc.k42, hc.k43, hc.k60, hc.k61, hc.k62, hc.k63, hc.k64, hc.k65, hc.k66, hc.k67, hc.k68, hc.k69, hc.k70, hc.k71, hc.n6, hc.n7, hc.n8, hc.n9, hc.n11, hc.n12, hc.n13, hc.n32, hc.n41, hc.n42, hc.n43, hc.n60, hc.n61, hc.n62, hc.n63, hc.n64, hc.n65, hc.n66, hc.n67, hc.n68, hc.n69, hc.n70, hc.n71, eb, c, er]
      exact e2
theorem c_wF_2 {d w t : Nat} {S rs rm nb : Int → Int} (q : SQ S rm nb t) {M : Int} (hM : 1 ≤ M ∧ M ≤ 12) : ∀ x, -1 ≤ x → x < S 1 → ∀ h, WS h w t S rs rm nb → TCw h S nb t M x (S 2 - 1) → ∃ h', EX (d+3) m_Watcher_countFits 56 [(0, .inr (.inr (68))), (1, .inr (.inr (w))), (3, .inl (M)), (4, .inr (.inr (70))), (5, .inl (tAll S nb t M x (S 2 - 1))), (6, .inl (x))] [] (h) = some (.inl (tAll S nb t M (-1) (S 2 - 1)), h') ∧ TCw h' S nb t M (-1) (S 2 - 1) ∧ Fr p0 h h' := by
  have ga := q.1.a
  have gb := q.1.b
  refine dn_ind (lo := 0) ?_ ?_
  · intro x hx h0 h1 h ws tc
    have ex : x = -1 := by omega
    subst ex
    refine ⟨h, ?_, tc, Fr.rf⟩
    rw [Watcher_countFits_56]
    simp (disch := omega) only [Watcher_countFits_142, wr_id, ix_id, okx, if_pos, if_neg, Int.toNat_of_nonneg, bak_v, bak_n, wr_b01, wr_bt, b01_or, b01_0, b01_1, lc_lt0, lc_gt0, lc_eq0, wl_wr, wr_wr, wl_id, true_and, and_true, true_or, or_true, not_true_eq_false, not_false_eq_true, nc0, nc1, nc2, nc3, nc4, nc5, nc6, nc7, nc8, nc9, nc10, nc11, nc12, nc13, nc14, nc15, nc16, nc17, nc18, nc19, nc20, nc21, nc22, nc23, nc35, nc47, nc59, nc60, nc61, nc73, nc74, nc214, nc215, nc1115, nc2230, nc3345, if_true, if_false, Int.reduceToNat]
  · intro x hx ih h0 h1 h ws tc
    have hw := ws.1.2.1
    have wv := ws.1.2
    obtain ⟨h1', e1, t1, f1⟩ := c_wF_1 (d := d) (w := w) (rs := rs) q hM (x := x) ⟨hx, h1⟩ (S 2 - 1) (by omega) (by omega) h ws tc
    obtain ⟨h2, e2, t2, f2⟩ := ih (by omega) (by omega) h1' (ws.fr f1 p0.ge p0.n8) (fun y s y0 y1 s0 s1 => (t1 y s y0 y1 s0 s1).cg (fun m _ _ => by
        by_cases c3 : x ≤ y
        · rw [if_pos (by omega), if_pos (by omega)]
        · rw [if_neg (by omega), if_neg (by omega)]))
    have tS : tAll S nb t M (x - 1) (S 2 - 1) = tAll S nb t M x (-1) := by
      unfold tAll
      rw [show x - 1 + 1 = x by omega, sm_step (i := x) h1, sm_stop (i := S 2 - 1 + 1) (by omega), show (-1 : Int) + 1 = 0 by omega]
      omega
    rw [tS] at e2
    refine ⟨h2, ?_, t2, f1.tr f2⟩
    rw [Watcher_countFits_56]
    simp (disch := omega) only [Watcher_countFits_61, wr_id, ix_id, okx, if_pos, if_neg, Int.toNat_of_nonneg, bak_v, bak_n, wr_b01, wr_bt, b01_or, b01_0, b01_1, lc_lt0, lc_gt0, lc_eq0, wl_wr, wr_wr, wl_id, true_and, and_true, true_or, or_true, not_true_eq_false, not_false_eq_true, nc0, nc1, nc2, nc3, nc4, nc5, nc6, nc7, nc8, nc9, nc10, nc11, nc12, nc13, nc14, nc15, nc16, nc17, nc18, nc19, nc20, nc21, nc22, nc23, nc35, nc47, nc59, nc60, nc61, nc73, nc74, nc214, nc215, nc1115, nc2230, nc3345, if_true, if_false, Int.reduceToNat, hw.k, hw.r0, hw.r1, hw.r2, hw.r3, hw.r4, hw.k1, hw.k2, hw.k3, hw.k4, hw.k5, hw.n1, hw.n2, hw.n3, hw.n4, hw.n5, wv.f5, wv.f6, wv.f7, wv.f8, wv.f9, wv.f10, wv.f11, wv.f12, wv.f13, wv.f14, wv.pk, wv.qk, wv.hk, wv.rk, e1]
    rw [Watcher_countFits_136, show x + -1 = x - 1 by omega]
    exact e2
theorem tAll_eq {S nb : Int → Int} {t M : Int} (hM : 1 ≤ M) : tAll S nb t M (-1) (S 2 - 1) = Cw S nb t M (-1) (-1) := by
  unfold tAll
  rw [sm_stop (i := S 2 - 1 + 1) (by omega), Int.add_zero, show (-1 : Int) + 1 = 0 by omega]
  unfold Cw Ctr
  rw [show M.toNat = (M - 1).toNat + 1 by omega]
  rfl
def pFi (a k : Nat) : Prop := a = 70 ∨ p68 a k
/-- all that fit; the first table is right, the second empty -/
theorem c_countFits {d w t : Nat} {h : Hp} {S rs rm nb : Int → Int} (q : SQ S rm nb t) {M : Int} (hM : 0 ≤ M ∧ M ≤ 12) (y : RW h w t S rs rm nb) : ∃ h', cal (d+5) m_Watcher_countFits [.inr (.inr (68)), .inr (.inr (w)), .inr (.inr (33 + 2 * t)), .inl (M), .inr (.inr (70))] (h) = some (.inl (Cw S nb t M (-1) (-1)), h') ∧ SV h' S nb t ∧ (1 ≤ M → TCw h' S nb t M (-1) (S 2 - 1) ∧ ∀ k, 1728 ≤ k → k < 3456 → hI h' 70 k = 0) ∧ Fr pFi h h' := by
  have ga := q.1.a
  have gb := q.1.b
  obtain ⟨h1, e1, v1, f1⟩ := c_survey (d := d) q y
  have y1 := y.fr f1 p68.ge
  have hc1 := y1.1.1
  have hw1 := y1.2.1
  have wv1 := y1.2
  have hc := y.1.1
  by_cases cm : M = 0
  · refine ⟨h1, ?_, v1, fun z => by omega, f1.mo (fun a k z => Or.inr z)⟩
    show EX (d+4) m_Watcher_countFits 0 [(0, .inr (.inr (68))), (1, .inr (.inr (w))), (2, .inr (.inr (33 + 2 * t))), (3, .inl (M)), (4, .inr (.inr (70)))] [] (h) = _
    have eC : Cw S nb t M (-1) (-1) = b01 (shB nb t 0 (S 2 - 1) (-2) = true) := by
      subst cm
      simp [Cw, Ctr, cnt, BB]
    rw [eC]
    simp (disch := omega) only [Watcher_countFits_0, Watcher_countFits_6, wr_id, ix_id, okx, if_pos, if_neg, Int.toNat_of_nonneg, bak_v, bak_n, wr_b01, wr_bt, b01_or, b01_0, b01_1, lc_lt0, lc_gt0, lc_eq0, wl_wr, wr_wr, wl_id, true_and, and_true, true_or, or_true, not_true_eq_false, not_false_eq_true, nc0, nc1, nc2, nc3, nc4, nc5, nc6, nc7, nc8, nc9, nc10, nc11, nc12, nc13, nc14, nc15, nc16, nc17, nc18, nc19, nc20, nc21, nc22, nc23, nc35, nc47, nc59, nc60, nc61, nc73, nc74, nc214, nc215, nc1115, nc2230, nc3345, if_true, if_false, Int.reduceToNat, hc.k6, hc.r5, hc.r6, hc.r0, hc.r2, hc.r7, hc.r8, hc.r9, hc.r10, hc.r11, hc.r12, hc.r13, hc.r14, hc.r15, hc.r16, hc.r17, hc.r18, hc.r8_0, hc.r8_1, hc.r11_0, hc.r11_1, hc.r60_0, hc.r60_1, hc.r60_4, hc.r64_0, hc.r64_3, hc.r64_4, hc.r68_0, hc.r41_0, hc.r41_1, hc.r42_0, hc.r42_1, hc.k7, hc.k8, hc.k9, hc.k11, hc.k12, hc.k13, hc.k32, hc.k41, hc.k42, hc.k43, hc.k60, hc.k61, hc.k62, hc.k63, hc.k64, hc.k65, hc.k66, hc.k67, hc.k68, hc.k69, hc.k70, hc.k71, hc.n6, hc.n7, hc.n8, hc.n9, hc.n11, hc.n12, hc.n13, hc.n32, hc.n41, hc.n42, hc.n43, hc.n60, hc.n61, hc.n62, hc.n63, hc.n64, hc.n65, hc.n66, hc.n67, hc.n68, hc.n69, hc.n70, hc.n71, e1, cm]
    have hc := hc1
    have hw := hw1
    have wv := wv1
    by_cases c2 : S 2 = 0
    · have b1 : b01 (shB nb t 0 (S 2 - 1) (-2) = true) = 1 := by unfold b01; rw [if_pos ((shB_iff (by omega) (Int.le_refl 0)).mpr (fun z z0 z1 => by omega))]
      rw [b1]
      simp (disch := omega) only [Watcher_countFits_10, Watcher_countFits_33, Watcher_countFits_38, wr_id, ix_id, okx, if_pos, if_neg, Int.toNat_of_nonneg, bak_v, bak_n, wr_b01, wr_bt, b01_or, b01_0, b01_1, lc_lt0, lc_gt0, lc_eq0, wl_wr, wr_wr, wl_id, true_and, and_true, true_or, or_true, not_true_eq_false, not_false_eq_true, nc0, nc1, nc2, nc3, nc4, nc5, nc6, nc7, nc8, nc9, nc10, nc11, nc12, nc13, nc14, nc15, nc16, nc17, nc18, nc19, nc20, nc21, nc22, nc23, nc35, nc47, nc59, nc60, nc61, nc73, nc74, nc214, nc215, nc1115, nc2230, nc3345, if_true, if_false, Int.reduceToNat, hc.k6, hc.r5, hc.r6, hc.r0, hc.r2, hc.r7, hc.r8, hc.r9, hc.r10, hc.r11, hc.r12, hc.r13, hc.r14, hc.r15, hc.r16, hc.r17, hc.r18, hc.r8_0, hc.r8_1, hc.r11_0, hc.r11_1, hc.r60_0, hc.r60_1, hc.r60_4, hc.r64_0, hc.r64_3, hc.r64_4, hc.r68_0, hc.r41_0, hc.r41_1, hc.r42_0, hc.r42_1, hc.k7, hc.k8, hc.k9, hc.k11, hc.k12, hc.k13, hc.k32, hc.k41, hc.k42, hc.k43, hc.k60, hc.k61, hc.k62, hc.k63, hc.k64, hc.k65, hc.k66, hc.k67, hc.k68, hc.k69, hc.k70, hc.k71, hc.n6, hc.n7, hc.n8, hc.n9, hc.n11, hc.n12, hc.n13, hc.n32, hc.n41, hc.n42, hc.n43, hc.n60, hc.n61, hc.n62, hc.n63, hc.n64, hc.n65, hc.n66, hc.n67, hc.n68, hc.n69, hc.n70, hc.n71, hw.k, hw.r0, hw.r1, hw.r2, hw.r3, hw.r4, hw.k1, hw.k2, hw.k3, hw.k4, hw.k5, hw.n1, hw.n2, hw.n3, hw.n4, hw.n5, wv.f5, wv.f6, wv.f7, wv.f8, wv.f9, wv.f10, wv.f11, wv.f12, wv.f13, wv.f14, wv.pk, wv.qk, wv.hk, wv.rk, c2]
    · have eh := c_has (d := d + 3) (h := h1) (v := hI h1 68 1) (r := S 2 - 1) (by omega) (by omega)
      rw [v1.1 (S 2 - 1) (by omega) (by omega)] at eh
      by_cases co : shB nb t 0 (S 2 - 1) (-2) = true
      · have b1 : b01 (shB nb t 0 (S 2 - 1) (-2) = true) = 1 := by unfold b01; rw [if_pos co]
        rw [b1] at eh ⊢
        simp (disch := omega) only [Watcher_countFits_10, Watcher_countFits_17, Watcher_countFits_30, Watcher_countFits_33, Watcher_countFits_38, wr_id, ix_id, okx, if_pos, if_neg, Int.toNat_of_nonneg, bak_v, bak_n, wr_b01, wr_bt, b01_or, b01_0, b01_1, lc_lt0, lc_gt0, lc_eq0, wl_wr, wr_wr, wl_id, true_and, and_true, true_or, or_true, not_true_eq_false, not_false_eq_true, nc0, nc1, nc2, nc3, nc4, nc5, nc6, nc7, nc8, nc9, nc10, nc11, nc12, nc13, nc14, nc15, nc16, nc17, nc18, nc19, nc20, nc21, nc22, nc23, nc35, nc47, nc59, nc60, nc61, nc73, nc74, nc214, nc215, nc1115, nc2230, nc3345, if_true, if_false, Int.reduceToNat, hc.k6, hc.r5, hc.r6, hc.r0, hc.r2, hc.r7, hc.r8, hc.r9, hc.r10, hc.r11, hc.r12, hc.r13, hc.r14, hc.r15, hc.r16, hc.r17, hc.r18, hc.r8_0, hc.r8_1, hc.r11_0, hc.r11_1, hc.r60_0, hc.r60_1, hc.r60_4, hc.r64_0, hc.r64_3, hc.r64_4, hc.r68_0, hc.r41_0, hc.r41_1, hc.r42_0, hc.r42_1, hc.k7, hc.k8, hc.k9, hc.k11, hc.k12, hc.k13, hc.k32, hc.k41, hc.k42, hc.k43, hc.k60, hc.k61, hc.k62, hc.k63, hc.k64, hc.k65, hc.k66, hc.k67, hc.k68, hc.k69, hc.k70, hc.k71, hc.n6, hc.n7, hc.n8, hc.n9, hc.n11, hc.n12, hc.n13, hc.n32, hc.n41, hc.n42, hc.n43, hc.n60, hc.n61, hc.n62, hc.n63, hc.n64, hc.n65, hc.n66, hc.n67, hc.n68, hc.n69, hc.n70, hc.n71, hw.k, hw.r0, hw.r1, hw.r2, hw.r3, hw.r4, hw.k1, hw.k2, hw.k3, hw.k4, hw.k5, hw.n1, hw.n2, hw.n3, hw.n4, hw.n5, wv.f5, wv.f6, wv.f7, wv.f8, wv.f9, wv.f10, wv.f11, wv.f12, wv.f13, wv.f14, wv.pk, wv.qk, wv.hk, wv.rk, eh]
      · have b1 : b01 (shB nb t 0 (S 2 - 1) (-2) = true) = 0 := by unfold b01; rw [if_neg co]
        rw [b1] at eh ⊢
        simp (disch := omega) only [Watcher_countFits_10, Watcher_countFits_17, Watcher_countFits_30, Watcher_countFits_37, Watcher_countFits_38, wr_id, ix_id, okx, if_pos, if_neg, Int.toNat_of_nonneg, bak_v, bak_n, wr_b01, wr_bt, b01_or, b01_0, b01_1, lc_lt0, lc_gt0, lc_eq0, wl_wr, wr_wr, wl_id, true_and, and_true, true_or, or_true, not_true_eq_false, not_false_eq_true, nc0, nc1, nc2, nc3, nc4, nc5, nc6, nc7, nc8, nc9, nc10, nc11, nc12, nc13, nc14, nc15, nc16, nc17, nc18, nc19, nc20, nc21, nc22, nc23, nc35, nc47, nc59, nc60, nc61, nc73, nc74, nc214, nc215, nc1115, nc2230, nc3345, if_true, if_false, Int.reduceToNat, hc.k6, hc.r5, hc.r6, hc.r0, hc.r2, hc.r7, hc.r8, hc.r9, hc.r10, hc.r11, hc.r12, hc.r13, hc.r14, hc.r15, hc.r16, hc.r17, hc.r18, hc.r8_0, hc.r8_1, hc.r11_0, hc.r11_1, hc.r60_0, hc.r60_1, hc.r60_4, hc.r64_0, hc.r64_3, hc.r64_4, hc.r68_0, hc.r41_0, hc.r41_1, hc.r42_0, hc.r42_1, hc.k7, hc.k8, hc.k9, hc.k11, hc.k12, hc.k13, hc.k32, hc.k41, hc.k42, hc.k43, hc.k60, hc.k61, hc.k62, hc.k63, hc.k64, hc.k65, hc.k66, hc.k67, hc.k68, hc.k69, hc.k70, hc.k71, hc.n6, hc.n7, hc.n8, hc.n9, hc.n11, hc.n12, hc.n13, hc.n32, hc.n41, hc.n42, hc.n43, hc.n60, hc.n61, hc.n62, hc.n63, hc.n64, hc.n65, hc.n66, hc.n67, hc.n68, hc.n69, hc.n70, hc.n71, hw.k, hw.r0, hw.r1, hw.r2, hw.r3, hw.r4, hw.k1, hw.k2, hw.k3, hw.k4, hw.k5, hw.n1, hw.n2, hw.n3, hw.n4, hw.n5, wv.f5, wv.f6, wv.f7, wv.f8, wv.f9, wv.f10, wv.f11, wv.f12, wv.f13, wv.f14, wv.pk, wv.qk, wv.hk, wv.rk, eh]
  · have eA := fill_s (d + 3) 70 0 h1 hc1.k70 (by rw [hc1.n70]; omega)
    rw [hc1.n70] at eA
    have f2 : Fr (fun a _ => a = 70) h1 (flI h1 70 0 3456) := Fr.flI Fr.rf (fun k _ => rfl)
    have ws2 : WS (flI h1 70 0 3456) w t S rs rm nb := WS.fr ⟨y1, v1⟩ f2 (fun a k z => by omega) (fun a k z => by omega)
    obtain ⟨h3, e3, t3, f3⟩ := c_wF_2 (d := d + 1) (w := w) (rs := rs) q (M := M) (by omega) (S 1 - 1) (by omega) (by omega) _ ws2 (fun y s y0 y1 s0 s1 m m0 m1 => by
      dsimp only
      rw [if_neg (by omega), hI_flI, if_pos (by omega)])
    have tz : tAll S nb t M (S 1 - 1) (S 2 - 1) = 0 := by
      unfold tAll
      rw [sm_stop (i := S 1 - 1 + 1) (by omega), sm_stop (i := S 2 - 1 + 1) (by omega)]
      rfl
    rw [tz, tAll_eq (by omega)] at e3
    refine ⟨h3, ?_, ws2.2.fr f3 p0.n8, fun _ => ⟨t3, fun k k0 k1 => by rw [f3.I (by unfold p0; omega), hI_flI, if_pos (by omega)]⟩, ((f1.mo (fun a k z => Or.inr z)).tr (f2.mo (fun a k z => Or.inl z))).tr (f3.mo (fun a k z => Or.inl z.1))⟩
    show EX (d+4) m_Watcher_countFits 0 [(0, .inr (.inr (68))), (1, .inr (.inr (w))), (2, .inr (.inr (33 + 2 * t))), (3, .inl (M)), (4, .inr (.inr (70)))] [] (h) = _
    simp (disch := omega) only [Watcher_countFits_0, Watcher_countFits_6, wr_id, ix_id, okx, if_pos, if_neg, Int.toNat_of_nonneg, bak_v, bak_n, wr_b01, wr_bt, b01_or, b01_0, b01_1, lc_lt0, lc_gt0, lc_eq0, wl_wr, wr_wr, wl_id, true_and, and_true, true_or, or_true, not_true_eq_false, not_false_eq_true, nc0, nc1, nc2, nc3, nc4, nc5, nc6, nc7, nc8, nc9, nc10, nc11, nc12, nc13, nc14, nc15, nc16, nc17, nc18, nc19, nc20, nc21, nc22, nc23, nc35, nc47, nc59, nc60, nc61, nc73, nc74, nc214, nc215, nc1115, nc2230, nc3345, if_true, if_false, Int.reduceToNat, hc.k6, hc.r5, hc.r6, hc.r0, hc.r2, hc.r7, hc.r8, hc.r9, hc.r10, hc.r11, hc.r12, hc.r13, hc.r14, hc.r15, hc.r16, hc.r17, hc.r18, hc.r8_0, hc.r8_1, hc.r11_0, hc.r11_1, hc.r60_0, hc.r60_1, hc.r60_4, hc.r64_0, hc.r64_3, hc.r64_4, hc.r68_0, hc.r41_0, hc.r41_1, hc.r42_0, hc.r42_1, hc.k7, hc.k8, hc.k9, hc.k11, hc.k12, hc.k13, hc.k32, hc.k41, hc.k42, hc.k43, hc.k60, hc.k61, hc.k62, hc.k63, hc.k64, hc.k65, hc.k66, hc.k67, hc.k68, hc.k69, hc.k70, hc.k71, hc.n6, hc.n7, hc.n8, hc.n9, hc.n11, hc.n12, hc.n13, hc.n32, hc.n41, hc.n42, hc.n43, hc.n60, hc.n61, hc.n62, hc.n63, hc.n64, hc.n65, hc.n66, hc.n67, hc.n68, hc.n69, hc.n70, hc.n71, e1]
    have hw2 := ws2.1.2.1
    simp (disch := omega) only [Watcher_countFits_39, wr_id, ix_id, okx, if_pos, if_neg, Int.toNat_of_nonneg, bak_v, bak_n, wr_b01, wr_bt, b01_or, b01_0, b01_1, lc_lt0, lc_gt0, lc_eq0, wl_wr, wr_wr, wl_id, true_and, and_true, true_or, or_true, not_true_eq_false, not_false_eq_true, nc0, nc1, nc2, nc3, nc4, nc5, nc6, nc7, nc8, nc9, nc10, nc11, nc12, nc13, nc14, nc15, nc16, nc17, nc18, nc19, nc20, nc21, nc22, nc23, nc35, nc47, nc59, nc60, nc61, nc73, nc74, nc214, nc215, nc1115, nc2230, nc3345, if_true, if_false, Int.reduceToNat, eA]
    rw [Watcher_countFits_45, if_pos hw2.k, ws2.1.2.f5]
    exact e3
