/-! the law: class and model answer alike, call by call -/
theorem i32_rng (x : Int32) : -2147483648 ≤ x.toInt ∧ x.toInt ≤ 2147483647 := by
  have h1 := x.le_toInt
  have h2 := x.toInt_lt
  omega
theorem lOr_rng (a b : Int) : -9223372036854775808 ≤ lOr a b ∧ lOr a b ≤ 9223372036854775807 := by
  have h1 := (Int64.ofInt a ||| Int64.ofInt b).le_toInt
  have h2 := (Int64.ofInt a ||| Int64.ofInt b).toInt_lt
  unfold lOr
  omega
def LVs (h : Hp) (L : Nat) (xs : Nat → Int32) : Prop := sK h 1 = 30 ∧ sN h 1 = L ∧ ∀ j : Nat, hI h 1 j = (xs j).toInt
def INV (sh : List (Nat × Nat)) (L : Nat) (xs : Nat → Int32) (h : Hp) : Prop := h.1 = sh ∧ LVs h L xs ∧ ∃ w S G T rs rm nb n fk fp, CB h w S G T rs rm nb n fk fp ∧ MB h S G T rs rm nb n fk fp ∧ PI S G T rs rm nb n
def OKh (h h1 : Hp) : Prop := (∀ a, sK h1 a = sK h a) ∧ (∀ a, sN h1 a = sN h a) ∧ ∀ j, hI h1 1 j = hI h 1 j
def BothI (sh : List (Nat × Nat)) (L : Nat) (xs : Nat → Int32) (h : Hp) (mc mm : Nat) (as : List AV) : Prop := ∃ h1 h2 z, cal 200 mc (.inr (.inr 6) :: as) h = some (.inl z, h1) ∧ cal 200 mm (.inr (.inr 72) :: as) h1 = some (.inl z, h2) ∧ OKh h h1 ∧ INV sh L xs h2
def BothL (sh : List (Nat × Nat)) (L : Nat) (xs : Nat → Int32) (h : Hp) (mc mm : Nat) (as : List AV) : Prop := ∃ h1 h2 z, cal 200 mc (.inr (.inr 6) :: as) h = some (.inr (.inl z), h1) ∧ cal 200 mm (.inr (.inr 72) :: as) h1 = some (.inr (.inl z), h2) ∧ OKh h h1 ∧ INV sh L xs h2
theorem Fc.ok {h h1 : Hp} (f : Fc h h1) : OKh h h1 := ⟨sK_eq f.1, sN_eq f.1, fun j => (f.2 1 (Or.inl (by omega)) j).1⟩
theorem mkI {sh : List (Nat × Nat)} {L : Nat} {xs : Nat → Int32} {h h1 h2 : Hp} {w : Nat} {S G T rs rm nb : Int → Int} {n fk fp : Int} (e : h.1 = sh) (lv : LVs h L xs) (fc : Fc h h1) (cb : CB h1 w S G T rs rm nb n fk fp) {p : Nat → Nat → Prop} (f : Fr p h1 h2) (hp : ∀ a k, p a k → 72 ≤ a) (mb : MB h2 S G T rs rm nb n fk fp) (pi : PI S G T rs rm nb n) : INV sh L xs h2 := by
  have ok := fc.ok
  refine ⟨by rw [f.1, fc.1]; exact e, ⟨by rw [f.K, ok.1]; exact lv.1, by rw [f.N, ok.2.1]; exact lv.2.1, fun j => by rw [f.I (fun z => by have := hp _ _ z; omega), ok.2.2]; exact lv.2.2 j⟩, w, S, G, T, rs, rm, nb, n, fk, fp, cb.fm f hp, mb, pi⟩
theorem CB.qk {h h' : Hp} {w : Nat} {S G T rs rm nb : Int → Int} {n fk fp : Int} (c : CB h w S G T rs rm nb n fk fp) {p : Nat → Nat → Prop} (f : Fr p h h') (hp : ∀ a k, p a k → 64 ≤ a ∧ a ≤ 71 ∧ ¬ (a = 67 ∧ k = 0)) : CB h' w S G T rs rm nb n fk fp := c.fr f (fun a k z => by have := hp a k z; unfold pQ; omega) (c.1.2.2.2.2.2.fr f (fun a k z => by have := hp a k z; omega))
theorem pSn.q {w a k : Nat} (z : pSn a k) : pQ w a k := by unfold pSn pJ pFi p68 at z; unfold pQ; omega

theorem op_fault {sh : List (Nat × Nat)} {L : Nat} {xs : Nat → Int32} {h : Hp} (iv : INV sh L xs h) {u : Int} (ru : -2147483648 ≤ u ∧ u ≤ 2147483647) : BothI sh L xs h m_Hook_fault m_Mod_fault [.inl u] := by
  obtain ⟨e, lv, w, S, G, T, rs, rm, nb, n, fk, fp, cb, mb, pi⟩ := iv
  have g := pi.1.1
  have lo := pi.1.2
  have tg := pi.2.2.2.1
  have h73 := pi.2.1.1
  have e1 := cc_fault (d := 199) cb ru
  have fc : Fc h h := Fc.rf
  obtain ⟨h2, e2, mb2, f2⟩ := mm_fault (d := 199) mb ru
  exact ⟨h, h2, _, e1, e2, fc.ok, mkI e lv fc cb f2 (fun a k z => z.lt) mb2 (pi)⟩
theorem op_hook {sh : List (Nat × Nat)} {L : Nat} {xs : Nat → Int32} {h : Hp} (iv : INV sh L xs h) {x u : Int} (rx : -2147483648 ≤ x ∧ x ≤ 2147483647) (ru : -2147483648 ≤ u ∧ u ≤ 2147483647) : BothI sh L xs h m_Hook_hook m_Mod_hook [.inl x, .inl u] := by
  obtain ⟨e, lv, w, S, G, T, rs, rm, nb, n, fk, fp, cb, mb, pi⟩ := iv
  have g := pi.1.1
  have lo := pi.1.2
  have tg := pi.2.2.2.1
  have h73 := pi.2.1.1
  have e1 := cc_hook (d := 196) cb g rx ru
  have fc : Fc h h := Fc.rf
  obtain ⟨h2, e2, mb2, f2⟩ := mm_hook (d := 196) mb g lo rx ru
  exact ⟨h, h2, _, e1, e2, fc.ok, mkI e lv fc cb f2 (fun a k z => z.lt) mb2 (pi)⟩
theorem op_ring {sh : List (Nat × Nat)} {L : Nat} {xs : Nat → Int32} {h : Hp} (iv : INV sh L xs h) {x u : Int} (rx : -2147483648 ≤ x ∧ x ≤ 2147483647) (ru : -2147483648 ≤ u ∧ u ≤ 2147483647) : BothI sh L xs h m_Hook_ring m_Mod_ring [.inl x, .inl u] := by
  obtain ⟨e, lv, w, S, G, T, rs, rm, nb, n, fk, fp, cb, mb, pi⟩ := iv
  have g := pi.1.1
  have lo := pi.1.2
  have tg := pi.2.2.2.1
  have h73 := pi.2.1.1
  have e1 := cc_ring (d := 196) cb g rx ru
  have fc : Fc h h := Fc.rf
  obtain ⟨h2, e2, mb2, f2⟩ := mm_ring (d := 196) mb g rx ru
  exact ⟨h, h2, _, e1, e2, fc.ok, mkI e lv fc cb f2 (fun a k z => z.lt) mb2 (pi)⟩
theorem op_belongs {sh : List (Nat × Nat)} {L : Nat} {xs : Nat → Int32} {h : Hp} (iv : INV sh L xs h) {x y : Int} (rx : -2147483648 ≤ x ∧ x ≤ 2147483647) (ry : -2147483648 ≤ y ∧ y ≤ 2147483647) : BothI sh L xs h m_Hook_belongs m_Mod_belongs [.inl x, .inl y] := by
  obtain ⟨e, lv, w, S, G, T, rs, rm, nb, n, fk, fp, cb, mb, pi⟩ := iv
  have g := pi.1.1
  have lo := pi.1.2
  have tg := pi.2.2.2.1
  have h73 := pi.2.1.1
  have e1 := cc_belongs (d := 196) cb g rx ry
  have fc : Fc h h := Fc.rf
  obtain ⟨h2, e2, mb2, f2⟩ := mm_belongs (d := 196) mb g lo rx ry
  exact ⟨h, h2, _, e1, e2, fc.ok, mkI e lv fc cb f2 (fun a k z => z.lt) mb2 (pi)⟩
theorem op_sags {sh : List (Nat × Nat)} {L : Nat} {xs : Nat → Int32} {h : Hp} (iv : INV sh L xs h) {u : Int} (ru : -2147483648 ≤ u ∧ u ≤ 2147483647) : BothI sh L xs h m_Hook_sags m_Mod_sags [.inl u] := by
  obtain ⟨e, lv, w, S, G, T, rs, rm, nb, n, fk, fp, cb, mb, pi⟩ := iv
  have g := pi.1.1
  have lo := pi.1.2
  have tg := pi.2.2.2.1
  have h73 := pi.2.1.1
  have e1 := cc_sags (d := 195) cb g ru
  have fc : Fc h h := Fc.rf
  obtain ⟨h2, e2, mb2, f2⟩ := mm_sags (d := 196) mb g lo ru
  exact ⟨h, h2, _, e1, e2, fc.ok, mkI e lv fc cb f2 (fun a k z => z.lt) mb2 (pi)⟩
theorem op_why {sh : List (Nat × Nat)} {L : Nat} {xs : Nat → Int32} {h : Hp} (iv : INV sh L xs h) {x y : Int} (rx : -2147483648 ≤ x ∧ x ≤ 2147483647) (ry : -2147483648 ≤ y ∧ y ≤ 2147483647) : BothI sh L xs h m_Hook_why m_Mod_why [.inl x, .inl y] := by
  obtain ⟨e, lv, w, S, G, T, rs, rm, nb, n, fk, fp, cb, mb, pi⟩ := iv
  have g := pi.1.1
  have lo := pi.1.2
  have tg := pi.2.2.2.1
  have h73 := pi.2.1.1
  have e1 := cc_why (d := 196) cb g rx ry
  have fc : Fc h h := Fc.rf
  obtain ⟨h2, e2, mb2, f2⟩ := mm_why (d := 197) mb g rx ry
  exact ⟨h, h2, _, e1, e2, fc.ok, mkI e lv fc cb f2 (fun a k z => z.lt) mb2 (pi)⟩
theorem op_join {sh : List (Nat × Nat)} {L : Nat} {xs : Nat → Int32} {h : Hp} (iv : INV sh L xs h) {x y : Int} (rx : -2147483648 ≤ x ∧ x ≤ 2147483647) (ry : -2147483648 ≤ y ∧ y ≤ 2147483647) : BothI sh L xs h m_Hook_join m_Mod_join [.inl x, .inl y] := by
  obtain ⟨e, lv, w, S, G, T, rs, rm, nb, n, fk, fp, cb, mb, pi⟩ := iv
  have g := pi.1.1
  have lo := pi.1.2
  have tg := pi.2.2.2.1
  have h73 := pi.2.1.1
  obtain ⟨h1, e1, cb1, f1⟩ := cc_join (d := 195) cb g rx ry
  have fc : Fc h h1 := f1.fc (fun a k z => by unfold pDd at z; omega)
  have mb1 := mb.fc fc
  obtain ⟨h2, e2, mb2, f2⟩ := mm_join (d := 195) mb1 g h73 rx ry
  exact ⟨h1, h2, _, e1, e2, fc.ok, mkI e lv fc cb1 f2 (fun a k z => z.lt) mb2 (pi.join)⟩
theorem op_unhook {sh : List (Nat × Nat)} {L : Nat} {xs : Nat → Int32} {h : Hp} (iv : INV sh L xs h) {x : Int} (rx : -2147483648 ≤ x ∧ x ≤ 2147483647) : BothI sh L xs h m_Hook_unhook m_Mod_unhook [.inl x] := by
  obtain ⟨e, lv, w, S, G, T, rs, rm, nb, n, fk, fp, cb, mb, pi⟩ := iv
  have g := pi.1.1
  have lo := pi.1.2
  have tg := pi.2.2.2.1
  have h73 := pi.2.1.1
  obtain ⟨h1, e1, cb1, f1⟩ := cc_unhook (d := 195) cb g rx
  have fc : Fc h h1 := f1.fc (fun a k z => by unfold pDd at z; omega)
  have mb1 := mb.fc fc
  obtain ⟨h2, e2, mb2, f2⟩ := mm_unhook (d := 195) mb1 g h73 rx
  exact ⟨h1, h2, _, e1, e2, fc.ok, mkI e lv fc cb1 f2 (fun a k z => z.lt) mb2 (pi.off)⟩
theorem op_undo {sh : List (Nat × Nat)} {L : Nat} {xs : Nat → Int32} {h : Hp} (iv : INV sh L xs h) {x : Int} (rx : -2147483648 ≤ x ∧ x ≤ 2147483647) : BothI sh L xs h m_Hook_undo m_Mod_undo [.inl x] := by
  obtain ⟨e, lv, w, S, G, T, rs, rm, nb, n, fk, fp, cb, mb, pi⟩ := iv
  have g := pi.1.1
  have lo := pi.1.2
  have tg := pi.2.2.2.1
  have h73 := pi.2.1.1
  obtain ⟨h1, e1, cb1, f1⟩ := cc_undo (d := 197) cb g rx
  have fc : Fc h h1 := f1.fc (fun a k z => by unfold pDd at z; omega)
  have mb1 := mb.fc fc
  obtain ⟨h2, e2, mb2, f2⟩ := mm_undo (d := 198) mb1 h73 rx
  exact ⟨h1, h2, _, e1, e2, fc.ok, mkI e lv fc cb1 f2 (fun a k z => z.lt) mb2 (pi.undo)⟩
theorem op_judge {sh : List (Nat × Nat)} {L : Nat} {xs : Nat → Int32} {h : Hp} (iv : INV sh L xs h) {t u : Int} (rt : -2147483648 ≤ t ∧ t ≤ 2147483647) (ru : -2147483648 ≤ u ∧ u ≤ 2147483647) : BothI sh L xs h m_Hook_judge m_Mod_judge [.inl t, .inl u] := by
  obtain ⟨e, lv, w, S, G, T, rs, rm, nb, n, fk, fp, cb, mb, pi⟩ := iv
  have g := pi.1.1
  have lo := pi.1.2
  have tg := pi.2.2.2.1
  have h73 := pi.2.1.1
  obtain ⟨h1, e1, cb1, f1⟩ := cc_judge (d := 193) cb g tg rt ru
  have fc : Fc h h1 := f1.fc (fun a k z => by unfold pDd at z; omega)
  have mb1 := mb.fc fc
  obtain ⟨h2, e2, mb2, f2⟩ := mm_judge (d := 193) mb1 g tg rt ru
  exact ⟨h1, h2, _, e1, e2, fc.ok, mkI e lv fc cb1 f2 (fun a k z => z.lt) mb2 (pi)⟩
theorem op_perform {sh : List (Nat × Nat)} {L : Nat} {xs : Nat → Int32} {h : Hp} (iv : INV sh L xs h) {t : Int} (rt : -2147483648 ≤ t ∧ t ≤ 2147483647) : BothI sh L xs h m_Hook_perform m_Mod_perform [.inl t] := by
  obtain ⟨e, lv, w, S, G, T, rs, rm, nb, n, fk, fp, cb, mb, pi⟩ := iv
  have g := pi.1.1
  have lo := pi.1.2
  have tg := pi.2.2.2.1
  have h73 := pi.2.1.1
  obtain ⟨h1, e1, cb1, f1⟩ := cc_perform (d := 193) cb g tg rt
  have fc : Fc h h1 := f1.fc (fun a k z => by unfold pDd at z; omega)
  have mb1 := mb.fc fc
  obtain ⟨h2, e2, mb2, f2⟩ := mm_perform (d := 193) mb1 g tg h73 rt
  exact ⟨h1, h2, _, e1, e2, fc.ok, mkI e lv fc cb1 f2 (fun a k z => z.lt) mb2 (pi.perf)⟩
theorem op_day {sh : List (Nat × Nat)} {L : Nat} {xs : Nat → Int32} {h : Hp} (iv : INV sh L xs h) {x k : Int} (rx : -2147483648 ≤ x ∧ x ≤ 2147483647) (rk : -2147483648 ≤ k ∧ k ≤ 2147483647) : BothI sh L xs h m_Hook_day m_Mod_day [.inl x, .inl k] := by
  obtain ⟨e, lv, w, S, G, T, rs, rm, nb, n, fk, fp, cb, mb, pi⟩ := iv
  have g := pi.1.1
  have lo := pi.1.2
  have tg := pi.2.2.2.1
  have h73 := pi.2.1.1
  obtain ⟨h1, e1, cb1, f1⟩ := cc_day (d := 194) (x := x) cb g rk
  have fc : Fc h h1 := f1.fc (fun a k z => by unfold pDd at z; omega)
  have mb1 := mb.fc fc
  obtain ⟨h2, e2, mb2, f2⟩ := mm_day (d := 195) (x := x) mb1 g h73 rk
  exact ⟨h1, h2, _, e1, e2, fc.ok, mkI e lv fc cb1 f2 (fun a k z => z.lt) mb2 (pi.day)⟩
theorem op_undoing {sh : List (Nat × Nat)} {L : Nat} {xs : Nat → Int32} {h : Hp} (iv : INV sh L xs h) {x : Int} (rx : -2147483648 ≤ x ∧ x ≤ 2147483647) : BothI sh L xs h m_Hook_undoing m_Mod_undoing [.inl x] := by
  obtain ⟨e, lv, w, S, G, T, rs, rm, nb, n, fk, fp, cb, mb, pi⟩ := iv
  have g := pi.1.1
  have lo := pi.1.2
  have tg := pi.2.2.2.1
  have h73 := pi.2.1.1
  have e1 := cc_undoing (d := 196) g ⟨cb.1.1, cb.1.2.1, cb.1.2.2.1, cb.1.2.2.2.1⟩ rx
  have fc : Fc h h := Fc.rf
  obtain ⟨h2, e2, mb2, f2⟩ := mm_undoing (d := 195) mb g rx
  exact ⟨h, h2, _, e1, e2, fc.ok, mkI e lv fc cb f2 (fun a k z => z.lt) mb2 (pi)⟩
theorem op_joinings {sh : List (Nat × Nat)} {L : Nat} {xs : Nat → Int32} {h : Hp} (iv : INV sh L xs h) {x : Int} (rx : -2147483648 ≤ x ∧ x ≤ 2147483647) : BothL sh L xs h m_Hook_joinings m_Mod_joinings [.inl x] := by
  obtain ⟨e, lv, w, S, G, T, rs, rm, nb, n, fk, fp, cb, mb, pi⟩ := iv
  have g := pi.1.1
  have lo := pi.1.2
  have tg := pi.2.2.2.1
  have h73 := pi.2.1.1
  obtain ⟨h1, e1, kj1, f1⟩ := cc_joinings (d := 196) g ⟨cb.1.1, cb.1.2.1⟩ cb.1.2.2.2.2.2 rx
  have cb1 := cb.fr f1 (fun a k z => z.q) kj1
  have fc : Fc h h1 := f1.fc (fun a k z => by unfold pEc pJ at z; omega)
  have mb1 := mb.fc fc
  obtain ⟨h2, e2, mb2, f2⟩ := mm_joinings (d := 195) mb1 g tg rx
  exact ⟨h1, h2, _, e1, e2, fc.ok, mkI e lv fc cb1 f2 (fun a k z => z.lt) mb2 (pi)⟩
theorem op_full {sh : List (Nat × Nat)} {L : Nat} {xs : Nat → Int32} {h : Hp} (iv : INV sh L xs h)  : BothI sh L xs h m_Hook_full m_Mod_full [] := by
  obtain ⟨e, lv, w, S, G, T, rs, rm, nb, n, fk, fp, cb, mb, pi⟩ := iv
  have g := pi.1.1
  have lo := pi.1.2
  have tg := pi.2.2.2.1
  have h73 := pi.2.1.1
  obtain ⟨h1, e1, kj1, f1⟩ := cc_full (d := 196) g ⟨cb.1.1, cb.1.2.1⟩ cb.1.2.2.2.2.2
  have cb1 := cb.fr f1 (fun a k z => z.q) kj1
  have fc : Fc h h1 := f1.fc (fun a k z => by unfold pEc pJ at z; omega)
  have mb1 := mb.fc fc
  obtain ⟨h2, e2, mb2, f2⟩ := mm_full (d := 194) mb1 g tg
  exact ⟨h1, h2, _, e1, e2, fc.ok, mkI e lv fc cb1 f2 (fun a k z => z.lt) mb2 (pi)⟩
theorem op_mended {sh : List (Nat × Nat)} {L : Nat} {xs : Nat → Int32} {h : Hp} (iv : INV sh L xs h) {u : Int} (ru : -2147483648 ≤ u ∧ u ≤ 2147483647) : BothI sh L xs h m_Hook_mended m_Mod_mended [.inl u] := by
  obtain ⟨e, lv, w, S, G, T, rs, rm, nb, n, fk, fp, cb, mb, pi⟩ := iv
  have g := pi.1.1
  have lo := pi.1.2
  have tg := pi.2.2.2.1
  have h73 := pi.2.1.1
  obtain ⟨h1, e1, cb1, f1⟩ := cc_mended (d := 193) cb g ru
  have fc : Fc h h1 := f1.fc (fun a k z => by unfold pMn at z; omega)
  have mb1 := mb.fc fc
  obtain ⟨h2, e2, mb2, f2⟩ := mm_mended (d := 194) mb1 g lo tg ru
  exact ⟨h1, h2, _, e1, e2, fc.ok, mkI e lv fc cb1 f2 (fun a k z => z.lt) mb2 (pi)⟩
theorem op_evenest {sh : List (Nat × Nat)} {L : Nat} {xs : Nat → Int32} {h : Hp} (iv : INV sh L xs h) {u : Int} (ru : -2147483648 ≤ u ∧ u ≤ 2147483647) : BothI sh L xs h m_Hook_evenest m_Mod_evenest [.inl u] := by
  obtain ⟨e, lv, w, S, G, T, rs, rm, nb, n, fk, fp, cb, mb, pi⟩ := iv
  have g := pi.1.1
  have lo := pi.1.2
  have tg := pi.2.2.2.1
  have h73 := pi.2.1.1
  obtain ⟨h1, e1, kj1, f1⟩ := cc_evenest (d := 195) g ⟨cb.1.1, cb.1.2.1⟩ cb.1.2.2.2.2.2 ru
  have cb1 := cb.fr f1 (fun a k z => z.q) kj1
  have fc : Fc h h1 := f1.fc (fun a k z => by unfold pEc pJ at z; omega)
  have mb1 := mb.fc fc
  obtain ⟨h2, e2, mb2, f2⟩ := mm_evenest (d := 193) mb1 g tg ru
  exact ⟨h1, h2, _, e1, e2, fc.ok, mkI e lv fc cb1 f2 (fun a k z => z.lt) mb2 (pi)⟩
theorem op_spread {sh : List (Nat × Nat)} {L : Nat} {xs : Nat → Int32} {h : Hp} (iv : INV sh L xs h)  : BothI sh L xs h m_Hook_spread m_Mod_spread [] := by
  obtain ⟨e, lv, w, S, G, T, rs, rm, nb, n, fk, fp, cb, mb, pi⟩ := iv
  have g := pi.1.1
  have lo := pi.1.2
  have tg := pi.2.2.2.1
  have h73 := pi.2.1.1
  obtain ⟨h1, e1, cb1, f1⟩ := cc_spread (d := 195) cb g
  have fc : Fc h h1 := f1.fc (fun a k z => by unfold pSp pEc pJ pDd at z; omega)
  have mb1 := mb.fc fc
  obtain ⟨h2, e2, mb2, f2⟩ := mm_spread (d := 193) mb1 g tg h73
  exact ⟨h1, h2, _, e1, e2, fc.ok, mkI e lv fc cb1 f2 (fun a k z => z.lt) mb2 (pi.spr)⟩
theorem op_fullAt {sh : List (Nat × Nat)} {L : Nat} {xs : Nat → Int32} {h : Hp} (iv : INV sh L xs h) {k z : Int} (rk : -2147483648 ≤ k ∧ k ≤ 2147483647) (rz : -2147483648 ≤ z ∧ z ≤ 2147483647) : BothI sh L xs h m_Hook_fullAt m_Mod_fullAt [.inl k, .inl z] := by
  obtain ⟨e, lv, w, S, G, T, rs, rm, nb, n, fk, fp, cb, mb, pi⟩ := iv
  have g := pi.1.1
  have lo := pi.1.2
  have tg := pi.2.2.2.1
  have h73 := pi.2.1.1
  obtain ⟨h1, e1, kj1, f1⟩ := cc_fullAt (d := 196) g ⟨cb.1.1, cb.1.2.1⟩ cb.1.2.2.2.2.2 rk rz
  have cb1 := cb.fr f1 (fun a k z => z.q) kj1
  have fc : Fc h h1 := f1.fc (fun a k z => by unfold pEc pJ at z; omega)
  have mb1 := mb.fc fc
  obtain ⟨h2, e2, mb2, f2⟩ := mm_fullAt (d := 194) mb1 g tg rk rz
  exact ⟨h1, h2, _, e1, e2, fc.ok, mkI e lv fc cb1 f2 (fun a k z => z.lt) mb2 (pi)⟩
theorem op_looks {sh : List (Nat × Nat)} {L : Nat} {xs : Nat → Int32} {h : Hp} (iv : INV sh L xs h) {t u : Int} (rt : -2147483648 ≤ t ∧ t ≤ 2147483647) (ru : -2147483648 ≤ u ∧ u ≤ 2147483647) : BothI sh L xs h m_Hook_looks m_Mod_looks [.inl t, .inl u] := by
  obtain ⟨e, lv, w, S, G, T, rs, rm, nb, n, fk, fp, cb, mb, pi⟩ := iv
  have g := pi.1.1
  have lo := pi.1.2
  have tg := pi.2.2.2.1
  have h73 := pi.2.1.1
  obtain ⟨h1, e1, f1⟩ := cc_looks (d := 195) cb.1.1 cb.2.1.1 tg rt ru
  have cb1 := cb.qk f1 (fun a k z => by unfold p70 at z; omega)
  have fc : Fc h h1 := f1.fc (fun a k z => by unfold p70 at z; omega)
  have mb1 := mb.fc fc
  obtain ⟨h2, e2, mb2, f2⟩ := mm_looks (d := 196) mb1 tg rt ru
  exact ⟨h1, h2, _, e1, e2, fc.ok, mkI e lv fc cb1 f2 (fun a k z => z.lt) mb2 (pi)⟩
theorem op_rounds {sh : List (Nat × Nat)} {L : Nat} {xs : Nat → Int32} {h : Hp} (iv : INV sh L xs h) {t u : Int} (rt : -2147483648 ≤ t ∧ t ≤ 2147483647) (ru : -2147483648 ≤ u ∧ u ≤ 2147483647) : BothI sh L xs h m_Hook_rounds m_Mod_rounds [.inl t, .inl u] := by
  obtain ⟨e, lv, w, S, G, T, rs, rm, nb, n, fk, fp, cb, mb, pi⟩ := iv
  have g := pi.1.1
  have lo := pi.1.2
  have tg := pi.2.2.2.1
  have h73 := pi.2.1.1
  obtain ⟨h1, e1, f1⟩ := cc_rounds (d := 195) cb.1.1 cb.2.1.1 tg cb.1.2.1 cb.1.2.2.2.1 g rt ru
  have cb1 := cb.qk f1 (fun a k z => by unfold p7x at z; omega)
  have fc : Fc h h1 := f1.fc (fun a k z => by unfold p7x at z; omega)
  have mb1 := mb.fc fc
  obtain ⟨h2, e2, mb2, f2⟩ := mm_rounds (d := 188) mb1 g tg rt ru
  exact ⟨h1, h2, _, e1, e2, fc.ok, mkI e lv fc cb1 f2 (fun a k z => z.lt) mb2 (pi)⟩
theorem op_pleats {sh : List (Nat × Nat)} {L : Nat} {xs : Nat → Int32} {h : Hp} (iv : INV sh L xs h) {u : Int} (ru : -2147483648 ≤ u ∧ u ≤ 2147483647) : BothI sh L xs h m_Hook_pleats m_Mod_pleats [.inl u] := by
  obtain ⟨e, lv, w, S, G, T, rs, rm, nb, n, fk, fp, cb, mb, pi⟩ := iv
  have g := pi.1.1
  have lo := pi.1.2
  have tg := pi.2.2.2.1
  have h73 := pi.2.1.1
  have e1 := cc_pleats (d := 197) cb g ru
  have fc : Fc h h := Fc.rf
  obtain ⟨h2, e2, mb2, f2⟩ := mm_pleats (d := 198) mb g ru
  exact ⟨h, h2, _, e1, e2, fc.ok, mkI e lv fc cb f2 (fun a k z => z.lt) mb2 (pi)⟩
theorem op_average {sh : List (Nat × Nat)} {L : Nat} {xs : Nat → Int32} {h : Hp} (iv : INV sh L xs h) {x u : Int} (rx : -2147483648 ≤ x ∧ x ≤ 2147483647) (ru : -2147483648 ≤ u ∧ u ≤ 2147483647) : BothL sh L xs h m_Hook_average m_Mod_average [.inl x, .inl u] := by
  obtain ⟨e, lv, w, S, G, T, rs, rm, nb, n, fk, fp, cb, mb, pi⟩ := iv
  have g := pi.1.1
  have lo := pi.1.2
  have tg := pi.2.2.2.1
  have h73 := pi.2.1.1
  have e1 := cc_average (d := 196) cb.1.1 cb.1.2.1 g rx ru
  have fc : Fc h h := Fc.rf
  obtain ⟨h2, e2, mb2, f2⟩ := mm_average (d := 118) mb g rx ru
  exact ⟨h, h2, _, e1, e2, fc.ok, mkI e lv fc cb f2 (fun a k z => z.lt) mb2 (pi)⟩
theorem op_bestLook {sh : List (Nat × Nat)} {L : Nat} {xs : Nat → Int32} {h : Hp} (iv : INV sh L xs h)  : BothI sh L xs h m_Hook_bestLook m_Mod_bestLook [] := by
  obtain ⟨e, lv, w, S, G, T, rs, rm, nb, n, fk, fp, cb, mb, pi⟩ := iv
  have g := pi.1.1
  have lo := pi.1.2
  have tg := pi.2.2.2.1
  have h73 := pi.2.1.1
  have e1 := cc_bestLook (d := 196) cb.1.1 cb.1.2.1 g
  have fc : Fc h h := Fc.rf
  obtain ⟨h2, e2, mb2, f2⟩ := mm_bestLook (d := 196) mb g
  exact ⟨h, h2, _, e1, e2, fc.ok, mkI e lv fc cb f2 (fun a k z => z.lt) mb2 (pi)⟩
theorem op_oneOut {sh : List (Nat × Nat)} {L : Nat} {xs : Nat → Int32} {h : Hp} (iv : INV sh L xs h) {k u : Int} (rk : -2147483648 ≤ k ∧ k ≤ 2147483647) (ru : -2147483648 ≤ u ∧ u ≤ 2147483647) : BothI sh L xs h m_Hook_oneOut m_Mod_oneOut [.inl k, .inl u] := by
  obtain ⟨e, lv, w, S, G, T, rs, rm, nb, n, fk, fp, cb, mb, pi⟩ := iv
  have g := pi.1.1
  have lo := pi.1.2
  have tg := pi.2.2.2.1
  have h73 := pi.2.1.1
  have e1 := cc_oneOut (d := 196) cb g rk ru
  have fc : Fc h h := Fc.rf
  obtain ⟨h2, e2, mb2, f2⟩ := mm_oneOut (d := 196) mb g lo rk ru
  exact ⟨h, h2, _, e1, e2, fc.ok, mkI e lv fc cb f2 (fun a k z => z.lt) mb2 (pi)⟩
theorem op_out {sh : List (Nat × Nat)} {L : Nat} {xs : Nat → Int32} {h : Hp} (iv : INV sh L xs h) {x u : Int} (rx : -2147483648 ≤ x ∧ x ≤ 2147483647) (ru : -2147483648 ≤ u ∧ u ≤ 2147483647) : BothI sh L xs h m_Hook_out m_Mod_out [.inl x, .inl u] := by
  obtain ⟨e, lv, w, S, G, T, rs, rm, nb, n, fk, fp, cb, mb, pi⟩ := iv
  have g := pi.1.1
  have lo := pi.1.2
  have tg := pi.2.2.2.1
  have h73 := pi.2.1.1
  have e1 := cc_out (d := 196) cb g rx ru
  have fc : Fc h h := Fc.rf
  obtain ⟨h2, e2, mb2, f2⟩ := mm_out (d := 196) mb g lo rx ru
  exact ⟨h, h2, _, e1, e2, fc.ok, mkI e lv fc cb f2 (fun a k z => z.lt) mb2 (pi)⟩
theorem op_seen {sh : List (Nat × Nat)} {L : Nat} {xs : Nat → Int32} {h : Hp} (iv : INV sh L xs h) {t : Int} (rt : -2147483648 ≤ t ∧ t ≤ 2147483647) : BothL sh L xs h m_Hook_seen m_Mod_seen [.inl t] := by
  obtain ⟨e, lv, w, S, G, T, rs, rm, nb, n, fk, fp, cb, mb, pi⟩ := iv
  have g := pi.1.1
  have lo := pi.1.2
  have tg := pi.2.2.2.1
  have h73 := pi.2.1.1
  obtain ⟨h1, e1, kj1, f1⟩ := cc_seen (d := 194) g ⟨cb.1.1, cb.1.2.1⟩ cb.1.2.2.2.2.2 cb.2.1.1 tg rt
  have cb1 := cb.fr f1 (fun a k z => z.q) kj1
  have fc : Fc h h1 := f1.fc (fun a k z => by unfold pSn pJ pFi p68 at z; omega)
  have mb1 := mb.fc fc
  obtain ⟨h2, e2, mb2, f2⟩ := mm_seen (d := 194) mb1 g tg rt
  exact ⟨h1, h2, _, e1, e2, fc.ok, mkI e lv fc cb1 f2 (fun a k z => z.lt) mb2 (pi)⟩
theorem op_sure {sh : List (Nat × Nat)} {L : Nat} {xs : Nat → Int32} {h : Hp} (iv : INV sh L xs h) {t x : Int} (rt : -2147483648 ≤ t ∧ t ≤ 2147483647) (rx : -2147483648 ≤ x ∧ x ≤ 2147483647) : BothI sh L xs h m_Hook_sure m_Mod_sure [.inl t, .inl x] := by
  obtain ⟨e, lv, w, S, G, T, rs, rm, nb, n, fk, fp, cb, mb, pi⟩ := iv
  have g := pi.1.1
  have lo := pi.1.2
  have tg := pi.2.2.2.1
  have h73 := pi.2.1.1
  obtain ⟨h1, e1, kj1, f1⟩ := cc_sure (d := 194) g ⟨cb.1.1, cb.1.2.1⟩ cb.1.2.2.2.2.2 cb.2.1.1 tg rt rx
  have cb1 := cb.fr f1 (fun a k z => z.q) kj1
  have fc : Fc h h1 := f1.fc (fun a k z => by unfold pSn pJ pFi p68 at z; omega)
  have mb1 := mb.fc fc
  obtain ⟨h2, e2, mb2, f2⟩ := mm_sure (d := 194) mb1 g tg rt rx
  exact ⟨h1, h2, _, e1, e2, fc.ok, mkI e lv fc cb1 f2 (fun a k z => z.lt) mb2 (pi)⟩
theorem op_copy {sh : List (Nat × Nat)} {L : Nat} {xs : Nat → Int32} {h : Hp} (iv : INV sh L xs h) {t : Int} (rt : -2147483648 ≤ t ∧ t ≤ 2147483647) : BothI sh L xs h m_Hook_copy m_Mod_copy [.inl t] := by
  obtain ⟨e, lv, w, S, G, T, rs, rm, nb, n, fk, fp, cb, mb, pi⟩ := iv
  have g := pi.1.1
  have lo := pi.1.2
  have tg := pi.2.2.2.1
  have h73 := pi.2.1.1
  obtain ⟨h1, e1, cb1, f1⟩ := cc_copy (d := 195) cb g tg rt
  have fc : Fc h h1 := f1.fc (fun a k z => by unfold pTs at z; omega)
  have mb1 := mb.fc fc
  obtain ⟨h2, e2, mb2, f2⟩ := mm_copy (d := 196) mb1 g tg rt
  exact ⟨h1, h2, _, e1, e2, fc.ok, mkI e lv fc cb1 f2 (fun a k z => z.lt) mb2 (pi.cp)⟩
theorem op_restore {sh : List (Nat × Nat)} {L : Nat} {xs : Nat → Int32} {h : Hp} (iv : INV sh L xs h) {i : Int} (ri : -2147483648 ≤ i ∧ i ≤ 2147483647) : BothI sh L xs h m_Hook_restore m_Mod_restore [.inl i] := by
  obtain ⟨e, lv, w, S, G, T, rs, rm, nb, n, fk, fp, cb, mb, pi⟩ := iv
  have g := pi.1.1
  have lo := pi.1.2
  have tg := pi.2.2.2.1
  have h73 := pi.2.1.1
  have wd := cb.1.1.wd
  obtain ⟨h1, e1, cb1, f1⟩ := cc_restore (d := 197) cb pi.2.2.1 ri
  have fc : Fc h h1 := f1.fc (fun a k z => by unfold pRs at z; omega)
  have mb1 := mb.fc fc
  obtain ⟨h2, e2, mb2, f2⟩ := mm_restore (d := 198) mb1 (fun i i0 i1 => by have := (pi.2.2.1 i.toNat (by omega)).1; rw [Int.toNat_of_nonneg i0] at this; exact this) ri
  exact ⟨h1, h2, _, e1, e2, fc.ok, mkI e lv fc cb1 f2 (fun a k z => z.lt) mb2 (pi.re)⟩
theorem op_count {sh : List (Nat × Nat)} {L : Nat} {xs : Nat → Int32} {h : Hp} (iv : INV sh L xs h) {u : Int} (ru : -2147483648 ≤ u ∧ u ≤ 2147483647) : BothI sh L xs h m_Hook_count m_Mod_count [.inl u] := by
  obtain ⟨e, lv, w, S, G, T, rs, rm, nb, n, fk, fp, cb, mb, pi⟩ := iv
  have g := pi.1.1
  have lo := pi.1.2
  have tg := pi.2.2.2.1
  have h73 := pi.2.1.1
  have e1 := cc_count (d := 198) cb g ru
  have fc : Fc h h := Fc.rf
  obtain ⟨h2, e2, mb2, f2⟩ := mm_count (d := 197) mb g ru
  exact ⟨h, h2, _, e1, e2, fc.ok, mkI e lv fc cb f2 (fun a k z => z.lt) mb2 (pi)⟩
theorem op_numbers {sh : List (Nat × Nat)} {L : Nat} {xs : Nat → Int32} {h : Hp} (iv : INV sh L xs h) {t s k : Int} (rt : -2147483648 ≤ t ∧ t ≤ 2147483647) (rs' : -2147483648 ≤ s ∧ s ≤ 2147483647) (rk : -2147483648 ≤ k ∧ k ≤ 2147483647) : BothI sh L xs h m_Hook_numbers m_Mod_numbers [.inl t, .inl s, .inl k] := by
  obtain ⟨e, lv, w, S, G, T, rs, rm, nb, n, fk, fp, cb, mb, pi⟩ := iv
  have g := pi.1.1
  have lo := pi.1.2
  have tg := pi.2.2.2.1
  have h73 := pi.2.1.1
  by_cases c : okNum t s k
  · obtain ⟨h1, e1, cb1, f1⟩ := cc_numbers_ok (d := 197) cb tg c
    have fc : Fc h h1 := f1.fc (fun a k z => by unfold pTs at z; omega)
    obtain ⟨h2, e2, mb2, f2⟩ := mm_numbers_ok (d := 198) (mb.fc fc) c
    exact ⟨h1, h2, _, e1, e2, fc.ok, mkI e lv fc cb1 f2 (fun a k z => z.lt) mb2 (pi.num c)⟩
  · have e1 := cc_numbers_no (d := 197) cb rt rs' rk c
    obtain ⟨h2, e2, mb2, f2⟩ := mm_numbers_no (d := 198) mb rt rs' rk c
    exact ⟨h, h2, _, e1, e2, Fc.rf.ok, mkI e lv Fc.rf cb f2 (fun a k z => z.lt) mb2 pi⟩
theorem op_image {sh : List (Nat × Nat)} {L : Nat} {xs : Nat → Int32} {h : Hp} (iv : INV sh L xs h) {i : Int} (ri : -2147483648 ≤ i ∧ i ≤ 2147483647) : BothI sh L xs h m_Hook_image m_Mod_image [.inl i] := by
  obtain ⟨e, lv, w, S, G, T, rs, rm, nb, n, fk, fp, cb, mb, pi⟩ := iv
  have g := pi.1.1
  have lo := pi.1.2
  have tg := pi.2.2.2.1
  have h73 := pi.2.1.1
  by_cases c : 0 ≤ i ∧ i ≤ 1
  · obtain ⟨h1, e1, cb1, f1⟩ := cc_image_ok (d := 197) cb g lo c
    have fc : Fc h h1 := f1.fc (fun a k z => by unfold pIm at z; omega)
    obtain ⟨h2, e2, mb2, f2⟩ := mm_image_ok (d := 198) (mb.fc fc) c
    exact ⟨h1, h2, _, e1, e2, fc.ok, mkI e lv fc cb1 f2 (fun a k z => z.lt) mb2 (pi.im c)⟩
  · have e1 := cc_image_no (d := 197) cb ri c
    obtain ⟨h2, e2, mb2, f2⟩ := mm_image_no (d := 198) mb ri c
    exact ⟨h, h2, _, e1, e2, Fc.rf.ok, mkI e lv Fc.rf cb f2 (fun a k z => z.lt) mb2 pi⟩
theorem op_write {sh : List (Nat × Nat)} {L : Nat} {xs : Nat → Int32} {h : Hp} (iv : INV sh L xs h) {t i v : Int} (rt : -2147483648 ≤ t ∧ t ≤ 2147483647) (ri : -2147483648 ≤ i ∧ i ≤ 2147483647) (rv : -9223372036854775808 ≤ v ∧ v ≤ 9223372036854775807) : BothL sh L xs h m_Hook_write m_Mod_write [.inl t, .inl i, .inr (.inl v)] := by
  obtain ⟨e, lv, w, S, G, T, rs, rm, nb, n, fk, fp, cb, mb, pi⟩ := iv
  have g := pi.1.1
  have lo := pi.1.2
  have tg := pi.2.2.2.1
  have h73 := pi.2.1.1
  obtain ⟨h1, e1, cb1, f1⟩ := cc_write (d := 196) (v := v) cb tg rt ri
  have fc : Fc h h1 := f1.fc (fun a k z => by unfold pTs at z; omega)
  obtain ⟨h2, e2, mb2, f2⟩ := mm_write (d := 197) (v := v) (mb.fc fc) tg rt ri
  exact ⟨h1, h2, _, e1, e2, fc.ok, mkI e lv fc cb1 f2 (fun a k z => z.lt) mb2 (pi.wr rv)⟩
theorem op_feed {sh : List (Nat × Nat)} {L : Nat} {xs : Nat → Int32} {h : Hp} (iv : INV sh L xs h) (a b c e' f : Int) : BothI sh L xs h m_Hook_feed m_Mod_feed [.inl a, .inl b, .inl c, .inl e', .inl f] := by
  obtain ⟨e, lv, w, S, G, T, rs, rm, nb, n, fk, fp, cb, mb, pi⟩ := iv
  have g := pi.1.1
  have lo := pi.1.2
  have tg := pi.2.2.2.1
  have h73 := pi.2.1.1
  have hn := pi.2.2.2.2.2
  obtain ⟨h1, e1, cb1, f1⟩ := cc_feed (d := 198) cb hn a b c e' f
  have fc : Fc h h1 := f1.fc (fun a k z => by unfold pTp at z; omega)
  obtain ⟨h2, e2, mb2, f2⟩ := mm_feed (d := 199) (mb.fc fc) hn a b c e' f
  exact ⟨h1, h2, _, e1, e2, fc.ok, mkI e lv fc cb1 f2 (fun a k z => by omega) mb2 (pi.feed _)⟩
theorem op_window {sh : List (Nat × Nat)} {L : Nat} {xs : Nat → Int32} {h : Hp} (iv : INV sh L xs h) {k : Int} (rk : -2147483648 ≤ k ∧ k ≤ 2147483647) : BothI sh L xs h m_Hook_window m_Mod_window [.inl k] := by
  obtain ⟨e, lv, w, S, G, T, rs, rm, nb, n, fk, fp, cb, mb, pi⟩ := iv
  have g := pi.1.1
  have lo := pi.1.2
  have tg := pi.2.2.2.1
  have h73 := pi.2.1.1
  have hn := pi.2.2.2.2.2
  have to := pi.2.2.2.2.1
  obtain ⟨h1, w1, e1, cb1, fc⟩ := cc_window (d := 104) (R := fun z => hI h 76 z.toNat) cb to hn rk
  have st1 : STR h1 := by
    by_cases ck : 0 ≤ k ∧ k ≤ n
    · rw [if_pos ck] at cb1; exact cb1.2.1.2.2.2.2
    · rw [if_neg ck] at cb1; exact cb1.2.1.2.2.2.2
  obtain ⟨h2, e2, mb2, f2⟩ := mm_window (d := 149) (R := fun z => hI h 76 z.toNat) (mb.fc fc) st1 to hn rk (fun j => by rw [(fc.2 76 (Or.inr (by omega)) j).1]; simp)
  refine ⟨h1, h2, _, e1, e2, fc.ok, ?_⟩
  by_cases ck : 0 ≤ k ∧ k ≤ n
  · rw [if_pos ck] at cb1 mb2
    exact mkI e lv fc cb1 f2 (fun a k z => by omega) mb2 (pi.win ck)
  · rw [if_neg ck] at cb1 mb2
    exact mkI e lv fc cb1 f2 (fun a k z => by omega) mb2 pi
/-! the loop -/
def LwT (sh : List (Nat × Nat)) (L : Nat) (xs : Nat → Int32) (x : Int) (pc : Nat) (h : Hp) : Prop := ∃ h', EX 200 m_Lw_law pc [(0, .inr (.inr 1)), (1, .inr (.inr 6)), (2, .inr (.inr 72)), (3, .inl x)] [] h = EX 200 m_Lw_law 1244 [(0, .inr (.inr 1)), (1, .inr (.inr 6)), (2, .inr (.inr 72)), (3, .inl x)] [] h' ∧ INV sh L xs h'
theorem INV.k {sh : List (Nat × Nat)} {L : Nat} {xs : Nat → Int32} {h : Hp} (iv : INV sh L xs h) : sK h 1 = 30 ∧ sN h 1 = L ∧ sK h 6 = 10 ∧ sK h 72 = 11 := by
  obtain ⟨e, lv, w, S, G, T, rs, rm, nb, n, fk, fp, cb, mb, pi⟩ := iv
  exact ⟨lv.1, lv.2.1, cb.1.1.k6, mb.1.1.1⟩
theorem INV.r {sh : List (Nat × Nat)} {L : Nat} {xs : Nat → Int32} {h : Hp} (iv : INV sh L xs h) (j : Nat) : -2147483648 ≤ hI h 1 j ∧ hI h 1 j ≤ 2147483647 := by
  rw [iv.2.1.2.2]
  exact i32_rng _

theorem lw_feed {sh : List (Nat × Nat)} {L : Nat} {xs : Nat → Int32} {h : Hp} {x : Int} (iv : INV sh L xs h) (hL : L ≤ 3072) (hx : 0 ≤ x ∧ x + 6 ≤ L) : LwT sh L xs x 192 h := by
  obtain ⟨h1, h2, z, e1, e2, ⟨ok1, ok2, ok3⟩, iv2⟩ := op_feed iv (hI h 1 (x + 1).toNat) (hI h 1 (x + 2).toNat) (hI h 1 (x + 3).toNat) (hI h 1 (x + 4).toNat) (hI h 1 (x + 5).toNat)
  obtain ⟨k1, k2, k3, k4⟩ := iv.k
  refine ⟨h2, ?_, iv2⟩
  simp (disch := omega) only [Lw_law_192, wr_id, ix_id, okx, if_pos, if_neg, Int.toNat_of_nonneg, bak_v, bak_n, wr_b01, wr_bt, b01_or, b01_0, b01_1, lc_lt0, lc_gt0, lc_eq0, wl_wr, wr_wr, wl_id, true_and, and_true, true_or, or_true, not_true_eq_false, not_false_eq_true, nc0, nc1, nc2, nc3, nc4, nc5, nc6, nc7, nc8, nc9, nc10, nc11, nc12, nc13, nc14, nc15, nc16, nc17, nc18, nc19, nc20, nc21, nc22, nc23, nc35, nc47, nc59, nc60, nc61, nc73, nc74, nc214, nc215, nc1115, nc2230, nc3345, if_true, if_false, Int.reduceToNat, k1, k2, k3, e1]
  simp (disch := omega) only [Lw_law_221, wr_id, ix_id, okx, if_pos, if_neg, Int.toNat_of_nonneg, bak_v, bak_n, wr_b01, wr_bt, b01_or, b01_0, b01_1, lc_lt0, lc_gt0, lc_eq0, wl_wr, wr_wr, wl_id, true_and, and_true, true_or, or_true, not_true_eq_false, not_false_eq_true, nc0, nc1, nc2, nc3, nc4, nc5, nc6, nc7, nc8, nc9, nc10, nc11, nc12, nc13, nc14, nc15, nc16, nc17, nc18, nc19, nc20, nc21, nc22, nc23, nc35, nc47, nc59, nc60, nc61, nc73, nc74, nc214, nc215, nc1115, nc2230, nc3345, if_true, if_false, Int.reduceToNat, ok1, ok2, ok3, k1, k2, k4, e2]
  simp (disch := omega) only [Lw_law_250, wr_id, ix_id, okx, if_pos, if_neg, Int.toNat_of_nonneg, bak_v, bak_n, wr_b01, wr_bt, b01_or, b01_0, b01_1, lc_lt0, lc_gt0, lc_eq0, wl_wr, wr_wr, wl_id, true_and, and_true, true_or, or_true, not_true_eq_false, not_false_eq_true, nc0, nc1, nc2, nc3, nc4, nc5, nc6, nc7, nc8, nc9, nc10, nc11, nc12, nc13, nc14, nc15, nc16, nc17, nc18, nc19, nc20, nc21, nc22, nc23, nc35, nc47, nc59, nc60, nc61, nc73, nc74, nc214, nc215, nc1115, nc2230, nc3345, if_true, if_false, Int.reduceToNat]
theorem lw_window {sh : List (Nat × Nat)} {L : Nat} {xs : Nat → Int32} {h : Hp} {x : Int} (iv : INV sh L xs h) (hL : L ≤ 3072) (hx : 0 ≤ x ∧ x + 6 ≤ L) : LwT sh L xs x 255 h := by
  obtain ⟨h1, h2, z, e1, e2, ⟨ok1, ok2, ok3⟩, iv2⟩ := op_window (k := (hI h 1 (x + 1).toNat)) iv (iv.r _)
  obtain ⟨k1, k2, k3, k4⟩ := iv.k
  refine ⟨h2, ?_, iv2⟩
  simp (disch := omega) only [Lw_law_255, wr_id, ix_id, okx, if_pos, if_neg, Int.toNat_of_nonneg, bak_v, bak_n, wr_b01, wr_bt, b01_or, b01_0, b01_1, lc_lt0, lc_gt0, lc_eq0, wl_wr, wr_wr, wl_id, true_and, and_true, true_or, or_true, not_true_eq_false, not_false_eq_true, nc0, nc1, nc2, nc3, nc4, nc5, nc6, nc7, nc8, nc9, nc10, nc11, nc12, nc13, nc14, nc15, nc16, nc17, nc18, nc19, nc20, nc21, nc22, nc23, nc35, nc47, nc59, nc60, nc61, nc73, nc74, nc214, nc215, nc1115, nc2230, nc3345, if_true, if_false, Int.reduceToNat, k1, k2, k3, e1]
  simp (disch := omega) only [Lw_law_264, wr_id, ix_id, okx, if_pos, if_neg, Int.toNat_of_nonneg, bak_v, bak_n, wr_b01, wr_bt, b01_or, b01_0, b01_1, lc_lt0, lc_gt0, lc_eq0, wl_wr, wr_wr, wl_id, true_and, and_true, true_or, or_true, not_true_eq_false, not_false_eq_true, nc0, nc1, nc2, nc3, nc4, nc5, nc6, nc7, nc8, nc9, nc10, nc11, nc12, nc13, nc14, nc15, nc16, nc17, nc18, nc19, nc20, nc21, nc22, nc23, nc35, nc47, nc59, nc60, nc61, nc73, nc74, nc214, nc215, nc1115, nc2230, nc3345, if_true, if_false, Int.reduceToNat, ok1, ok2, ok3, k1, k2, k4, e2]
  simp (disch := omega) only [Lw_law_273, wr_id, ix_id, okx, if_pos, if_neg, Int.toNat_of_nonneg, bak_v, bak_n, wr_b01, wr_bt, b01_or, b01_0, b01_1, lc_lt0, lc_gt0, lc_eq0, wl_wr, wr_wr, wl_id, true_and, and_true, true_or, or_true, not_true_eq_false, not_false_eq_true, nc0, nc1, nc2, nc3, nc4, nc5, nc6, nc7, nc8, nc9, nc10, nc11, nc12, nc13, nc14, nc15, nc16, nc17, nc18, nc19, nc20, nc21, nc22, nc23, nc35, nc47, nc59, nc60, nc61, nc73, nc74, nc214, nc215, nc1115, nc2230, nc3345, if_true, if_false, Int.reduceToNat]
theorem lw_fault {sh : List (Nat × Nat)} {L : Nat} {xs : Nat → Int32} {h : Hp} {x : Int} (iv : INV sh L xs h) (hL : L ≤ 3072) (hx : 0 ≤ x ∧ x + 6 ≤ L) : LwT sh L xs x 278 h := by
  obtain ⟨h1, h2, z, e1, e2, ⟨ok1, ok2, ok3⟩, iv2⟩ := op_fault (u := (hI h 1 (x + 1).toNat)) iv (iv.r _)
  obtain ⟨k1, k2, k3, k4⟩ := iv.k
  refine ⟨h2, ?_, iv2⟩
  simp (disch := omega) only [Lw_law_278, wr_id, ix_id, okx, if_pos, if_neg, Int.toNat_of_nonneg, bak_v, bak_n, wr_b01, wr_bt, b01_or, b01_0, b01_1, lc_lt0, lc_gt0, lc_eq0, wl_wr, wr_wr, wl_id, true_and, and_true, true_or, or_true, not_true_eq_false, not_false_eq_true, nc0, nc1, nc2, nc3, nc4, nc5, nc6, nc7, nc8, nc9, nc10, nc11, nc12, nc13, nc14, nc15, nc16, nc17, nc18, nc19, nc20, nc21, nc22, nc23, nc35, nc47, nc59, nc60, nc61, nc73, nc74, nc214, nc215, nc1115, nc2230, nc3345, if_true, if_false, Int.reduceToNat, k1, k2, k3, e1]
  simp (disch := omega) only [Lw_law_287, wr_id, ix_id, okx, if_pos, if_neg, Int.toNat_of_nonneg, bak_v, bak_n, wr_b01, wr_bt, b01_or, b01_0, b01_1, lc_lt0, lc_gt0, lc_eq0, wl_wr, wr_wr, wl_id, true_and, and_true, true_or, or_true, not_true_eq_false, not_false_eq_true, nc0, nc1, nc2, nc3, nc4, nc5, nc6, nc7, nc8, nc9, nc10, nc11, nc12, nc13, nc14, nc15, nc16, nc17, nc18, nc19, nc20, nc21, nc22, nc23, nc35, nc47, nc59, nc60, nc61, nc73, nc74, nc214, nc215, nc1115, nc2230, nc3345, if_true, if_false, Int.reduceToNat, ok1, ok2, ok3, k1, k2, k4, e2]
  simp (disch := omega) only [Lw_law_296, wr_id, ix_id, okx, if_pos, if_neg, Int.toNat_of_nonneg, bak_v, bak_n, wr_b01, wr_bt, b01_or, b01_0, b01_1, lc_lt0, lc_gt0, lc_eq0, wl_wr, wr_wr, wl_id, true_and, and_true, true_or, or_true, not_true_eq_false, not_false_eq_true, nc0, nc1, nc2, nc3, nc4, nc5, nc6, nc7, nc8, nc9, nc10, nc11, nc12, nc13, nc14, nc15, nc16, nc17, nc18, nc19, nc20, nc21, nc22, nc23, nc35, nc47, nc59, nc60, nc61, nc73, nc74, nc214, nc215, nc1115, nc2230, nc3345, if_true, if_false, Int.reduceToNat]
theorem lw_hook {sh : List (Nat × Nat)} {L : Nat} {xs : Nat → Int32} {h : Hp} {x : Int} (iv : INV sh L xs h) (hL : L ≤ 3072) (hx : 0 ≤ x ∧ x + 6 ≤ L) : LwT sh L xs x 301 h := by
  obtain ⟨h1, h2, z, e1, e2, ⟨ok1, ok2, ok3⟩, iv2⟩ := op_hook (x := (hI h 1 (x + 1).toNat)) (u := (hI h 1 (x + 2).toNat)) iv (iv.r _) (iv.r _)
  obtain ⟨k1, k2, k3, k4⟩ := iv.k
  refine ⟨h2, ?_, iv2⟩
  simp (disch := omega) only [Lw_law_301, wr_id, ix_id, okx, if_pos, if_neg, Int.toNat_of_nonneg, bak_v, bak_n, wr_b01, wr_bt, b01_or, b01_0, b01_1, lc_lt0, lc_gt0, lc_eq0, wl_wr, wr_wr, wl_id, true_and, and_true, true_or, or_true, not_true_eq_false, not_false_eq_true, nc0, nc1, nc2, nc3, nc4, nc5, nc6, nc7, nc8, nc9, nc10, nc11, nc12, nc13, nc14, nc15, nc16, nc17, nc18, nc19, nc20, nc21, nc22, nc23, nc35, nc47, nc59, nc60, nc61, nc73, nc74, nc214, nc215, nc1115, nc2230, nc3345, if_true, if_false, Int.reduceToNat, k1, k2, k3, e1]
  simp (disch := omega) only [Lw_law_315, wr_id, ix_id, okx, if_pos, if_neg, Int.toNat_of_nonneg, bak_v, bak_n, wr_b01, wr_bt, b01_or, b01_0, b01_1, lc_lt0, lc_gt0, lc_eq0, wl_wr, wr_wr, wl_id, true_and, and_true, true_or, or_true, not_true_eq_false, not_false_eq_true, nc0, nc1, nc2, nc3, nc4, nc5, nc6, nc7, nc8, nc9, nc10, nc11, nc12, nc13, nc14, nc15, nc16, nc17, nc18, nc19, nc20, nc21, nc22, nc23, nc35, nc47, nc59, nc60, nc61, nc73, nc74, nc214, nc215, nc1115, nc2230, nc3345, if_true, if_false, Int.reduceToNat, ok1, ok2, ok3, k1, k2, k4, e2]
  simp (disch := omega) only [Lw_law_329, wr_id, ix_id, okx, if_pos, if_neg, Int.toNat_of_nonneg, bak_v, bak_n, wr_b01, wr_bt, b01_or, b01_0, b01_1, lc_lt0, lc_gt0, lc_eq0, wl_wr, wr_wr, wl_id, true_and, and_true, true_or, or_true, not_true_eq_false, not_false_eq_true, nc0, nc1, nc2, nc3, nc4, nc5, nc6, nc7, nc8, nc9, nc10, nc11, nc12, nc13, nc14, nc15, nc16, nc17, nc18, nc19, nc20, nc21, nc22, nc23, nc35, nc47, nc59, nc60, nc61, nc73, nc74, nc214, nc215, nc1115, nc2230, nc3345, if_true, if_false, Int.reduceToNat]
theorem lw_ring {sh : List (Nat × Nat)} {L : Nat} {xs : Nat → Int32} {h : Hp} {x : Int} (iv : INV sh L xs h) (hL : L ≤ 3072) (hx : 0 ≤ x ∧ x + 6 ≤ L) : LwT sh L xs x 334 h := by
  obtain ⟨h1, h2, z, e1, e2, ⟨ok1, ok2, ok3⟩, iv2⟩ := op_ring (x := (hI h 1 (x + 1).toNat)) (u := (hI h 1 (x + 2).toNat)) iv (iv.r _) (iv.r _)
  obtain ⟨k1, k2, k3, k4⟩ := iv.k
  refine ⟨h2, ?_, iv2⟩
  simp (disch := omega) only [Lw_law_334, wr_id, ix_id, okx, if_pos, if_neg, Int.toNat_of_nonneg, bak_v, bak_n, wr_b01, wr_bt, b01_or, b01_0, b01_1, lc_lt0, lc_gt0, lc_eq0, wl_wr, wr_wr, wl_id, true_and, and_true, true_or, or_true, not_true_eq_false, not_false_eq_true, nc0, nc1, nc2, nc3, nc4, nc5, nc6, nc7, nc8, nc9, nc10, nc11, nc12, nc13, nc14, nc15, nc16, nc17, nc18, nc19, nc20, nc21, nc22, nc23, nc35, nc47, nc59, nc60, nc61, nc73, nc74, nc214, nc215, nc1115, nc2230, nc3345, if_true, if_false, Int.reduceToNat, k1, k2, k3, e1]
  simp (disch := omega) only [Lw_law_348, wr_id, ix_id, okx, if_pos, if_neg, Int.toNat_of_nonneg, bak_v, bak_n, wr_b01, wr_bt, b01_or, b01_0, b01_1, lc_lt0, lc_gt0, lc_eq0, wl_wr, wr_wr, wl_id, true_and, and_true, true_or, or_true, not_true_eq_false, not_false_eq_true, nc0, nc1, nc2, nc3, nc4, nc5, nc6, nc7, nc8, nc9, nc10, nc11, nc12, nc13, nc14, nc15, nc16, nc17, nc18, nc19, nc20, nc21, nc22, nc23, nc35, nc47, nc59, nc60, nc61, nc73, nc74, nc214, nc215, nc1115, nc2230, nc3345, if_true, if_false, Int.reduceToNat, ok1, ok2, ok3, k1, k2, k4, e2]
  simp (disch := omega) only [Lw_law_362, wr_id, ix_id, okx, if_pos, if_neg, Int.toNat_of_nonneg, bak_v, bak_n, wr_b01, wr_bt, b01_or, b01_0, b01_1, lc_lt0, lc_gt0, lc_eq0, wl_wr, wr_wr, wl_id, true_and, and_true, true_or, or_true, not_true_eq_false, not_false_eq_true, nc0, nc1, nc2, nc3, nc4, nc5, nc6, nc7, nc8, nc9, nc10, nc11, nc12, nc13, nc14, nc15, nc16, nc17, nc18, nc19, nc20, nc21, nc22, nc23, nc35, nc47, nc59, nc60, nc61, nc73, nc74, nc214, nc215, nc1115, nc2230, nc3345, if_true, if_false, Int.reduceToNat]
theorem lw_belongs {sh : List (Nat × Nat)} {L : Nat} {xs : Nat → Int32} {h : Hp} {x : Int} (iv : INV sh L xs h) (hL : L ≤ 3072) (hx : 0 ≤ x ∧ x + 6 ≤ L) : LwT sh L xs x 367 h := by
  obtain ⟨h1, h2, z, e1, e2, ⟨ok1, ok2, ok3⟩, iv2⟩ := op_belongs (x := (hI h 1 (x + 1).toNat)) (y := (hI h 1 (x + 2).toNat)) iv (iv.r _) (iv.r _)
  obtain ⟨k1, k2, k3, k4⟩ := iv.k
  refine ⟨h2, ?_, iv2⟩
  simp (disch := omega) only [Lw_law_367, wr_id, ix_id, okx, if_pos, if_neg, Int.toNat_of_nonneg, bak_v, bak_n, wr_b01, wr_bt, b01_or, b01_0, b01_1, lc_lt0, lc_gt0, lc_eq0, wl_wr, wr_wr, wl_id, true_and, and_true, true_or, or_true, not_true_eq_false, not_false_eq_true, nc0, nc1, nc2, nc3, nc4, nc5, nc6, nc7, nc8, nc9, nc10, nc11, nc12, nc13, nc14, nc15, nc16, nc17, nc18, nc19, nc20, nc21, nc22, nc23, nc35, nc47, nc59, nc60, nc61, nc73, nc74, nc214, nc215, nc1115, nc2230, nc3345, if_true, if_false, Int.reduceToNat, k1, k2, k3, e1]
  simp (disch := omega) only [Lw_law_381, wr_id, ix_id, okx, if_pos, if_neg, Int.toNat_of_nonneg, bak_v, bak_n, wr_b01, wr_bt, b01_or, b01_0, b01_1, lc_lt0, lc_gt0, lc_eq0, wl_wr, wr_wr, wl_id, true_and, and_true, true_or, or_true, not_true_eq_false, not_false_eq_true, nc0, nc1, nc2, nc3, nc4, nc5, nc6, nc7, nc8, nc9, nc10, nc11, nc12, nc13, nc14, nc15, nc16, nc17, nc18, nc19, nc20, nc21, nc22, nc23, nc35, nc47, nc59, nc60, nc61, nc73, nc74, nc214, nc215, nc1115, nc2230, nc3345, if_true, if_false, Int.reduceToNat, ok1, ok2, ok3, k1, k2, k4, e2]
  simp (disch := omega) only [Lw_law_395, wr_id, ix_id, okx, if_pos, if_neg, Int.toNat_of_nonneg, bak_v, bak_n, wr_b01, wr_bt, b01_or, b01_0, b01_1, lc_lt0, lc_gt0, lc_eq0, wl_wr, wr_wr, wl_id, true_and, and_true, true_or, or_true, not_true_eq_false, not_false_eq_true, nc0, nc1, nc2, nc3, nc4, nc5, nc6, nc7, nc8, nc9, nc10, nc11, nc12, nc13, nc14, nc15, nc16, nc17, nc18, nc19, nc20, nc21, nc22, nc23, nc35, nc47, nc59, nc60, nc61, nc73, nc74, nc214, nc215, nc1115, nc2230, nc3345, if_true, if_false, Int.reduceToNat]
theorem lw_sags {sh : List (Nat × Nat)} {L : Nat} {xs : Nat → Int32} {h : Hp} {x : Int} (iv : INV sh L xs h) (hL : L ≤ 3072) (hx : 0 ≤ x ∧ x + 6 ≤ L) : LwT sh L xs x 400 h := by
  obtain ⟨h1, h2, z, e1, e2, ⟨ok1, ok2, ok3⟩, iv2⟩ := op_sags (u := (hI h 1 (x + 1).toNat)) iv (iv.r _)
  obtain ⟨k1, k2, k3, k4⟩ := iv.k
  refine ⟨h2, ?_, iv2⟩
  simp (disch := omega) only [Lw_law_400, wr_id, ix_id, okx, if_pos, if_neg, Int.toNat_of_nonneg, bak_v, bak_n, wr_b01, wr_bt, b01_or, b01_0, b01_1, lc_lt0, lc_gt0, lc_eq0, wl_wr, wr_wr, wl_id, true_and, and_true, true_or, or_true, not_true_eq_false, not_false_eq_true, nc0, nc1, nc2, nc3, nc4, nc5, nc6, nc7, nc8, nc9, nc10, nc11, nc12, nc13, nc14, nc15, nc16, nc17, nc18, nc19, nc20, nc21, nc22, nc23, nc35, nc47, nc59, nc60, nc61, nc73, nc74, nc214, nc215, nc1115, nc2230, nc3345, if_true, if_false, Int.reduceToNat, k1, k2, k3, e1]
  simp (disch := omega) only [Lw_law_409, wr_id, ix_id, okx, if_pos, if_neg, Int.toNat_of_nonneg, bak_v, bak_n, wr_b01, wr_bt, b01_or, b01_0, b01_1, lc_lt0, lc_gt0, lc_eq0, wl_wr, wr_wr, wl_id, true_and, and_true, true_or, or_true, not_true_eq_false, not_false_eq_true, nc0, nc1, nc2, nc3, nc4, nc5, nc6, nc7, nc8, nc9, nc10, nc11, nc12, nc13, nc14, nc15, nc16, nc17, nc18, nc19, nc20, nc21, nc22, nc23, nc35, nc47, nc59, nc60, nc61, nc73, nc74, nc214, nc215, nc1115, nc2230, nc3345, if_true, if_false, Int.reduceToNat, ok1, ok2, ok3, k1, k2, k4, e2]
  simp (disch := omega) only [Lw_law_418, wr_id, ix_id, okx, if_pos, if_neg, Int.toNat_of_nonneg, bak_v, bak_n, wr_b01, wr_bt, b01_or, b01_0, b01_1, lc_lt0, lc_gt0, lc_eq0, wl_wr, wr_wr, wl_id, true_and, and_true, true_or, or_true, not_true_eq_false, not_false_eq_true, nc0, nc1, nc2, nc3, nc4, nc5, nc6, nc7, nc8, nc9, nc10, nc11, nc12, nc13, nc14, nc15, nc16, nc17, nc18, nc19, nc20, nc21, nc22, nc23, nc35, nc47, nc59, nc60, nc61, nc73, nc74, nc214, nc215, nc1115, nc2230, nc3345, if_true, if_false, Int.reduceToNat]
theorem lw_why {sh : List (Nat × Nat)} {L : Nat} {xs : Nat → Int32} {h : Hp} {x : Int} (iv : INV sh L xs h) (hL : L ≤ 3072) (hx : 0 ≤ x ∧ x + 6 ≤ L) : LwT sh L xs x 423 h := by
  obtain ⟨h1, h2, z, e1, e2, ⟨ok1, ok2, ok3⟩, iv2⟩ := op_why (x := (hI h 1 (x + 1).toNat)) (y := (hI h 1 (x + 2).toNat)) iv (iv.r _) (iv.r _)
  obtain ⟨k1, k2, k3, k4⟩ := iv.k
  refine ⟨h2, ?_, iv2⟩
  simp (disch := omega) only [Lw_law_423, wr_id, ix_id, okx, if_pos, if_neg, Int.toNat_of_nonneg, bak_v, bak_n, wr_b01, wr_bt, b01_or, b01_0, b01_1, lc_lt0, lc_gt0, lc_eq0, wl_wr, wr_wr, wl_id, true_and, and_true, true_or, or_true, not_true_eq_false, not_false_eq_true, nc0, nc1, nc2, nc3, nc4, nc5, nc6, nc7, nc8, nc9, nc10, nc11, nc12, nc13, nc14, nc15, nc16, nc17, nc18, nc19, nc20, nc21, nc22, nc23, nc35, nc47, nc59, nc60, nc61, nc73, nc74, nc214, nc215, nc1115, nc2230, nc3345, if_true, if_false, Int.reduceToNat, k1, k2, k3, e1]
  simp (disch := omega) only [Lw_law_437, wr_id, ix_id, okx, if_pos, if_neg, Int.toNat_of_nonneg, bak_v, bak_n, wr_b01, wr_bt, b01_or, b01_0, b01_1, lc_lt0, lc_gt0, lc_eq0, wl_wr, wr_wr, wl_id, true_and, and_true, true_or, or_true, not_true_eq_false, not_false_eq_true, nc0, nc1, nc2, nc3, nc4, nc5, nc6, nc7, nc8, nc9, nc10, nc11, nc12, nc13, nc14, nc15, nc16, nc17, nc18, nc19, nc20, nc21, nc22, nc23, nc35, nc47, nc59, nc60, nc61, nc73, nc74, nc214, nc215, nc1115, nc2230, nc3345, if_true, if_false, Int.reduceToNat, ok1, ok2, ok3, k1, k2, k4, e2]
  simp (disch := omega) only [Lw_law_451, wr_id, ix_id, okx, if_pos, if_neg, Int.toNat_of_nonneg, bak_v, bak_n, wr_b01, wr_bt, b01_or, b01_0, b01_1, lc_lt0, lc_gt0, lc_eq0, wl_wr, wr_wr, wl_id, true_and, and_true, true_or, or_true, not_true_eq_false, not_false_eq_true, nc0, nc1, nc2, nc3, nc4, nc5, nc6, nc7, nc8, nc9, nc10, nc11, nc12, nc13, nc14, nc15, nc16, nc17, nc18, nc19, nc20, nc21, nc22, nc23, nc35, nc47, nc59, nc60, nc61, nc73, nc74, nc214, nc215, nc1115, nc2230, nc3345, if_true, if_false, Int.reduceToNat]
theorem lw_join {sh : List (Nat × Nat)} {L : Nat} {xs : Nat → Int32} {h : Hp} {x : Int} (iv : INV sh L xs h) (hL : L ≤ 3072) (hx : 0 ≤ x ∧ x + 6 ≤ L) : LwT sh L xs x 456 h := by
  obtain ⟨h1, h2, z, e1, e2, ⟨ok1, ok2, ok3⟩, iv2⟩ := op_join (x := (hI h 1 (x + 1).toNat)) (y := (hI h 1 (x + 2).toNat)) iv (iv.r _) (iv.r _)
  obtain ⟨k1, k2, k3, k4⟩ := iv.k
  refine ⟨h2, ?_, iv2⟩
  simp (disch := omega) only [Lw_law_456, wr_id, ix_id, okx, if_pos, if_neg, Int.toNat_of_nonneg, bak_v, bak_n, wr_b01, wr_bt, b01_or, b01_0, b01_1, lc_lt0, lc_gt0, lc_eq0, wl_wr, wr_wr, wl_id, true_and, and_true, true_or, or_true, not_true_eq_false, not_false_eq_true, nc0, nc1, nc2, nc3, nc4, nc5, nc6, nc7, nc8, nc9, nc10, nc11, nc12, nc13, nc14, nc15, nc16, nc17, nc18, nc19, nc20, nc21, nc22, nc23, nc35, nc47, nc59, nc60, nc61, nc73, nc74, nc214, nc215, nc1115, nc2230, nc3345, if_true, if_false, Int.reduceToNat, k1, k2, k3, e1]
  simp (disch := omega) only [Lw_law_470, wr_id, ix_id, okx, if_pos, if_neg, Int.toNat_of_nonneg, bak_v, bak_n, wr_b01, wr_bt, b01_or, b01_0, b01_1, lc_lt0, lc_gt0, lc_eq0, wl_wr, wr_wr, wl_id, true_and, and_true, true_or, or_true, not_true_eq_false, not_false_eq_true, nc0, nc1, nc2, nc3, nc4, nc5, nc6, nc7, nc8, nc9, nc10, nc11, nc12, nc13, nc14, nc15, nc16, nc17, nc18, nc19, nc20, nc21, nc22, nc23, nc35, nc47, nc59, nc60, nc61, nc73, nc74, nc214, nc215, nc1115, nc2230, nc3345, if_true, if_false, Int.reduceToNat, ok1, ok2, ok3, k1, k2, k4, e2]
  simp (disch := omega) only [Lw_law_484, wr_id, ix_id, okx, if_pos, if_neg, Int.toNat_of_nonneg, bak_v, bak_n, wr_b01, wr_bt, b01_or, b01_0, b01_1, lc_lt0, lc_gt0, lc_eq0, wl_wr, wr_wr, wl_id, true_and, and_true, true_or, or_true, not_true_eq_false, not_false_eq_true, nc0, nc1, nc2, nc3, nc4, nc5, nc6, nc7, nc8, nc9, nc10, nc11, nc12, nc13, nc14, nc15, nc16, nc17, nc18, nc19, nc20, nc21, nc22, nc23, nc35, nc47, nc59, nc60, nc61, nc73, nc74, nc214, nc215, nc1115, nc2230, nc3345, if_true, if_false, Int.reduceToNat]
theorem lw_unhook {sh : List (Nat × Nat)} {L : Nat} {xs : Nat → Int32} {h : Hp} {x : Int} (iv : INV sh L xs h) (hL : L ≤ 3072) (hx : 0 ≤ x ∧ x + 6 ≤ L) : LwT sh L xs x 489 h := by
  obtain ⟨h1, h2, z, e1, e2, ⟨ok1, ok2, ok3⟩, iv2⟩ := op_unhook (x := (hI h 1 (x + 1).toNat)) iv (iv.r _)
  obtain ⟨k1, k2, k3, k4⟩ := iv.k
  refine ⟨h2, ?_, iv2⟩
  simp (disch := omega) only [Lw_law_489, wr_id, ix_id, okx, if_pos, if_neg, Int.toNat_of_nonneg, bak_v, bak_n, wr_b01, wr_bt, b01_or, b01_0, b01_1, lc_lt0, lc_gt0, lc_eq0, wl_wr, wr_wr, wl_id, true_and, and_true, true_or, or_true, not_true_eq_false, not_false_eq_true, nc0, nc1, nc2, nc3, nc4, nc5, nc6, nc7, nc8, nc9, nc10, nc11, nc12, nc13, nc14, nc15, nc16, nc17, nc18, nc19, nc20, nc21, nc22, nc23, nc35, nc47, nc59, nc60, nc61, nc73, nc74, nc214, nc215, nc1115, nc2230, nc3345, if_true, if_false, Int.reduceToNat, k1, k2, k3, e1]
  simp (disch := omega) only [Lw_law_498, wr_id, ix_id, okx, if_pos, if_neg, Int.toNat_of_nonneg, bak_v, bak_n, wr_b01, wr_bt, b01_or, b01_0, b01_1, lc_lt0, lc_gt0, lc_eq0, wl_wr, wr_wr, wl_id, true_and, and_true, true_or, or_true, not_true_eq_false, not_false_eq_true, nc0, nc1, nc2, nc3, nc4, nc5, nc6, nc7, nc8, nc9, nc10, nc11, nc12, nc13, nc14, nc15, nc16, nc17, nc18, nc19, nc20, nc21, nc22, nc23, nc35, nc47, nc59, nc60, nc61, nc73, nc74, nc214, nc215, nc1115, nc2230, nc3345, if_true, if_false, Int.reduceToNat, ok1, ok2, ok3, k1, k2, k4, e2]
  simp (disch := omega) only [Lw_law_507, wr_id, ix_id, okx, if_pos, if_neg, Int.toNat_of_nonneg, bak_v, bak_n, wr_b01, wr_bt, b01_or, b01_0, b01_1, lc_lt0, lc_gt0, lc_eq0, wl_wr, wr_wr, wl_id, true_and, and_true, true_or, or_true, not_true_eq_false, not_false_eq_true, nc0, nc1, nc2, nc3, nc4, nc5, nc6, nc7, nc8, nc9, nc10, nc11, nc12, nc13, nc14, nc15, nc16, nc17, nc18, nc19, nc20, nc21, nc22, nc23, nc35, nc47, nc59, nc60, nc61, nc73, nc74, nc214, nc215, nc1115, nc2230, nc3345, if_true, if_false, Int.reduceToNat]
theorem lw_undo {sh : List (Nat × Nat)} {L : Nat} {xs : Nat → Int32} {h : Hp} {x : Int} (iv : INV sh L xs h) (hL : L ≤ 3072) (hx : 0 ≤ x ∧ x + 6 ≤ L) : LwT sh L xs x 512 h := by
  obtain ⟨h1, h2, z, e1, e2, ⟨ok1, ok2, ok3⟩, iv2⟩ := op_undo (x := (hI h 1 (x + 1).toNat)) iv (iv.r _)
  obtain ⟨k1, k2, k3, k4⟩ := iv.k
  refine ⟨h2, ?_, iv2⟩
  simp (disch := omega) only [Lw_law_512, wr_id, ix_id, okx, if_pos, if_neg, Int.toNat_of_nonneg, bak_v, bak_n, wr_b01, wr_bt, b01_or, b01_0, b01_1, lc_lt0, lc_gt0, lc_eq0, wl_wr, wr_wr, wl_id, true_and, and_true, true_or, or_true, not_true_eq_false, not_false_eq_true, nc0, nc1, nc2, nc3, nc4, nc5, nc6, nc7, nc8, nc9, nc10, nc11, nc12, nc13, nc14, nc15, nc16, nc17, nc18, nc19, nc20, nc21, nc22, nc23, nc35, nc47, nc59, nc60, nc61, nc73, nc74, nc214, nc215, nc1115, nc2230, nc3345, if_true, if_false, Int.reduceToNat, k1, k2, k3, e1]
  simp (disch := omega) only [Lw_law_521, wr_id, ix_id, okx, if_pos, if_neg, Int.toNat_of_nonneg, bak_v, bak_n, wr_b01, wr_bt, b01_or, b01_0, b01_1, lc_lt0, lc_gt0, lc_eq0, wl_wr, wr_wr, wl_id, true_and, and_true, true_or, or_true, not_true_eq_false, not_false_eq_true, nc0, nc1, nc2, nc3, nc4, nc5, nc6, nc7, nc8, nc9, nc10, nc11, nc12, nc13, nc14, nc15, nc16, nc17, nc18, nc19, nc20, nc21, nc22, nc23, nc35, nc47, nc59, nc60, nc61, nc73, nc74, nc214, nc215, nc1115, nc2230, nc3345, if_true, if_false, Int.reduceToNat, ok1, ok2, ok3, k1, k2, k4, e2]
  simp (disch := omega) only [Lw_law_530, wr_id, ix_id, okx, if_pos, if_neg, Int.toNat_of_nonneg, bak_v, bak_n, wr_b01, wr_bt, b01_or, b01_0, b01_1, lc_lt0, lc_gt0, lc_eq0, wl_wr, wr_wr, wl_id, true_and, and_true, true_or, or_true, not_true_eq_false, not_false_eq_true, nc0, nc1, nc2, nc3, nc4, nc5, nc6, nc7, nc8, nc9, nc10, nc11, nc12, nc13, nc14, nc15, nc16, nc17, nc18, nc19, nc20, nc21, nc22, nc23, nc35, nc47, nc59, nc60, nc61, nc73, nc74, nc214, nc215, nc1115, nc2230, nc3345, if_true, if_false, Int.reduceToNat]
theorem lw_judge {sh : List (Nat × Nat)} {L : Nat} {xs : Nat → Int32} {h : Hp} {x : Int} (iv : INV sh L xs h) (hL : L ≤ 3072) (hx : 0 ≤ x ∧ x + 6 ≤ L) : LwT sh L xs x 535 h := by
  obtain ⟨h1, h2, z, e1, e2, ⟨ok1, ok2, ok3⟩, iv2⟩ := op_judge (t := (hI h 1 (x + 1).toNat)) (u := (hI h 1 (x + 2).toNat)) iv (iv.r _) (iv.r _)
  obtain ⟨k1, k2, k3, k4⟩ := iv.k
  refine ⟨h2, ?_, iv2⟩
  simp (disch := omega) only [Lw_law_535, wr_id, ix_id, okx, if_pos, if_neg, Int.toNat_of_nonneg, bak_v, bak_n, wr_b01, wr_bt, b01_or, b01_0, b01_1, lc_lt0, lc_gt0, lc_eq0, wl_wr, wr_wr, wl_id, true_and, and_true, true_or, or_true, not_true_eq_false, not_false_eq_true, nc0, nc1, nc2, nc3, nc4, nc5, nc6, nc7, nc8, nc9, nc10, nc11, nc12, nc13, nc14, nc15, nc16, nc17, nc18, nc19, nc20, nc21, nc22, nc23, nc35, nc47, nc59, nc60, nc61, nc73, nc74, nc214, nc215, nc1115, nc2230, nc3345, if_true, if_false, Int.reduceToNat, k1, k2, k3, e1]
  simp (disch := omega) only [Lw_law_549, wr_id, ix_id, okx, if_pos, if_neg, Int.toNat_of_nonneg, bak_v, bak_n, wr_b01, wr_bt, b01_or, b01_0, b01_1, lc_lt0, lc_gt0, lc_eq0, wl_wr, wr_wr, wl_id, true_and, and_true, true_or, or_true, not_true_eq_false, not_false_eq_true, nc0, nc1, nc2, nc3, nc4, nc5, nc6, nc7, nc8, nc9, nc10, nc11, nc12, nc13, nc14, nc15, nc16, nc17, nc18, nc19, nc20, nc21, nc22, nc23, nc35, nc47, nc59, nc60, nc61, nc73, nc74, nc214, nc215, nc1115, nc2230, nc3345, if_true, if_false, Int.reduceToNat, ok1, ok2, ok3, k1, k2, k4, e2]
  simp (disch := omega) only [Lw_law_563, wr_id, ix_id, okx, if_pos, if_neg, Int.toNat_of_nonneg, bak_v, bak_n, wr_b01, wr_bt, b01_or, b01_0, b01_1, lc_lt0, lc_gt0, lc_eq0, wl_wr, wr_wr, wl_id, true_and, and_true, true_or, or_true, not_true_eq_false, not_false_eq_true, nc0, nc1, nc2, nc3, nc4, nc5, nc6, nc7, nc8, nc9, nc10, nc11, nc12, nc13, nc14, nc15, nc16, nc17, nc18, nc19, nc20, nc21, nc22, nc23, nc35, nc47, nc59, nc60, nc61, nc73, nc74, nc214, nc215, nc1115, nc2230, nc3345, if_true, if_false, Int.reduceToNat]
theorem lw_perform {sh : List (Nat × Nat)} {L : Nat} {xs : Nat → Int32} {h : Hp} {x : Int} (iv : INV sh L xs h) (hL : L ≤ 3072) (hx : 0 ≤ x ∧ x + 6 ≤ L) : LwT sh L xs x 568 h := by
  obtain ⟨h1, h2, z, e1, e2, ⟨ok1, ok2, ok3⟩, iv2⟩ := op_perform (t := (hI h 1 (x + 1).toNat)) iv (iv.r _)
  obtain ⟨k1, k2, k3, k4⟩ := iv.k
  refine ⟨h2, ?_, iv2⟩
  simp (disch := omega) only [Lw_law_568, wr_id, ix_id, okx, if_pos, if_neg, Int.toNat_of_nonneg, bak_v, bak_n, wr_b01, wr_bt, b01_or, b01_0, b01_1, lc_lt0, lc_gt0, lc_eq0, wl_wr, wr_wr, wl_id, true_and, and_true, true_or, or_true, not_true_eq_false, not_false_eq_true, nc0, nc1, nc2, nc3, nc4, nc5, nc6, nc7, nc8, nc9, nc10, nc11, nc12, nc13, nc14, nc15, nc16, nc17, nc18, nc19, nc20, nc21, nc22, nc23, nc35, nc47, nc59, nc60, nc61, nc73, nc74, nc214, nc215, nc1115, nc2230, nc3345, if_true, if_false, Int.reduceToNat, k1, k2, k3, e1]
  simp (disch := omega) only [Lw_law_577, wr_id, ix_id, okx, if_pos, if_neg, Int.toNat_of_nonneg, bak_v, bak_n, wr_b01, wr_bt, b01_or, b01_0, b01_1, lc_lt0, lc_gt0, lc_eq0, wl_wr, wr_wr, wl_id, true_and, and_true, true_or, or_true, not_true_eq_false, not_false_eq_true, nc0, nc1, nc2, nc3, nc4, nc5, nc6, nc7, nc8, nc9, nc10, nc11, nc12, nc13, nc14, nc15, nc16, nc17, nc18, nc19, nc20, nc21, nc22, nc23, nc35, nc47, nc59, nc60, nc61, nc73, nc74, nc214, nc215, nc1115, nc2230, nc3345, if_true, if_false, Int.reduceToNat, ok1, ok2, ok3, k1, k2, k4, e2]
  simp (disch := omega) only [Lw_law_586, wr_id, ix_id, okx, if_pos, if_neg, Int.toNat_of_nonneg, bak_v, bak_n, wr_b01, wr_bt, b01_or, b01_0, b01_1, lc_lt0, lc_gt0, lc_eq0, wl_wr, wr_wr, wl_id, true_and, and_true, true_or, or_true, not_true_eq_false, not_false_eq_true, nc0, nc1, nc2, nc3, nc4, nc5, nc6, nc7, nc8, nc9, nc10, nc11, nc12, nc13, nc14, nc15, nc16, nc17, nc18, nc19, nc20, nc21, nc22, nc23, nc35, nc47, nc59, nc60, nc61, nc73, nc74, nc214, nc215, nc1115, nc2230, nc3345, if_true, if_false, Int.reduceToNat]
theorem lw_day {sh : List (Nat × Nat)} {L : Nat} {xs : Nat → Int32} {h : Hp} {x : Int} (iv : INV sh L xs h) (hL : L ≤ 3072) (hx : 0 ≤ x ∧ x + 6 ≤ L) : LwT sh L xs x 591 h := by
  obtain ⟨h1, h2, z, e1, e2, ⟨ok1, ok2, ok3⟩, iv2⟩ := op_day (x := (hI h 1 (x + 1).toNat)) (k := (hI h 1 (x + 2).toNat)) iv (iv.r _) (iv.r _)
  obtain ⟨k1, k2, k3, k4⟩ := iv.k
  refine ⟨h2, ?_, iv2⟩
  simp (disch := omega) only [Lw_law_591, wr_id, ix_id, okx, if_pos, if_neg, Int.toNat_of_nonneg, bak_v, bak_n, wr_b01, wr_bt, b01_or, b01_0, b01_1, lc_lt0, lc_gt0, lc_eq0, wl_wr, wr_wr, wl_id, true_and, and_true, true_or, or_true, not_true_eq_false, not_false_eq_true, nc0, nc1, nc2, nc3, nc4, nc5, nc6, nc7, nc8, nc9, nc10, nc11, nc12, nc13, nc14, nc15, nc16, nc17, nc18, nc19, nc20, nc21, nc22, nc23, nc35, nc47, nc59, nc60, nc61, nc73, nc74, nc214, nc215, nc1115, nc2230, nc3345, if_true, if_false, Int.reduceToNat, k1, k2, k3, e1]
  simp (disch := omega) only [Lw_law_605, wr_id, ix_id, okx, if_pos, if_neg, Int.toNat_of_nonneg, bak_v, bak_n, wr_b01, wr_bt, b01_or, b01_0, b01_1, lc_lt0, lc_gt0, lc_eq0, wl_wr, wr_wr, wl_id, true_and, and_true, true_or, or_true, not_true_eq_false, not_false_eq_true, nc0, nc1, nc2, nc3, nc4, nc5, nc6, nc7, nc8, nc9, nc10, nc11, nc12, nc13, nc14, nc15, nc16, nc17, nc18, nc19, nc20, nc21, nc22, nc23, nc35, nc47, nc59, nc60, nc61, nc73, nc74, nc214, nc215, nc1115, nc2230, nc3345, if_true, if_false, Int.reduceToNat, ok1, ok2, ok3, k1, k2, k4, e2]
  simp (disch := omega) only [Lw_law_619, wr_id, ix_id, okx, if_pos, if_neg, Int.toNat_of_nonneg, bak_v, bak_n, wr_b01, wr_bt, b01_or, b01_0, b01_1, lc_lt0, lc_gt0, lc_eq0, wl_wr, wr_wr, wl_id, true_and, and_true, true_or, or_true, not_true_eq_false, not_false_eq_true, nc0, nc1, nc2, nc3, nc4, nc5, nc6, nc7, nc8, nc9, nc10, nc11, nc12, nc13, nc14, nc15, nc16, nc17, nc18, nc19, nc20, nc21, nc22, nc23, nc35, nc47, nc59, nc60, nc61, nc73, nc74, nc214, nc215, nc1115, nc2230, nc3345, if_true, if_false, Int.reduceToNat]
theorem lw_undoing {sh : List (Nat × Nat)} {L : Nat} {xs : Nat → Int32} {h : Hp} {x : Int} (iv : INV sh L xs h) (hL : L ≤ 3072) (hx : 0 ≤ x ∧ x + 6 ≤ L) : LwT sh L xs x 624 h := by
  obtain ⟨h1, h2, z, e1, e2, ⟨ok1, ok2, ok3⟩, iv2⟩ := op_undoing (x := (hI h 1 (x + 1).toNat)) iv (iv.r _)
  obtain ⟨k1, k2, k3, k4⟩ := iv.k
  refine ⟨h2, ?_, iv2⟩
  simp (disch := omega) only [Lw_law_624, wr_id, ix_id, okx, if_pos, if_neg, Int.toNat_of_nonneg, bak_v, bak_n, wr_b01, wr_bt, b01_or, b01_0, b01_1, lc_lt0, lc_gt0, lc_eq0, wl_wr, wr_wr, wl_id, true_and, and_true, true_or, or_true, not_true_eq_false, not_false_eq_true, nc0, nc1, nc2, nc3, nc4, nc5, nc6, nc7, nc8, nc9, nc10, nc11, nc12, nc13, nc14, nc15, nc16, nc17, nc18, nc19, nc20, nc21, nc22, nc23, nc35, nc47, nc59, nc60, nc61, nc73, nc74, nc214, nc215, nc1115, nc2230, nc3345, if_true, if_false, Int.reduceToNat, k1, k2, k3, e1]
  simp (disch := omega) only [Lw_law_633, wr_id, ix_id, okx, if_pos, if_neg, Int.toNat_of_nonneg, bak_v, bak_n, wr_b01, wr_bt, b01_or, b01_0, b01_1, lc_lt0, lc_gt0, lc_eq0, wl_wr, wr_wr, wl_id, true_and, and_true, true_or, or_true, not_true_eq_false, not_false_eq_true, nc0, nc1, nc2, nc3, nc4, nc5, nc6, nc7, nc8, nc9, nc10, nc11, nc12, nc13, nc14, nc15, nc16, nc17, nc18, nc19, nc20, nc21, nc22, nc23, nc35, nc47, nc59, nc60, nc61, nc73, nc74, nc214, nc215, nc1115, nc2230, nc3345, if_true, if_false, Int.reduceToNat, ok1, ok2, ok3, k1, k2, k4, e2]
  simp (disch := omega) only [Lw_law_642, wr_id, ix_id, okx, if_pos, if_neg, Int.toNat_of_nonneg, bak_v, bak_n, wr_b01, wr_bt, b01_or, b01_0, b01_1, lc_lt0, lc_gt0, lc_eq0, wl_wr, wr_wr, wl_id, true_and, and_true, true_or, or_true, not_true_eq_false, not_false_eq_true, nc0, nc1, nc2, nc3, nc4, nc5, nc6, nc7, nc8, nc9, nc10, nc11, nc12, nc13, nc14, nc15, nc16, nc17, nc18, nc19, nc20, nc21, nc22, nc23, nc35, nc47, nc59, nc60, nc61, nc73, nc74, nc214, nc215, nc1115, nc2230, nc3345, if_true, if_false, Int.reduceToNat]
theorem lw_joinings {sh : List (Nat × Nat)} {L : Nat} {xs : Nat → Int32} {h : Hp} {x : Int} (iv : INV sh L xs h) (hL : L ≤ 3072) (hx : 0 ≤ x ∧ x + 6 ≤ L) : LwT sh L xs x 647 h := by
  obtain ⟨h1, h2, z, e1, e2, ⟨ok1, ok2, ok3⟩, iv2⟩ := op_joinings (x := (hI h 1 (x + 1).toNat)) iv (iv.r _)
  obtain ⟨k1, k2, k3, k4⟩ := iv.k
  refine ⟨h2, ?_, iv2⟩
  simp (disch := omega) only [Lw_law_647, wr_id, ix_id, okx, if_pos, if_neg, Int.toNat_of_nonneg, bak_v, bak_n, wr_b01, wr_bt, b01_or, b01_0, b01_1, lc_lt0, lc_gt0, lc_eq0, wl_wr, wr_wr, wl_id, true_and, and_true, true_or, or_true, not_true_eq_false, not_false_eq_true, nc0, nc1, nc2, nc3, nc4, nc5, nc6, nc7, nc8, nc9, nc10, nc11, nc12, nc13, nc14, nc15, nc16, nc17, nc18, nc19, nc20, nc21, nc22, nc23, nc35, nc47, nc59, nc60, nc61, nc73, nc74, nc214, nc215, nc1115, nc2230, nc3345, if_true, if_false, Int.reduceToNat, k1, k2, k3, e1]
  simp (disch := omega) only [Lw_law_656, wr_id, ix_id, okx, if_pos, if_neg, Int.toNat_of_nonneg, bak_v, bak_n, wr_b01, wr_bt, b01_or, b01_0, b01_1, lc_lt0, lc_gt0, lc_eq0, wl_wr, wr_wr, wl_id, true_and, and_true, true_or, or_true, not_true_eq_false, not_false_eq_true, nc0, nc1, nc2, nc3, nc4, nc5, nc6, nc7, nc8, nc9, nc10, nc11, nc12, nc13, nc14, nc15, nc16, nc17, nc18, nc19, nc20, nc21, nc22, nc23, nc35, nc47, nc59, nc60, nc61, nc73, nc74, nc214, nc215, nc1115, nc2230, nc3345, if_true, if_false, Int.reduceToNat, ok1, ok2, ok3, k1, k2, k4, e2]
  simp (disch := omega) only [Lw_law_665, wr_id, ix_id, okx, if_pos, if_neg, Int.toNat_of_nonneg, bak_v, bak_n, wr_b01, wr_bt, b01_or, b01_0, b01_1, lc_lt0, lc_gt0, lc_eq0, wl_wr, wr_wr, wl_id, true_and, and_true, true_or, or_true, not_true_eq_false, not_false_eq_true, nc0, nc1, nc2, nc3, nc4, nc5, nc6, nc7, nc8, nc9, nc10, nc11, nc12, nc13, nc14, nc15, nc16, nc17, nc18, nc19, nc20, nc21, nc22, nc23, nc35, nc47, nc59, nc60, nc61, nc73, nc74, nc214, nc215, nc1115, nc2230, nc3345, if_true, if_false, Int.reduceToNat]
theorem lw_full {sh : List (Nat × Nat)} {L : Nat} {xs : Nat → Int32} {h : Hp} {x : Int} (iv : INV sh L xs h) (hL : L ≤ 3072) (hx : 0 ≤ x ∧ x + 6 ≤ L) : LwT sh L xs x 671 h := by
  obtain ⟨h1, h2, z, e1, e2, ⟨ok1, ok2, ok3⟩, iv2⟩ := op_full iv 
  obtain ⟨k1, k2, k3, k4⟩ := iv.k
  refine ⟨h2, ?_, iv2⟩
  simp (disch := omega) only [Lw_law_671, wr_id, ix_id, okx, if_pos, if_neg, Int.toNat_of_nonneg, bak_v, bak_n, wr_b01, wr_bt, b01_or, b01_0, b01_1, lc_lt0, lc_gt0, lc_eq0, wl_wr, wr_wr, wl_id, true_and, and_true, true_or, or_true, not_true_eq_false, not_false_eq_true, nc0, nc1, nc2, nc3, nc4, nc5, nc6, nc7, nc8, nc9, nc10, nc11, nc12, nc13, nc14, nc15, nc16, nc17, nc18, nc19, nc20, nc21, nc22, nc23, nc35, nc47, nc59, nc60, nc61, nc73, nc74, nc214, nc215, nc1115, nc2230, nc3345, if_true, if_false, Int.reduceToNat, k1, k2, k3, e1]
  simp (disch := omega) only [Lw_law_675, wr_id, ix_id, okx, if_pos, if_neg, Int.toNat_of_nonneg, bak_v, bak_n, wr_b01, wr_bt, b01_or, b01_0, b01_1, lc_lt0, lc_gt0, lc_eq0, wl_wr, wr_wr, wl_id, true_and, and_true, true_or, or_true, not_true_eq_false, not_false_eq_true, nc0, nc1, nc2, nc3, nc4, nc5, nc6, nc7, nc8, nc9, nc10, nc11, nc12, nc13, nc14, nc15, nc16, nc17, nc18, nc19, nc20, nc21, nc22, nc23, nc35, nc47, nc59, nc60, nc61, nc73, nc74, nc214, nc215, nc1115, nc2230, nc3345, if_true, if_false, Int.reduceToNat, ok1, ok2, ok3, k1, k2, k4, e2]
  simp (disch := omega) only [Lw_law_679, wr_id, ix_id, okx, if_pos, if_neg, Int.toNat_of_nonneg, bak_v, bak_n, wr_b01, wr_bt, b01_or, b01_0, b01_1, lc_lt0, lc_gt0, lc_eq0, wl_wr, wr_wr, wl_id, true_and, and_true, true_or, or_true, not_true_eq_false, not_false_eq_true, nc0, nc1, nc2, nc3, nc4, nc5, nc6, nc7, nc8, nc9, nc10, nc11, nc12, nc13, nc14, nc15, nc16, nc17, nc18, nc19, nc20, nc21, nc22, nc23, nc35, nc47, nc59, nc60, nc61, nc73, nc74, nc214, nc215, nc1115, nc2230, nc3345, if_true, if_false, Int.reduceToNat]
theorem lw_mended {sh : List (Nat × Nat)} {L : Nat} {xs : Nat → Int32} {h : Hp} {x : Int} (iv : INV sh L xs h) (hL : L ≤ 3072) (hx : 0 ≤ x ∧ x + 6 ≤ L) : LwT sh L xs x 684 h := by
  obtain ⟨h1, h2, z, e1, e2, ⟨ok1, ok2, ok3⟩, iv2⟩ := op_mended (u := (hI h 1 (x + 1).toNat)) iv (iv.r _)
  obtain ⟨k1, k2, k3, k4⟩ := iv.k
  refine ⟨h2, ?_, iv2⟩
  simp (disch := omega) only [Lw_law_684, wr_id, ix_id, okx, if_pos, if_neg, Int.toNat_of_nonneg, bak_v, bak_n, wr_b01, wr_bt, b01_or, b01_0, b01_1, lc_lt0, lc_gt0, lc_eq0, wl_wr, wr_wr, wl_id, true_and, and_true, true_or, or_true, not_true_eq_false, not_false_eq_true, nc0, nc1, nc2, nc3, nc4, nc5, nc6, nc7, nc8, nc9, nc10, nc11, nc12, nc13, nc14, nc15, nc16, nc17, nc18, nc19, nc20, nc21, nc22, nc23, nc35, nc47, nc59, nc60, nc61, nc73, nc74, nc214, nc215, nc1115, nc2230, nc3345, if_true, if_false, Int.reduceToNat, k1, k2, k3, e1]
  simp (disch := omega) only [Lw_law_693, wr_id, ix_id, okx, if_pos, if_neg, Int.toNat_of_nonneg, bak_v, bak_n, wr_b01, wr_bt, b01_or, b01_0, b01_1, lc_lt0, lc_gt0, lc_eq0, wl_wr, wr_wr, wl_id, true_and, and_true, true_or, or_true, not_true_eq_false, not_false_eq_true, nc0, nc1, nc2, nc3, nc4, nc5, nc6, nc7, nc8, nc9, nc10, nc11, nc12, nc13, nc14, nc15, nc16, nc17, nc18, nc19, nc20, nc21, nc22, nc23, nc35, nc47, nc59, nc60, nc61, nc73, nc74, nc214, nc215, nc1115, nc2230, nc3345, if_true, if_false, Int.reduceToNat, ok1, ok2, ok3, k1, k2, k4, e2]
  simp (disch := omega) only [Lw_law_702, wr_id, ix_id, okx, if_pos, if_neg, Int.toNat_of_nonneg, bak_v, bak_n, wr_b01, wr_bt, b01_or, b01_0, b01_1, lc_lt0, lc_gt0, lc_eq0, wl_wr, wr_wr, wl_id, true_and, and_true, true_or, or_true, not_true_eq_false, not_false_eq_true, nc0, nc1, nc2, nc3, nc4, nc5, nc6, nc7, nc8, nc9, nc10, nc11, nc12, nc13, nc14, nc15, nc16, nc17, nc18, nc19, nc20, nc21, nc22, nc23, nc35, nc47, nc59, nc60, nc61, nc73, nc74, nc214, nc215, nc1115, nc2230, nc3345, if_true, if_false, Int.reduceToNat]
theorem lw_evenest {sh : List (Nat × Nat)} {L : Nat} {xs : Nat → Int32} {h : Hp} {x : Int} (iv : INV sh L xs h) (hL : L ≤ 3072) (hx : 0 ≤ x ∧ x + 6 ≤ L) : LwT sh L xs x 707 h := by
  obtain ⟨h1, h2, z, e1, e2, ⟨ok1, ok2, ok3⟩, iv2⟩ := op_evenest (u := (hI h 1 (x + 1).toNat)) iv (iv.r _)
  obtain ⟨k1, k2, k3, k4⟩ := iv.k
  refine ⟨h2, ?_, iv2⟩
  simp (disch := omega) only [Lw_law_707, wr_id, ix_id, okx, if_pos, if_neg, Int.toNat_of_nonneg, bak_v, bak_n, wr_b01, wr_bt, b01_or, b01_0, b01_1, lc_lt0, lc_gt0, lc_eq0, wl_wr, wr_wr, wl_id, true_and, and_true, true_or, or_true, not_true_eq_false, not_false_eq_true, nc0, nc1, nc2, nc3, nc4, nc5, nc6, nc7, nc8, nc9, nc10, nc11, nc12, nc13, nc14, nc15, nc16, nc17, nc18, nc19, nc20, nc21, nc22, nc23, nc35, nc47, nc59, nc60, nc61, nc73, nc74, nc214, nc215, nc1115, nc2230, nc3345, if_true, if_false, Int.reduceToNat, k1, k2, k3, e1]
  simp (disch := omega) only [Lw_law_716, wr_id, ix_id, okx, if_pos, if_neg, Int.toNat_of_nonneg, bak_v, bak_n, wr_b01, wr_bt, b01_or, b01_0, b01_1, lc_lt0, lc_gt0, lc_eq0, wl_wr, wr_wr, wl_id, true_and, and_true, true_or, or_true, not_true_eq_false, not_false_eq_true, nc0, nc1, nc2, nc3, nc4, nc5, nc6, nc7, nc8, nc9, nc10, nc11, nc12, nc13, nc14, nc15, nc16, nc17, nc18, nc19, nc20, nc21, nc22, nc23, nc35, nc47, nc59, nc60, nc61, nc73, nc74, nc214, nc215, nc1115, nc2230, nc3345, if_true, if_false, Int.reduceToNat, ok1, ok2, ok3, k1, k2, k4, e2]
  simp (disch := omega) only [Lw_law_725, wr_id, ix_id, okx, if_pos, if_neg, Int.toNat_of_nonneg, bak_v, bak_n, wr_b01, wr_bt, b01_or, b01_0, b01_1, lc_lt0, lc_gt0, lc_eq0, wl_wr, wr_wr, wl_id, true_and, and_true, true_or, or_true, not_true_eq_false, not_false_eq_true, nc0, nc1, nc2, nc3, nc4, nc5, nc6, nc7, nc8, nc9, nc10, nc11, nc12, nc13, nc14, nc15, nc16, nc17, nc18, nc19, nc20, nc21, nc22, nc23, nc35, nc47, nc59, nc60, nc61, nc73, nc74, nc214, nc215, nc1115, nc2230, nc3345, if_true, if_false, Int.reduceToNat]
theorem lw_spread {sh : List (Nat × Nat)} {L : Nat} {xs : Nat → Int32} {h : Hp} {x : Int} (iv : INV sh L xs h) (hL : L ≤ 3072) (hx : 0 ≤ x ∧ x + 6 ≤ L) : LwT sh L xs x 730 h := by
  obtain ⟨h1, h2, z, e1, e2, ⟨ok1, ok2, ok3⟩, iv2⟩ := op_spread iv 
  obtain ⟨k1, k2, k3, k4⟩ := iv.k
  refine ⟨h2, ?_, iv2⟩
  simp (disch := omega) only [Lw_law_730, wr_id, ix_id, okx, if_pos, if_neg, Int.toNat_of_nonneg, bak_v, bak_n, wr_b01, wr_bt, b01_or, b01_0, b01_1, lc_lt0, lc_gt0, lc_eq0, wl_wr, wr_wr, wl_id, true_and, and_true, true_or, or_true, not_true_eq_false, not_false_eq_true, nc0, nc1, nc2, nc3, nc4, nc5, nc6, nc7, nc8, nc9, nc10, nc11, nc12, nc13, nc14, nc15, nc16, nc17, nc18, nc19, nc20, nc21, nc22, nc23, nc35, nc47, nc59, nc60, nc61, nc73, nc74, nc214, nc215, nc1115, nc2230, nc3345, if_true, if_false, Int.reduceToNat, k1, k2, k3, e1]
  simp (disch := omega) only [Lw_law_734, wr_id, ix_id, okx, if_pos, if_neg, Int.toNat_of_nonneg, bak_v, bak_n, wr_b01, wr_bt, b01_or, b01_0, b01_1, lc_lt0, lc_gt0, lc_eq0, wl_wr, wr_wr, wl_id, true_and, and_true, true_or, or_true, not_true_eq_false, not_false_eq_true, nc0, nc1, nc2, nc3, nc4, nc5, nc6, nc7, nc8, nc9, nc10, nc11, nc12, nc13, nc14, nc15, nc16, nc17, nc18, nc19, nc20, nc21, nc22, nc23, nc35, nc47, nc59, nc60, nc61, nc73, nc74, nc214, nc215, nc1115, nc2230, nc3345, if_true, if_false, Int.reduceToNat, ok1, ok2, ok3, k1, k2, k4, e2]
  simp (disch := omega) only [Lw_law_738, wr_id, ix_id, okx, if_pos, if_neg, Int.toNat_of_nonneg, bak_v, bak_n, wr_b01, wr_bt, b01_or, b01_0, b01_1, lc_lt0, lc_gt0, lc_eq0, wl_wr, wr_wr, wl_id, true_and, and_true, true_or, or_true, not_true_eq_false, not_false_eq_true, nc0, nc1, nc2, nc3, nc4, nc5, nc6, nc7, nc8, nc9, nc10, nc11, nc12, nc13, nc14, nc15, nc16, nc17, nc18, nc19, nc20, nc21, nc22, nc23, nc35, nc47, nc59, nc60, nc61, nc73, nc74, nc214, nc215, nc1115, nc2230, nc3345, if_true, if_false, Int.reduceToNat]
theorem lw_fullAt {sh : List (Nat × Nat)} {L : Nat} {xs : Nat → Int32} {h : Hp} {x : Int} (iv : INV sh L xs h) (hL : L ≤ 3072) (hx : 0 ≤ x ∧ x + 6 ≤ L) : LwT sh L xs x 743 h := by
  obtain ⟨h1, h2, z, e1, e2, ⟨ok1, ok2, ok3⟩, iv2⟩ := op_fullAt (k := (hI h 1 (x + 1).toNat)) (z := (hI h 1 (x + 2).toNat)) iv (iv.r _) (iv.r _)
  obtain ⟨k1, k2, k3, k4⟩ := iv.k
  refine ⟨h2, ?_, iv2⟩
  simp (disch := omega) only [Lw_law_743, wr_id, ix_id, okx, if_pos, if_neg, Int.toNat_of_nonneg, bak_v, bak_n, wr_b01, wr_bt, b01_or, b01_0, b01_1, lc_lt0, lc_gt0, lc_eq0, wl_wr, wr_wr, wl_id, true_and, and_true, true_or, or_true, not_true_eq_false, not_false_eq_true, nc0, nc1, nc2, nc3, nc4, nc5, nc6, nc7, nc8, nc9, nc10, nc11, nc12, nc13, nc14, nc15, nc16, nc17, nc18, nc19, nc20, nc21, nc22, nc23, nc35, nc47, nc59, nc60, nc61, nc73, nc74, nc214, nc215, nc1115, nc2230, nc3345, if_true, if_false, Int.reduceToNat, k1, k2, k3, e1]
  simp (disch := omega) only [Lw_law_757, wr_id, ix_id, okx, if_pos, if_neg, Int.toNat_of_nonneg, bak_v, bak_n, wr_b01, wr_bt, b01_or, b01_0, b01_1, lc_lt0, lc_gt0, lc_eq0, wl_wr, wr_wr, wl_id, true_and, and_true, true_or, or_true, not_true_eq_false, not_false_eq_true, nc0, nc1, nc2, nc3, nc4, nc5, nc6, nc7, nc8, nc9, nc10, nc11, nc12, nc13, nc14, nc15, nc16, nc17, nc18, nc19, nc20, nc21, nc22, nc23, nc35, nc47, nc59, nc60, nc61, nc73, nc74, nc214, nc215, nc1115, nc2230, nc3345, if_true, if_false, Int.reduceToNat, ok1, ok2, ok3, k1, k2, k4, e2]
  simp (disch := omega) only [Lw_law_771, wr_id, ix_id, okx, if_pos, if_neg, Int.toNat_of_nonneg, bak_v, bak_n, wr_b01, wr_bt, b01_or, b01_0, b01_1, lc_lt0, lc_gt0, lc_eq0, wl_wr, wr_wr, wl_id, true_and, and_true, true_or, or_true, not_true_eq_false, not_false_eq_true, nc0, nc1, nc2, nc3, nc4, nc5, nc6, nc7, nc8, nc9, nc10, nc11, nc12, nc13, nc14, nc15, nc16, nc17, nc18, nc19, nc20, nc21, nc22, nc23, nc35, nc47, nc59, nc60, nc61, nc73, nc74, nc214, nc215, nc1115, nc2230, nc3345, if_true, if_false, Int.reduceToNat]
theorem lw_looks {sh : List (Nat × Nat)} {L : Nat} {xs : Nat → Int32} {h : Hp} {x : Int} (iv : INV sh L xs h) (hL : L ≤ 3072) (hx : 0 ≤ x ∧ x + 6 ≤ L) : LwT sh L xs x 776 h := by
  obtain ⟨h1, h2, z, e1, e2, ⟨ok1, ok2, ok3⟩, iv2⟩ := op_looks (t := (hI h 1 (x + 1).toNat)) (u := (hI h 1 (x + 2).toNat)) iv (iv.r _) (iv.r _)
  obtain ⟨k1, k2, k3, k4⟩ := iv.k
  refine ⟨h2, ?_, iv2⟩
  simp (disch := omega) only [Lw_law_776, wr_id, ix_id, okx, if_pos, if_neg, Int.toNat_of_nonneg, bak_v, bak_n, wr_b01, wr_bt, b01_or, b01_0, b01_1, lc_lt0, lc_gt0, lc_eq0, wl_wr, wr_wr, wl_id, true_and, and_true, true_or, or_true, not_true_eq_false, not_false_eq_true, nc0, nc1, nc2, nc3, nc4, nc5, nc6, nc7, nc8, nc9, nc10, nc11, nc12, nc13, nc14, nc15, nc16, nc17, nc18, nc19, nc20, nc21, nc22, nc23, nc35, nc47, nc59, nc60, nc61, nc73, nc74, nc214, nc215, nc1115, nc2230, nc3345, if_true, if_false, Int.reduceToNat, k1, k2, k3, e1]
  simp (disch := omega) only [Lw_law_790, wr_id, ix_id, okx, if_pos, if_neg, Int.toNat_of_nonneg, bak_v, bak_n, wr_b01, wr_bt, b01_or, b01_0, b01_1, lc_lt0, lc_gt0, lc_eq0, wl_wr, wr_wr, wl_id, true_and, and_true, true_or, or_true, not_true_eq_false, not_false_eq_true, nc0, nc1, nc2, nc3, nc4, nc5, nc6, nc7, nc8, nc9, nc10, nc11, nc12, nc13, nc14, nc15, nc16, nc17, nc18, nc19, nc20, nc21, nc22, nc23, nc35, nc47, nc59, nc60, nc61, nc73, nc74, nc214, nc215, nc1115, nc2230, nc3345, if_true, if_false, Int.reduceToNat, ok1, ok2, ok3, k1, k2, k4, e2]
  simp (disch := omega) only [Lw_law_804, wr_id, ix_id, okx, if_pos, if_neg, Int.toNat_of_nonneg, bak_v, bak_n, wr_b01, wr_bt, b01_or, b01_0, b01_1, lc_lt0, lc_gt0, lc_eq0, wl_wr, wr_wr, wl_id, true_and, and_true, true_or, or_true, not_true_eq_false, not_false_eq_true, nc0, nc1, nc2, nc3, nc4, nc5, nc6, nc7, nc8, nc9, nc10, nc11, nc12, nc13, nc14, nc15, nc16, nc17, nc18, nc19, nc20, nc21, nc22, nc23, nc35, nc47, nc59, nc60, nc61, nc73, nc74, nc214, nc215, nc1115, nc2230, nc3345, if_true, if_false, Int.reduceToNat]
theorem lw_rounds {sh : List (Nat × Nat)} {L : Nat} {xs : Nat → Int32} {h : Hp} {x : Int} (iv : INV sh L xs h) (hL : L ≤ 3072) (hx : 0 ≤ x ∧ x + 6 ≤ L) : LwT sh L xs x 809 h := by
  obtain ⟨h1, h2, z, e1, e2, ⟨ok1, ok2, ok3⟩, iv2⟩ := op_rounds (t := (hI h 1 (x + 1).toNat)) (u := (hI h 1 (x + 2).toNat)) iv (iv.r _) (iv.r _)
  obtain ⟨k1, k2, k3, k4⟩ := iv.k
  refine ⟨h2, ?_, iv2⟩
  simp (disch := omega) only [Lw_law_809, wr_id, ix_id, okx, if_pos, if_neg, Int.toNat_of_nonneg, bak_v, bak_n, wr_b01, wr_bt, b01_or, b01_0, b01_1, lc_lt0, lc_gt0, lc_eq0, wl_wr, wr_wr, wl_id, true_and, and_true, true_or, or_true, not_true_eq_false, not_false_eq_true, nc0, nc1, nc2, nc3, nc4, nc5, nc6, nc7, nc8, nc9, nc10, nc11, nc12, nc13, nc14, nc15, nc16, nc17, nc18, nc19, nc20, nc21, nc22, nc23, nc35, nc47, nc59, nc60, nc61, nc73, nc74, nc214, nc215, nc1115, nc2230, nc3345, if_true, if_false, Int.reduceToNat, k1, k2, k3, e1]
  simp (disch := omega) only [Lw_law_823, wr_id, ix_id, okx, if_pos, if_neg, Int.toNat_of_nonneg, bak_v, bak_n, wr_b01, wr_bt, b01_or, b01_0, b01_1, lc_lt0, lc_gt0, lc_eq0, wl_wr, wr_wr, wl_id, true_and, and_true, true_or, or_true, not_true_eq_false, not_false_eq_true, nc0, nc1, nc2, nc3, nc4, nc5, nc6, nc7, nc8, nc9, nc10, nc11, nc12, nc13, nc14, nc15, nc16, nc17, nc18, nc19, nc20, nc21, nc22, nc23, nc35, nc47, nc59, nc60, nc61, nc73, nc74, nc214, nc215, nc1115, nc2230, nc3345, if_true, if_false, Int.reduceToNat, ok1, ok2, ok3, k1, k2, k4, e2]
  simp (disch := omega) only [Lw_law_837, wr_id, ix_id, okx, if_pos, if_neg, Int.toNat_of_nonneg, bak_v, bak_n, wr_b01, wr_bt, b01_or, b01_0, b01_1, lc_lt0, lc_gt0, lc_eq0, wl_wr, wr_wr, wl_id, true_and, and_true, true_or, or_true, not_true_eq_false, not_false_eq_true, nc0, nc1, nc2, nc3, nc4, nc5, nc6, nc7, nc8, nc9, nc10, nc11, nc12, nc13, nc14, nc15, nc16, nc17, nc18, nc19, nc20, nc21, nc22, nc23, nc35, nc47, nc59, nc60, nc61, nc73, nc74, nc214, nc215, nc1115, nc2230, nc3345, if_true, if_false, Int.reduceToNat]
theorem lw_pleats {sh : List (Nat × Nat)} {L : Nat} {xs : Nat → Int32} {h : Hp} {x : Int} (iv : INV sh L xs h) (hL : L ≤ 3072) (hx : 0 ≤ x ∧ x + 6 ≤ L) : LwT sh L xs x 842 h := by
  obtain ⟨h1, h2, z, e1, e2, ⟨ok1, ok2, ok3⟩, iv2⟩ := op_pleats (u := (hI h 1 (x + 1).toNat)) iv (iv.r _)
  obtain ⟨k1, k2, k3, k4⟩ := iv.k
  refine ⟨h2, ?_, iv2⟩
  simp (disch := omega) only [Lw_law_842, wr_id, ix_id, okx, if_pos, if_neg, Int.toNat_of_nonneg, bak_v, bak_n, wr_b01, wr_bt, b01_or, b01_0, b01_1, lc_lt0, lc_gt0, lc_eq0, wl_wr, wr_wr, wl_id, true_and, and_true, true_or, or_true, not_true_eq_false, not_false_eq_true, nc0, nc1, nc2, nc3, nc4, nc5, nc6, nc7, nc8, nc9, nc10, nc11, nc12, nc13, nc14, nc15, nc16, nc17, nc18, nc19, nc20, nc21, nc22, nc23, nc35, nc47, nc59, nc60, nc61, nc73, nc74, nc214, nc215, nc1115, nc2230, nc3345, if_true, if_false, Int.reduceToNat, k1, k2, k3, e1]
  simp (disch := omega) only [Lw_law_851, wr_id, ix_id, okx, if_pos, if_neg, Int.toNat_of_nonneg, bak_v, bak_n, wr_b01, wr_bt, b01_or, b01_0, b01_1, lc_lt0, lc_gt0, lc_eq0, wl_wr, wr_wr, wl_id, true_and, and_true, true_or, or_true, not_true_eq_false, not_false_eq_true, nc0, nc1, nc2, nc3, nc4, nc5, nc6, nc7, nc8, nc9, nc10, nc11, nc12, nc13, nc14, nc15, nc16, nc17, nc18, nc19, nc20, nc21, nc22, nc23, nc35, nc47, nc59, nc60, nc61, nc73, nc74, nc214, nc215, nc1115, nc2230, nc3345, if_true, if_false, Int.reduceToNat, ok1, ok2, ok3, k1, k2, k4, e2]
  simp (disch := omega) only [Lw_law_860, wr_id, ix_id, okx, if_pos, if_neg, Int.toNat_of_nonneg, bak_v, bak_n, wr_b01, wr_bt, b01_or, b01_0, b01_1, lc_lt0, lc_gt0, lc_eq0, wl_wr, wr_wr, wl_id, true_and, and_true, true_or, or_true, not_true_eq_false, not_false_eq_true, nc0, nc1, nc2, nc3, nc4, nc5, nc6, nc7, nc8, nc9, nc10, nc11, nc12, nc13, nc14, nc15, nc16, nc17, nc18, nc19, nc20, nc21, nc22, nc23, nc35, nc47, nc59, nc60, nc61, nc73, nc74, nc214, nc215, nc1115, nc2230, nc3345, if_true, if_false, Int.reduceToNat]
theorem lw_average {sh : List (Nat × Nat)} {L : Nat} {xs : Nat → Int32} {h : Hp} {x : Int} (iv : INV sh L xs h) (hL : L ≤ 3072) (hx : 0 ≤ x ∧ x + 6 ≤ L) : LwT sh L xs x 865 h := by
  obtain ⟨h1, h2, z, e1, e2, ⟨ok1, ok2, ok3⟩, iv2⟩ := op_average (x := (hI h 1 (x + 1).toNat)) (u := (hI h 1 (x + 2).toNat)) iv (iv.r _) (iv.r _)
  obtain ⟨k1, k2, k3, k4⟩ := iv.k
  refine ⟨h2, ?_, iv2⟩
  simp (disch := omega) only [Lw_law_865, wr_id, ix_id, okx, if_pos, if_neg, Int.toNat_of_nonneg, bak_v, bak_n, wr_b01, wr_bt, b01_or, b01_0, b01_1, lc_lt0, lc_gt0, lc_eq0, wl_wr, wr_wr, wl_id, true_and, and_true, true_or, or_true, not_true_eq_false, not_false_eq_true, nc0, nc1, nc2, nc3, nc4, nc5, nc6, nc7, nc8, nc9, nc10, nc11, nc12, nc13, nc14, nc15, nc16, nc17, nc18, nc19, nc20, nc21, nc22, nc23, nc35, nc47, nc59, nc60, nc61, nc73, nc74, nc214, nc215, nc1115, nc2230, nc3345, if_true, if_false, Int.reduceToNat, k1, k2, k3, e1]
  simp (disch := omega) only [Lw_law_879, wr_id, ix_id, okx, if_pos, if_neg, Int.toNat_of_nonneg, bak_v, bak_n, wr_b01, wr_bt, b01_or, b01_0, b01_1, lc_lt0, lc_gt0, lc_eq0, wl_wr, wr_wr, wl_id, true_and, and_true, true_or, or_true, not_true_eq_false, not_false_eq_true, nc0, nc1, nc2, nc3, nc4, nc5, nc6, nc7, nc8, nc9, nc10, nc11, nc12, nc13, nc14, nc15, nc16, nc17, nc18, nc19, nc20, nc21, nc22, nc23, nc35, nc47, nc59, nc60, nc61, nc73, nc74, nc214, nc215, nc1115, nc2230, nc3345, if_true, if_false, Int.reduceToNat, ok1, ok2, ok3, k1, k2, k4, e2]
  simp (disch := omega) only [Lw_law_893, wr_id, ix_id, okx, if_pos, if_neg, Int.toNat_of_nonneg, bak_v, bak_n, wr_b01, wr_bt, b01_or, b01_0, b01_1, lc_lt0, lc_gt0, lc_eq0, wl_wr, wr_wr, wl_id, true_and, and_true, true_or, or_true, not_true_eq_false, not_false_eq_true, nc0, nc1, nc2, nc3, nc4, nc5, nc6, nc7, nc8, nc9, nc10, nc11, nc12, nc13, nc14, nc15, nc16, nc17, nc18, nc19, nc20, nc21, nc22, nc23, nc35, nc47, nc59, nc60, nc61, nc73, nc74, nc214, nc215, nc1115, nc2230, nc3345, if_true, if_false, Int.reduceToNat]
theorem lw_bestLook {sh : List (Nat × Nat)} {L : Nat} {xs : Nat → Int32} {h : Hp} {x : Int} (iv : INV sh L xs h) (hL : L ≤ 3072) (hx : 0 ≤ x ∧ x + 6 ≤ L) : LwT sh L xs x 899 h := by
  obtain ⟨h1, h2, z, e1, e2, ⟨ok1, ok2, ok3⟩, iv2⟩ := op_bestLook iv 
  obtain ⟨k1, k2, k3, k4⟩ := iv.k
  refine ⟨h2, ?_, iv2⟩
  simp (disch := omega) only [Lw_law_899, wr_id, ix_id, okx, if_pos, if_neg, Int.toNat_of_nonneg, bak_v, bak_n, wr_b01, wr_bt, b01_or, b01_0, b01_1, lc_lt0, lc_gt0, lc_eq0, wl_wr, wr_wr, wl_id, true_and, and_true, true_or, or_true, not_true_eq_false, not_false_eq_true, nc0, nc1, nc2, nc3, nc4, nc5, nc6, nc7, nc8, nc9, nc10, nc11, nc12, nc13, nc14, nc15, nc16, nc17, nc18, nc19, nc20, nc21, nc22, nc23, nc35, nc47, nc59, nc60, nc61, nc73, nc74, nc214, nc215, nc1115, nc2230, nc3345, if_true, if_false, Int.reduceToNat, k1, k2, k3, e1]
  simp (disch := omega) only [Lw_law_903, wr_id, ix_id, okx, if_pos, if_neg, Int.toNat_of_nonneg, bak_v, bak_n, wr_b01, wr_bt, b01_or, b01_0, b01_1, lc_lt0, lc_gt0, lc_eq0, wl_wr, wr_wr, wl_id, true_and, and_true, true_or, or_true, not_true_eq_false, not_false_eq_true, nc0, nc1, nc2, nc3, nc4, nc5, nc6, nc7, nc8, nc9, nc10, nc11, nc12, nc13, nc14, nc15, nc16, nc17, nc18, nc19, nc20, nc21, nc22, nc23, nc35, nc47, nc59, nc60, nc61, nc73, nc74, nc214, nc215, nc1115, nc2230, nc3345, if_true, if_false, Int.reduceToNat, ok1, ok2, ok3, k1, k2, k4, e2]
  simp (disch := omega) only [Lw_law_907, wr_id, ix_id, okx, if_pos, if_neg, Int.toNat_of_nonneg, bak_v, bak_n, wr_b01, wr_bt, b01_or, b01_0, b01_1, lc_lt0, lc_gt0, lc_eq0, wl_wr, wr_wr, wl_id, true_and, and_true, true_or, or_true, not_true_eq_false, not_false_eq_true, nc0, nc1, nc2, nc3, nc4, nc5, nc6, nc7, nc8, nc9, nc10, nc11, nc12, nc13, nc14, nc15, nc16, nc17, nc18, nc19, nc20, nc21, nc22, nc23, nc35, nc47, nc59, nc60, nc61, nc73, nc74, nc214, nc215, nc1115, nc2230, nc3345, if_true, if_false, Int.reduceToNat]
theorem lw_oneOut {sh : List (Nat × Nat)} {L : Nat} {xs : Nat → Int32} {h : Hp} {x : Int} (iv : INV sh L xs h) (hL : L ≤ 3072) (hx : 0 ≤ x ∧ x + 6 ≤ L) : LwT sh L xs x 912 h := by
  obtain ⟨h1, h2, z, e1, e2, ⟨ok1, ok2, ok3⟩, iv2⟩ := op_oneOut (k := (hI h 1 (x + 1).toNat)) (u := (hI h 1 (x + 2).toNat)) iv (iv.r _) (iv.r _)
  obtain ⟨k1, k2, k3, k4⟩ := iv.k
  refine ⟨h2, ?_, iv2⟩
  simp (disch := omega) only [Lw_law_912, wr_id, ix_id, okx, if_pos, if_neg, Int.toNat_of_nonneg, bak_v, bak_n, wr_b01, wr_bt, b01_or, b01_0, b01_1, lc_lt0, lc_gt0, lc_eq0, wl_wr, wr_wr, wl_id, true_and, and_true, true_or, or_true, not_true_eq_false, not_false_eq_true, nc0, nc1, nc2, nc3, nc4, nc5, nc6, nc7, nc8, nc9, nc10, nc11, nc12, nc13, nc14, nc15, nc16, nc17, nc18, nc19, nc20, nc21, nc22, nc23, nc35, nc47, nc59, nc60, nc61, nc73, nc74, nc214, nc215, nc1115, nc2230, nc3345, if_true, if_false, Int.reduceToNat, k1, k2, k3, e1]
  simp (disch := omega) only [Lw_law_926, wr_id, ix_id, okx, if_pos, if_neg, Int.toNat_of_nonneg, bak_v, bak_n, wr_b01, wr_bt, b01_or, b01_0, b01_1, lc_lt0, lc_gt0, lc_eq0, wl_wr, wr_wr, wl_id, true_and, and_true, true_or, or_true, not_true_eq_false, not_false_eq_true, nc0, nc1, nc2, nc3, nc4, nc5, nc6, nc7, nc8, nc9, nc10, nc11, nc12, nc13, nc14, nc15, nc16, nc17, nc18, nc19, nc20, nc21, nc22, nc23, nc35, nc47, nc59, nc60, nc61, nc73, nc74, nc214, nc215, nc1115, nc2230, nc3345, if_true, if_false, Int.reduceToNat, ok1, ok2, ok3, k1, k2, k4, e2]
  simp (disch := omega) only [Lw_law_940, wr_id, ix_id, okx, if_pos, if_neg, Int.toNat_of_nonneg, bak_v, bak_n, wr_b01, wr_bt, b01_or, b01_0, b01_1, lc_lt0, lc_gt0, lc_eq0, wl_wr, wr_wr, wl_id, true_and, and_true, true_or, or_true, not_true_eq_false, not_false_eq_true, nc0, nc1, nc2, nc3, nc4, nc5, nc6, nc7, nc8, nc9, nc10, nc11, nc12, nc13, nc14, nc15, nc16, nc17, nc18, nc19, nc20, nc21, nc22, nc23, nc35, nc47, nc59, nc60, nc61, nc73, nc74, nc214, nc215, nc1115, nc2230, nc3345, if_true, if_false, Int.reduceToNat]
theorem lw_out {sh : List (Nat × Nat)} {L : Nat} {xs : Nat → Int32} {h : Hp} {x : Int} (iv : INV sh L xs h) (hL : L ≤ 3072) (hx : 0 ≤ x ∧ x + 6 ≤ L) : LwT sh L xs x 945 h := by
  obtain ⟨h1, h2, z, e1, e2, ⟨ok1, ok2, ok3⟩, iv2⟩ := op_out (x := (hI h 1 (x + 1).toNat)) (u := (hI h 1 (x + 2).toNat)) iv (iv.r _) (iv.r _)
  obtain ⟨k1, k2, k3, k4⟩ := iv.k
  refine ⟨h2, ?_, iv2⟩
  simp (disch := omega) only [Lw_law_945, wr_id, ix_id, okx, if_pos, if_neg, Int.toNat_of_nonneg, bak_v, bak_n, wr_b01, wr_bt, b01_or, b01_0, b01_1, lc_lt0, lc_gt0, lc_eq0, wl_wr, wr_wr, wl_id, true_and, and_true, true_or, or_true, not_true_eq_false, not_false_eq_true, nc0, nc1, nc2, nc3, nc4, nc5, nc6, nc7, nc8, nc9, nc10, nc11, nc12, nc13, nc14, nc15, nc16, nc17, nc18, nc19, nc20, nc21, nc22, nc23, nc35, nc47, nc59, nc60, nc61, nc73, nc74, nc214, nc215, nc1115, nc2230, nc3345, if_true, if_false, Int.reduceToNat, k1, k2, k3, e1]
  simp (disch := omega) only [Lw_law_959, wr_id, ix_id, okx, if_pos, if_neg, Int.toNat_of_nonneg, bak_v, bak_n, wr_b01, wr_bt, b01_or, b01_0, b01_1, lc_lt0, lc_gt0, lc_eq0, wl_wr, wr_wr, wl_id, true_and, and_true, true_or, or_true, not_true_eq_false, not_false_eq_true, nc0, nc1, nc2, nc3, nc4, nc5, nc6, nc7, nc8, nc9, nc10, nc11, nc12, nc13, nc14, nc15, nc16, nc17, nc18, nc19, nc20, nc21, nc22, nc23, nc35, nc47, nc59, nc60, nc61, nc73, nc74, nc214, nc215, nc1115, nc2230, nc3345, if_true, if_false, Int.reduceToNat, ok1, ok2, ok3, k1, k2, k4, e2]
  simp (disch := omega) only [Lw_law_973, wr_id, ix_id, okx, if_pos, if_neg, Int.toNat_of_nonneg, bak_v, bak_n, wr_b01, wr_bt, b01_or, b01_0, b01_1, lc_lt0, lc_gt0, lc_eq0, wl_wr, wr_wr, wl_id, true_and, and_true, true_or, or_true, not_true_eq_false, not_false_eq_true, nc0, nc1, nc2, nc3, nc4, nc5, nc6, nc7, nc8, nc9, nc10, nc11, nc12, nc13, nc14, nc15, nc16, nc17, nc18, nc19, nc20, nc21, nc22, nc23, nc35, nc47, nc59, nc60, nc61, nc73, nc74, nc214, nc215, nc1115, nc2230, nc3345, if_true, if_false, Int.reduceToNat]
theorem lw_seen {sh : List (Nat × Nat)} {L : Nat} {xs : Nat → Int32} {h : Hp} {x : Int} (iv : INV sh L xs h) (hL : L ≤ 3072) (hx : 0 ≤ x ∧ x + 6 ≤ L) : LwT sh L xs x 978 h := by
  obtain ⟨h1, h2, z, e1, e2, ⟨ok1, ok2, ok3⟩, iv2⟩ := op_seen (t := (hI h 1 (x + 1).toNat)) iv (iv.r _)
  obtain ⟨k1, k2, k3, k4⟩ := iv.k
  refine ⟨h2, ?_, iv2⟩
  simp (disch := omega) only [Lw_law_978, wr_id, ix_id, okx, if_pos, if_neg, Int.toNat_of_nonneg, bak_v, bak_n, wr_b01, wr_bt, b01_or, b01_0, b01_1, lc_lt0, lc_gt0, lc_eq0, wl_wr, wr_wr, wl_id, true_and, and_true, true_or, or_true, not_true_eq_false, not_false_eq_true, nc0, nc1, nc2, nc3, nc4, nc5, nc6, nc7, nc8, nc9, nc10, nc11, nc12, nc13, nc14, nc15, nc16, nc17, nc18, nc19, nc20, nc21, nc22, nc23, nc35, nc47, nc59, nc60, nc61, nc73, nc74, nc214, nc215, nc1115, nc2230, nc3345, if_true, if_false, Int.reduceToNat, k1, k2, k3, e1]
  simp (disch := omega) only [Lw_law_987, wr_id, ix_id, okx, if_pos, if_neg, Int.toNat_of_nonneg, bak_v, bak_n, wr_b01, wr_bt, b01_or, b01_0, b01_1, lc_lt0, lc_gt0, lc_eq0, wl_wr, wr_wr, wl_id, true_and, and_true, true_or, or_true, not_true_eq_false, not_false_eq_true, nc0, nc1, nc2, nc3, nc4, nc5, nc6, nc7, nc8, nc9, nc10, nc11, nc12, nc13, nc14, nc15, nc16, nc17, nc18, nc19, nc20, nc21, nc22, nc23, nc35, nc47, nc59, nc60, nc61, nc73, nc74, nc214, nc215, nc1115, nc2230, nc3345, if_true, if_false, Int.reduceToNat, ok1, ok2, ok3, k1, k2, k4, e2]
  simp (disch := omega) only [Lw_law_996, wr_id, ix_id, okx, if_pos, if_neg, Int.toNat_of_nonneg, bak_v, bak_n, wr_b01, wr_bt, b01_or, b01_0, b01_1, lc_lt0, lc_gt0, lc_eq0, wl_wr, wr_wr, wl_id, true_and, and_true, true_or, or_true, not_true_eq_false, not_false_eq_true, nc0, nc1, nc2, nc3, nc4, nc5, nc6, nc7, nc8, nc9, nc10, nc11, nc12, nc13, nc14, nc15, nc16, nc17, nc18, nc19, nc20, nc21, nc22, nc23, nc35, nc47, nc59, nc60, nc61, nc73, nc74, nc214, nc215, nc1115, nc2230, nc3345, if_true, if_false, Int.reduceToNat]
theorem lw_sure {sh : List (Nat × Nat)} {L : Nat} {xs : Nat → Int32} {h : Hp} {x : Int} (iv : INV sh L xs h) (hL : L ≤ 3072) (hx : 0 ≤ x ∧ x + 6 ≤ L) : LwT sh L xs x 1002 h := by
  obtain ⟨h1, h2, z, e1, e2, ⟨ok1, ok2, ok3⟩, iv2⟩ := op_sure (t := (hI h 1 (x + 1).toNat)) (x := (hI h 1 (x + 2).toNat)) iv (iv.r _) (iv.r _)
  obtain ⟨k1, k2, k3, k4⟩ := iv.k
  refine ⟨h2, ?_, iv2⟩
  simp (disch := omega) only [Lw_law_1002, wr_id, ix_id, okx, if_pos, if_neg, Int.toNat_of_nonneg, bak_v, bak_n, wr_b01, wr_bt, b01_or, b01_0, b01_1, lc_lt0, lc_gt0, lc_eq0, wl_wr, wr_wr, wl_id, true_and, and_true, true_or, or_true, not_true_eq_false, not_false_eq_true, nc0, nc1, nc2, nc3, nc4, nc5, nc6, nc7, nc8, nc9, nc10, nc11, nc12, nc13, nc14, nc15, nc16, nc17, nc18, nc19, nc20, nc21, nc22, nc23, nc35, nc47, nc59, nc60, nc61, nc73, nc74, nc214, nc215, nc1115, nc2230, nc3345, if_true, if_false, Int.reduceToNat, k1, k2, k3, e1]
  simp (disch := omega) only [Lw_law_1016, wr_id, ix_id, okx, if_pos, if_neg, Int.toNat_of_nonneg, bak_v, bak_n, wr_b01, wr_bt, b01_or, b01_0, b01_1, lc_lt0, lc_gt0, lc_eq0, wl_wr, wr_wr, wl_id, true_and, and_true, true_or, or_true, not_true_eq_false, not_false_eq_true, nc0, nc1, nc2, nc3, nc4, nc5, nc6, nc7, nc8, nc9, nc10, nc11, nc12, nc13, nc14, nc15, nc16, nc17, nc18, nc19, nc20, nc21, nc22, nc23, nc35, nc47, nc59, nc60, nc61, nc73, nc74, nc214, nc215, nc1115, nc2230, nc3345, if_true, if_false, Int.reduceToNat, ok1, ok2, ok3, k1, k2, k4, e2]
  simp (disch := omega) only [Lw_law_1030, wr_id, ix_id, okx, if_pos, if_neg, Int.toNat_of_nonneg, bak_v, bak_n, wr_b01, wr_bt, b01_or, b01_0, b01_1, lc_lt0, lc_gt0, lc_eq0, wl_wr, wr_wr, wl_id, true_and, and_true, true_or, or_true, not_true_eq_false, not_false_eq_true, nc0, nc1, nc2, nc3, nc4, nc5, nc6, nc7, nc8, nc9, nc10, nc11, nc12, nc13, nc14, nc15, nc16, nc17, nc18, nc19, nc20, nc21, nc22, nc23, nc35, nc47, nc59, nc60, nc61, nc73, nc74, nc214, nc215, nc1115, nc2230, nc3345, if_true, if_false, Int.reduceToNat]
theorem lw_numbers {sh : List (Nat × Nat)} {L : Nat} {xs : Nat → Int32} {h : Hp} {x : Int} (iv : INV sh L xs h) (hL : L ≤ 3072) (hx : 0 ≤ x ∧ x + 6 ≤ L) : LwT sh L xs x 1035 h := by
  obtain ⟨h1, h2, z, e1, e2, ⟨ok1, ok2, ok3⟩, iv2⟩ := op_numbers (t := (hI h 1 (x + 1).toNat)) (s := (hI h 1 (x + 2).toNat)) (k := (hI h 1 (x + 3).toNat)) iv (iv.r _) (iv.r _) (iv.r _)
  obtain ⟨k1, k2, k3, k4⟩ := iv.k
  refine ⟨h2, ?_, iv2⟩
  simp (disch := omega) only [Lw_law_1035, wr_id, ix_id, okx, if_pos, if_neg, Int.toNat_of_nonneg, bak_v, bak_n, wr_b01, wr_bt, b01_or, b01_0, b01_1, lc_lt0, lc_gt0, lc_eq0, wl_wr, wr_wr, wl_id, true_and, and_true, true_or, or_true, not_true_eq_false, not_false_eq_true, nc0, nc1, nc2, nc3, nc4, nc5, nc6, nc7, nc8, nc9, nc10, nc11, nc12, nc13, nc14, nc15, nc16, nc17, nc18, nc19, nc20, nc21, nc22, nc23, nc35, nc47, nc59, nc60, nc61, nc73, nc74, nc214, nc215, nc1115, nc2230, nc3345, if_true, if_false, Int.reduceToNat, k1, k2, k3, e1]
  simp (disch := omega) only [Lw_law_1054, wr_id, ix_id, okx, if_pos, if_neg, Int.toNat_of_nonneg, bak_v, bak_n, wr_b01, wr_bt, b01_or, b01_0, b01_1, lc_lt0, lc_gt0, lc_eq0, wl_wr, wr_wr, wl_id, true_and, and_true, true_or, or_true, not_true_eq_false, not_false_eq_true, nc0, nc1, nc2, nc3, nc4, nc5, nc6, nc7, nc8, nc9, nc10, nc11, nc12, nc13, nc14, nc15, nc16, nc17, nc18, nc19, nc20, nc21, nc22, nc23, nc35, nc47, nc59, nc60, nc61, nc73, nc74, nc214, nc215, nc1115, nc2230, nc3345, if_true, if_false, Int.reduceToNat, ok1, ok2, ok3, k1, k2, k4, e2]
  simp (disch := omega) only [Lw_law_1073, wr_id, ix_id, okx, if_pos, if_neg, Int.toNat_of_nonneg, bak_v, bak_n, wr_b01, wr_bt, b01_or, b01_0, b01_1, lc_lt0, lc_gt0, lc_eq0, wl_wr, wr_wr, wl_id, true_and, and_true, true_or, or_true, not_true_eq_false, not_false_eq_true, nc0, nc1, nc2, nc3, nc4, nc5, nc6, nc7, nc8, nc9, nc10, nc11, nc12, nc13, nc14, nc15, nc16, nc17, nc18, nc19, nc20, nc21, nc22, nc23, nc35, nc47, nc59, nc60, nc61, nc73, nc74, nc214, nc215, nc1115, nc2230, nc3345, if_true, if_false, Int.reduceToNat]
theorem lw_write {sh : List (Nat × Nat)} {L : Nat} {xs : Nat → Int32} {h : Hp} {x : Int} (iv : INV sh L xs h) (hL : L ≤ 3072) (hx : 0 ≤ x ∧ x + 6 ≤ L) : LwT sh L xs x 1078 h := by
  obtain ⟨h1, h2, z, e1, e2, ⟨ok1, ok2, ok3⟩, iv2⟩ := op_write (t := (hI h 1 (x + 1).toNat)) (i := (hI h 1 (x + 2).toNat)) (v := lOr (lShl (wr (hI h 1 (x + 3).toNat)) 32) (lAnd (wr (hI h 1 (x + 4).toNat)) 4294967295)) iv (iv.r _) (iv.r _) (lOr_rng _ _)
  obtain ⟨k1, k2, k3, k4⟩ := iv.k
  refine ⟨h2, ?_, iv2⟩
  simp (disch := omega) only [Lw_law_1078, wr_id, ix_id, okx, if_pos, if_neg, Int.toNat_of_nonneg, bak_v, bak_n, wr_b01, wr_bt, b01_or, b01_0, b01_1, lc_lt0, lc_gt0, lc_eq0, wl_wr, wr_wr, wl_id, true_and, and_true, true_or, or_true, not_true_eq_false, not_false_eq_true, nc0, nc1, nc2, nc3, nc4, nc5, nc6, nc7, nc8, nc9, nc10, nc11, nc12, nc13, nc14, nc15, nc16, nc17, nc18, nc19, nc20, nc21, nc22, nc23, nc35, nc47, nc59, nc60, nc61, nc73, nc74, nc214, nc215, nc1115, nc2230, nc3345, if_true, if_false, Int.reduceToNat, k1, k2, k3, e1]
  simp (disch := omega) only [Lw_law_1112, wr_id, ix_id, okx, if_pos, if_neg, Int.toNat_of_nonneg, bak_v, bak_n, wr_b01, wr_bt, b01_or, b01_0, b01_1, lc_lt0, lc_gt0, lc_eq0, wl_wr, wr_wr, wl_id, true_and, and_true, true_or, or_true, not_true_eq_false, not_false_eq_true, nc0, nc1, nc2, nc3, nc4, nc5, nc6, nc7, nc8, nc9, nc10, nc11, nc12, nc13, nc14, nc15, nc16, nc17, nc18, nc19, nc20, nc21, nc22, nc23, nc35, nc47, nc59, nc60, nc61, nc73, nc74, nc214, nc215, nc1115, nc2230, nc3345, if_true, if_false, Int.reduceToNat, ok1, ok2, ok3, k1, k2, k4, e2]
  simp (disch := omega) only [Lw_law_1146, wr_id, ix_id, okx, if_pos, if_neg, Int.toNat_of_nonneg, bak_v, bak_n, wr_b01, wr_bt, b01_or, b01_0, b01_1, lc_lt0, lc_gt0, lc_eq0, wl_wr, wr_wr, wl_id, true_and, and_true, true_or, or_true, not_true_eq_false, not_false_eq_true, nc0, nc1, nc2, nc3, nc4, nc5, nc6, nc7, nc8, nc9, nc10, nc11, nc12, nc13, nc14, nc15, nc16, nc17, nc18, nc19, nc20, nc21, nc22, nc23, nc35, nc47, nc59, nc60, nc61, nc73, nc74, nc214, nc215, nc1115, nc2230, nc3345, if_true, if_false, Int.reduceToNat]
theorem lw_copy {sh : List (Nat × Nat)} {L : Nat} {xs : Nat → Int32} {h : Hp} {x : Int} (iv : INV sh L xs h) (hL : L ≤ 3072) (hx : 0 ≤ x ∧ x + 6 ≤ L) : LwT sh L xs x 1152 h := by
  obtain ⟨h1, h2, z, e1, e2, ⟨ok1, ok2, ok3⟩, iv2⟩ := op_copy (t := (hI h 1 (x + 1).toNat)) iv (iv.r _)
  obtain ⟨k1, k2, k3, k4⟩ := iv.k
  refine ⟨h2, ?_, iv2⟩
  simp (disch := omega) only [Lw_law_1152, wr_id, ix_id, okx, if_pos, if_neg, Int.toNat_of_nonneg, bak_v, bak_n, wr_b01, wr_bt, b01_or, b01_0, b01_1, lc_lt0, lc_gt0, lc_eq0, wl_wr, wr_wr, wl_id, true_and, and_true, true_or, or_true, not_true_eq_false, not_false_eq_true, nc0, nc1, nc2, nc3, nc4, nc5, nc6, nc7, nc8, nc9, nc10, nc11, nc12, nc13, nc14, nc15, nc16, nc17, nc18, nc19, nc20, nc21, nc22, nc23, nc35, nc47, nc59, nc60, nc61, nc73, nc74, nc214, nc215, nc1115, nc2230, nc3345, if_true, if_false, Int.reduceToNat, k1, k2, k3, e1]
  simp (disch := omega) only [Lw_law_1161, wr_id, ix_id, okx, if_pos, if_neg, Int.toNat_of_nonneg, bak_v, bak_n, wr_b01, wr_bt, b01_or, b01_0, b01_1, lc_lt0, lc_gt0, lc_eq0, wl_wr, wr_wr, wl_id, true_and, and_true, true_or, or_true, not_true_eq_false, not_false_eq_true, nc0, nc1, nc2, nc3, nc4, nc5, nc6, nc7, nc8, nc9, nc10, nc11, nc12, nc13, nc14, nc15, nc16, nc17, nc18, nc19, nc20, nc21, nc22, nc23, nc35, nc47, nc59, nc60, nc61, nc73, nc74, nc214, nc215, nc1115, nc2230, nc3345, if_true, if_false, Int.reduceToNat, ok1, ok2, ok3, k1, k2, k4, e2]
  simp (disch := omega) only [Lw_law_1170, wr_id, ix_id, okx, if_pos, if_neg, Int.toNat_of_nonneg, bak_v, bak_n, wr_b01, wr_bt, b01_or, b01_0, b01_1, lc_lt0, lc_gt0, lc_eq0, wl_wr, wr_wr, wl_id, true_and, and_true, true_or, or_true, not_true_eq_false, not_false_eq_true, nc0, nc1, nc2, nc3, nc4, nc5, nc6, nc7, nc8, nc9, nc10, nc11, nc12, nc13, nc14, nc15, nc16, nc17, nc18, nc19, nc20, nc21, nc22, nc23, nc35, nc47, nc59, nc60, nc61, nc73, nc74, nc214, nc215, nc1115, nc2230, nc3345, if_true, if_false, Int.reduceToNat]
theorem lw_image {sh : List (Nat × Nat)} {L : Nat} {xs : Nat → Int32} {h : Hp} {x : Int} (iv : INV sh L xs h) (hL : L ≤ 3072) (hx : 0 ≤ x ∧ x + 6 ≤ L) : LwT sh L xs x 1175 h := by
  obtain ⟨h1, h2, z, e1, e2, ⟨ok1, ok2, ok3⟩, iv2⟩ := op_image (i := (hI h 1 (x + 1).toNat)) iv (iv.r _)
  obtain ⟨k1, k2, k3, k4⟩ := iv.k
  refine ⟨h2, ?_, iv2⟩
  simp (disch := omega) only [Lw_law_1175, wr_id, ix_id, okx, if_pos, if_neg, Int.toNat_of_nonneg, bak_v, bak_n, wr_b01, wr_bt, b01_or, b01_0, b01_1, lc_lt0, lc_gt0, lc_eq0, wl_wr, wr_wr, wl_id, true_and, and_true, true_or, or_true, not_true_eq_false, not_false_eq_true, nc0, nc1, nc2, nc3, nc4, nc5, nc6, nc7, nc8, nc9, nc10, nc11, nc12, nc13, nc14, nc15, nc16, nc17, nc18, nc19, nc20, nc21, nc22, nc23, nc35, nc47, nc59, nc60, nc61, nc73, nc74, nc214, nc215, nc1115, nc2230, nc3345, if_true, if_false, Int.reduceToNat, k1, k2, k3, e1]
  simp (disch := omega) only [Lw_law_1184, wr_id, ix_id, okx, if_pos, if_neg, Int.toNat_of_nonneg, bak_v, bak_n, wr_b01, wr_bt, b01_or, b01_0, b01_1, lc_lt0, lc_gt0, lc_eq0, wl_wr, wr_wr, wl_id, true_and, and_true, true_or, or_true, not_true_eq_false, not_false_eq_true, nc0, nc1, nc2, nc3, nc4, nc5, nc6, nc7, nc8, nc9, nc10, nc11, nc12, nc13, nc14, nc15, nc16, nc17, nc18, nc19, nc20, nc21, nc22, nc23, nc35, nc47, nc59, nc60, nc61, nc73, nc74, nc214, nc215, nc1115, nc2230, nc3345, if_true, if_false, Int.reduceToNat, ok1, ok2, ok3, k1, k2, k4, e2]
  simp (disch := omega) only [Lw_law_1193, wr_id, ix_id, okx, if_pos, if_neg, Int.toNat_of_nonneg, bak_v, bak_n, wr_b01, wr_bt, b01_or, b01_0, b01_1, lc_lt0, lc_gt0, lc_eq0, wl_wr, wr_wr, wl_id, true_and, and_true, true_or, or_true, not_true_eq_false, not_false_eq_true, nc0, nc1, nc2, nc3, nc4, nc5, nc6, nc7, nc8, nc9, nc10, nc11, nc12, nc13, nc14, nc15, nc16, nc17, nc18, nc19, nc20, nc21, nc22, nc23, nc35, nc47, nc59, nc60, nc61, nc73, nc74, nc214, nc215, nc1115, nc2230, nc3345, if_true, if_false, Int.reduceToNat]
theorem lw_restore {sh : List (Nat × Nat)} {L : Nat} {xs : Nat → Int32} {h : Hp} {x : Int} (iv : INV sh L xs h) (hL : L ≤ 3072) (hx : 0 ≤ x ∧ x + 6 ≤ L) : LwT sh L xs x 1198 h := by
  obtain ⟨h1, h2, z, e1, e2, ⟨ok1, ok2, ok3⟩, iv2⟩ := op_restore (i := (hI h 1 (x + 1).toNat)) iv (iv.r _)
  obtain ⟨k1, k2, k3, k4⟩ := iv.k
  refine ⟨h2, ?_, iv2⟩
  simp (disch := omega) only [Lw_law_1198, wr_id, ix_id, okx, if_pos, if_neg, Int.toNat_of_nonneg, bak_v, bak_n, wr_b01, wr_bt, b01_or, b01_0, b01_1, lc_lt0, lc_gt0, lc_eq0, wl_wr, wr_wr, wl_id, true_and, and_true, true_or, or_true, not_true_eq_false, not_false_eq_true, nc0, nc1, nc2, nc3, nc4, nc5, nc6, nc7, nc8, nc9, nc10, nc11, nc12, nc13, nc14, nc15, nc16, nc17, nc18, nc19, nc20, nc21, nc22, nc23, nc35, nc47, nc59, nc60, nc61, nc73, nc74, nc214, nc215, nc1115, nc2230, nc3345, if_true, if_false, Int.reduceToNat, k1, k2, k3, e1]
  simp (disch := omega) only [Lw_law_1207, wr_id, ix_id, okx, if_pos, if_neg, Int.toNat_of_nonneg, bak_v, bak_n, wr_b01, wr_bt, b01_or, b01_0, b01_1, lc_lt0, lc_gt0, lc_eq0, wl_wr, wr_wr, wl_id, true_and, and_true, true_or, or_true, not_true_eq_false, not_false_eq_true, nc0, nc1, nc2, nc3, nc4, nc5, nc6, nc7, nc8, nc9, nc10, nc11, nc12, nc13, nc14, nc15, nc16, nc17, nc18, nc19, nc20, nc21, nc22, nc23, nc35, nc47, nc59, nc60, nc61, nc73, nc74, nc214, nc215, nc1115, nc2230, nc3345, if_true, if_false, Int.reduceToNat, ok1, ok2, ok3, k1, k2, k4, e2]
  simp (disch := omega) only [Lw_law_1216, wr_id, ix_id, okx, if_pos, if_neg, Int.toNat_of_nonneg, bak_v, bak_n, wr_b01, wr_bt, b01_or, b01_0, b01_1, lc_lt0, lc_gt0, lc_eq0, wl_wr, wr_wr, wl_id, true_and, and_true, true_or, or_true, not_true_eq_false, not_false_eq_true, nc0, nc1, nc2, nc3, nc4, nc5, nc6, nc7, nc8, nc9, nc10, nc11, nc12, nc13, nc14, nc15, nc16, nc17, nc18, nc19, nc20, nc21, nc22, nc23, nc35, nc47, nc59, nc60, nc61, nc73, nc74, nc214, nc215, nc1115, nc2230, nc3345, if_true, if_false, Int.reduceToNat]
theorem lw_count {sh : List (Nat × Nat)} {L : Nat} {xs : Nat → Int32} {h : Hp} {x : Int} (iv : INV sh L xs h) (hL : L ≤ 3072) (hx : 0 ≤ x ∧ x + 6 ≤ L) : LwT sh L xs x 1221 h := by
  obtain ⟨h1, h2, z, e1, e2, ⟨ok1, ok2, ok3⟩, iv2⟩ := op_count (u := (hI h 1 (x + 1).toNat)) iv (iv.r _)
  obtain ⟨k1, k2, k3, k4⟩ := iv.k
  refine ⟨h2, ?_, iv2⟩
  simp (disch := omega) only [Lw_law_1221, wr_id, ix_id, okx, if_pos, if_neg, Int.toNat_of_nonneg, bak_v, bak_n, wr_b01, wr_bt, b01_or, b01_0, b01_1, lc_lt0, lc_gt0, lc_eq0, wl_wr, wr_wr, wl_id, true_and, and_true, true_or, or_true, not_true_eq_false, not_false_eq_true, nc0, nc1, nc2, nc3, nc4, nc5, nc6, nc7, nc8, nc9, nc10, nc11, nc12, nc13, nc14, nc15, nc16, nc17, nc18, nc19, nc20, nc21, nc22, nc23, nc35, nc47, nc59, nc60, nc61, nc73, nc74, nc214, nc215, nc1115, nc2230, nc3345, if_true, if_false, Int.reduceToNat, k1, k2, k3, e1]
  simp (disch := omega) only [Lw_law_1230, wr_id, ix_id, okx, if_pos, if_neg, Int.toNat_of_nonneg, bak_v, bak_n, wr_b01, wr_bt, b01_or, b01_0, b01_1, lc_lt0, lc_gt0, lc_eq0, wl_wr, wr_wr, wl_id, true_and, and_true, true_or, or_true, not_true_eq_false, not_false_eq_true, nc0, nc1, nc2, nc3, nc4, nc5, nc6, nc7, nc8, nc9, nc10, nc11, nc12, nc13, nc14, nc15, nc16, nc17, nc18, nc19, nc20, nc21, nc22, nc23, nc35, nc47, nc59, nc60, nc61, nc73, nc74, nc214, nc215, nc1115, nc2230, nc3345, if_true, if_false, Int.reduceToNat, ok1, ok2, ok3, k1, k2, k4, e2]
  simp (disch := omega) only [Lw_law_1239, wr_id, ix_id, okx, if_pos, if_neg, Int.toNat_of_nonneg, bak_v, bak_n, wr_b01, wr_bt, b01_or, b01_0, b01_1, lc_lt0, lc_gt0, lc_eq0, wl_wr, wr_wr, wl_id, true_and, and_true, true_or, or_true, not_true_eq_false, not_false_eq_true, nc0, nc1, nc2, nc3, nc4, nc5, nc6, nc7, nc8, nc9, nc10, nc11, nc12, nc13, nc14, nc15, nc16, nc17, nc18, nc19, nc20, nc21, nc22, nc23, nc35, nc47, nc59, nc60, nc61, nc73, nc74, nc214, nc215, nc1115, nc2230, nc3345, if_true, if_false, Int.reduceToNat]
theorem lw_step {sh : List (Nat × Nat)} {L : Nat} {xs : Nat → Int32} {h : Hp} {x : Int} (iv : INV sh L xs h) (hL : L ≤ 3072) (hx : 0 ≤ x ∧ x + 6 ≤ L) : LwT sh L xs x 27 h := by
  obtain ⟨k1, k2, k3, k4⟩ := iv.k
  have ok : okx h 1 30 x := ⟨k1, by rw [wr_id (by omega) (by omega)]; exact hx.1, by rw [wr_id (by omega) (by omega), k2]; omega⟩
  have e27 := Lw_law_27 200 1 6 72 x h
  rw [if_pos ok] at e27
  have go : ∀ pc, EX 200 m_Lw_law 27 [(0, .inr (.inr 1)), (1, .inr (.inr 6)), (2, .inr (.inr 72)), (3, .inl x)] [] h = EX 200 m_Lw_law pc [(0, .inr (.inr 1)), (1, .inr (.inr 6)), (2, .inr (.inr 72)), (3, .inl x)] [] h → LwT sh L xs x pc h → LwT sh L xs x 27 h := fun pc e q => by
    obtain ⟨h', e', i'⟩ := q
    exact ⟨h', e.trans e', i'⟩
  generalize wr (bAnd (hI h 1 (ix x)) 63) = m at e27
  by_cases c0 : m = 0
  · rw [if_pos c0] at e27; exact go 192 e27 (lw_feed iv hL hx)
  rw [if_neg c0] at e27
  by_cases c1 : m = 1
  · rw [if_pos c1] at e27; exact go 255 e27 (lw_window iv hL hx)
  rw [if_neg c1] at e27
  by_cases c2 : m = 2
  · rw [if_pos c2] at e27; exact go 278 e27 (lw_fault iv hL hx)
  rw [if_neg c2] at e27
  by_cases c3 : m = 3
  · rw [if_pos c3] at e27; exact go 301 e27 (lw_hook iv hL hx)
  rw [if_neg c3] at e27
  by_cases c4 : m = 4
  · rw [if_pos c4] at e27; exact go 334 e27 (lw_ring iv hL hx)
  rw [if_neg c4] at e27
  by_cases c5 : m = 5
  · rw [if_pos c5] at e27; exact go 367 e27 (lw_belongs iv hL hx)
  rw [if_neg c5] at e27
  by_cases c6 : m = 6
  · rw [if_pos c6] at e27; exact go 400 e27 (lw_sags iv hL hx)
  rw [if_neg c6] at e27
  by_cases c7 : m = 7
  · rw [if_pos c7] at e27; exact go 423 e27 (lw_why iv hL hx)
  rw [if_neg c7] at e27
  by_cases c8 : m = 8
  · rw [if_pos c8] at e27; exact go 456 e27 (lw_join iv hL hx)
  rw [if_neg c8] at e27
  by_cases c9 : m = 9
  · rw [if_pos c9] at e27; exact go 489 e27 (lw_unhook iv hL hx)
  rw [if_neg c9] at e27
  by_cases c10 : m = 10
  · rw [if_pos c10] at e27; exact go 512 e27 (lw_undo iv hL hx)
  rw [if_neg c10] at e27
  by_cases c11 : m = 11
  · rw [if_pos c11] at e27; exact go 535 e27 (lw_judge iv hL hx)
  rw [if_neg c11] at e27
  by_cases c12 : m = 12
  · rw [if_pos c12] at e27; exact go 568 e27 (lw_perform iv hL hx)
  rw [if_neg c12] at e27
  by_cases c13 : m = 13
  · rw [if_pos c13] at e27; exact go 591 e27 (lw_day iv hL hx)
  rw [if_neg c13] at e27
  by_cases c14 : m = 14
  · rw [if_pos c14] at e27; exact go 624 e27 (lw_undoing iv hL hx)
  rw [if_neg c14] at e27
  by_cases c15 : m = 15
  · rw [if_pos c15] at e27; exact go 647 e27 (lw_joinings iv hL hx)
  rw [if_neg c15] at e27
  by_cases c16 : m = 16
  · rw [if_pos c16] at e27; exact go 671 e27 (lw_full iv hL hx)
  rw [if_neg c16] at e27
  by_cases c17 : m = 17
  · rw [if_pos c17] at e27; exact go 684 e27 (lw_mended iv hL hx)
  rw [if_neg c17] at e27
  by_cases c18 : m = 18
  · rw [if_pos c18] at e27; exact go 707 e27 (lw_evenest iv hL hx)
  rw [if_neg c18] at e27
  by_cases c19 : m = 19
  · rw [if_pos c19] at e27; exact go 730 e27 (lw_spread iv hL hx)
  rw [if_neg c19] at e27
  by_cases c20 : m = 20
  · rw [if_pos c20] at e27; exact go 743 e27 (lw_fullAt iv hL hx)
  rw [if_neg c20] at e27
  by_cases c21 : m = 21
  · rw [if_pos c21] at e27; exact go 776 e27 (lw_looks iv hL hx)
  rw [if_neg c21] at e27
  by_cases c22 : m = 22
  · rw [if_pos c22] at e27; exact go 809 e27 (lw_rounds iv hL hx)
  rw [if_neg c22] at e27
  by_cases c23 : m = 23
  · rw [if_pos c23] at e27; exact go 842 e27 (lw_pleats iv hL hx)
  rw [if_neg c23] at e27
  by_cases c24 : m = 24
  · rw [if_pos c24] at e27; exact go 865 e27 (lw_average iv hL hx)
  rw [if_neg c24] at e27
  by_cases c25 : m = 25
  · rw [if_pos c25] at e27; exact go 899 e27 (lw_bestLook iv hL hx)
  rw [if_neg c25] at e27
  by_cases c26 : m = 26
  · rw [if_pos c26] at e27; exact go 912 e27 (lw_oneOut iv hL hx)
  rw [if_neg c26] at e27
  by_cases c27 : m = 27
  · rw [if_pos c27] at e27; exact go 945 e27 (lw_out iv hL hx)
  rw [if_neg c27] at e27
  by_cases c28 : m = 28
  · rw [if_pos c28] at e27; exact go 978 e27 (lw_seen iv hL hx)
  rw [if_neg c28] at e27
  by_cases c29 : m = 29
  · rw [if_pos c29] at e27; exact go 1002 e27 (lw_sure iv hL hx)
  rw [if_neg c29] at e27
  by_cases c30 : m = 30
  · rw [if_pos c30] at e27; exact go 1035 e27 (lw_numbers iv hL hx)
  rw [if_neg c30] at e27
  by_cases c31 : m = 31
  · rw [if_pos c31] at e27; exact go 1078 e27 (lw_write iv hL hx)
  rw [if_neg c31] at e27
  by_cases c32 : m = 32
  · rw [if_pos c32] at e27; exact go 1152 e27 (lw_copy iv hL hx)
  rw [if_neg c32] at e27
  by_cases c33 : m = 33
  · rw [if_pos c33] at e27; exact go 1175 e27 (lw_image iv hL hx)
  rw [if_neg c33] at e27
  by_cases c34 : m = 34
  · rw [if_pos c34] at e27; exact go 1198 e27 (lw_restore iv hL hx)
  rw [if_neg c34] at e27
  by_cases c35 : m = 35
  · rw [if_pos c35] at e27; exact go 1221 e27 (lw_count iv hL hx)
  rw [if_neg c35] at e27
  exact go 1244 e27 ⟨h, rfl, iv⟩
theorem lw_go {sh : List (Nat × Nat)} {L : Nat} {xs : Nat → Int32} (hL : L ≤ 3072) : ∀ (m : Nat) (x : Int) (h : Hp), (L : Int) - x < m → 0 ≤ x → x ≤ 3078 → INV sh L xs h → ∃ h', EX 200 m_Lw_law 18 [(0, .inr (.inr 1)), (1, .inr (.inr 6)), (2, .inr (.inr 72)), (3, .inl x)] [] h = some (.inl 1, h') ∧ h'.1 = sh := by
  intro m
  induction m with
  | zero =>
    intro x h hm x0 x1 iv
    obtain ⟨k1, k2, k3, k4⟩ := iv.k
    have s1 : sL h 1 = L := by rw [sL_eq, k2]
    refine ⟨h, ?_, iv.1⟩
    rw [Lw_law_18]
    simp (disch := omega) only [wr_id, ix_id, okx, if_pos, if_neg, Int.toNat_of_nonneg, bak_v, bak_n, wr_b01, wr_bt, b01_or, b01_0, b01_1, lc_lt0, lc_gt0, lc_eq0, wl_wr, wr_wr, wl_id, true_and, and_true, true_or, or_true, not_true_eq_false, not_false_eq_true, nc0, nc1, nc2, nc3, nc4, nc5, nc6, nc7, nc8, nc9, nc10, nc11, nc12, nc13, nc14, nc15, nc16, nc17, nc18, nc19, nc20, nc21, nc22, nc23, nc35, nc47, nc59, nc60, nc61, nc73, nc74, nc214, nc215, nc1115, nc2230, nc3345, if_true, if_false, Int.reduceToNat, k1, s1, Lw_law_1250]
  | succ m ih =>
    intro x h hm x0 x1 iv
    obtain ⟨k1, k2, k3, k4⟩ := iv.k
    have s1 : sL h 1 = L := by rw [sL_eq, k2]
    by_cases c : (L : Int) - 6 < x
    · refine ⟨h, ?_, iv.1⟩
      rw [Lw_law_18]
      simp (disch := omega) only [wr_id, ix_id, okx, if_pos, if_neg, Int.toNat_of_nonneg, bak_v, bak_n, wr_b01, wr_bt, b01_or, b01_0, b01_1, lc_lt0, lc_gt0, lc_eq0, wl_wr, wr_wr, wl_id, true_and, and_true, true_or, or_true, not_true_eq_false, not_false_eq_true, nc0, nc1, nc2, nc3, nc4, nc5, nc6, nc7, nc8, nc9, nc10, nc11, nc12, nc13, nc14, nc15, nc16, nc17, nc18, nc19, nc20, nc21, nc22, nc23, nc35, nc47, nc59, nc60, nc61, nc73, nc74, nc214, nc215, nc1115, nc2230, nc3345, if_true, if_false, Int.reduceToNat, k1, s1, Lw_law_1250]
    · obtain ⟨h1, e1, iv1⟩ := lw_step iv hL ⟨x0, by omega⟩
      obtain ⟨h2, e2, s2⟩ := ih (x + 6) h1 (by omega) (by omega) (by omega) iv1
      refine ⟨h2, ?_, s2⟩
      rw [Lw_law_18]
      simp (disch := omega) only [wr_id, ix_id, okx, if_pos, if_neg, Int.toNat_of_nonneg, bak_v, bak_n, wr_b01, wr_bt, b01_or, b01_0, b01_1, lc_lt0, lc_gt0, lc_eq0, wl_wr, wr_wr, wl_id, true_and, and_true, true_or, or_true, not_true_eq_false, not_false_eq_true, nc0, nc1, nc2, nc3, nc4, nc5, nc6, nc7, nc8, nc9, nc10, nc11, nc12, nc13, nc14, nc15, nc16, nc17, nc18, nc19, nc20, nc21, nc22, nc23, nc35, nc47, nc59, nc60, nc61, nc73, nc74, nc214, nc215, nc1115, nc2230, nc3345, if_true, if_false, Int.reduceToNat, k1, s1]
      rw [e1, Lw_law_1244]
      exact e2
