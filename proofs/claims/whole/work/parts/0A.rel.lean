/-! THE RELATION between the abstract machine's heap and the real one -/
def rvR (ad : Nat → Nat) (r : Nat) : Value := if r = 0 then .null else .ref (ad r)
def oRf (ad : Nat → Nat) (r : Nat) : Option Nat := if r = 0 then none else some (ad r)
def rv (ad : Nat → Nat) (v : AV) : Value := match v with
  | .inl z => .int (Int32.ofInt z)
  | .inr (.inl z) => .long (Int64.ofInt z)
  | .inr (.inr r) => rvR ad r
def rl (ad : Nat → Nat) (q : Nat × AV) : Nat × Value := (q.1, rv ad q.2)
theorem va_rf_oRf (ad : Nat → Nat) (r : Nat) : va_rf (oRf ad r) = rvR ad r := by
  unfold oRf rvR
  split <;> rfl
theorem rvR_pos {ad : Nat → Nat} {r : Nat} (h : 0 < r) : rvR ad r = .ref (ad r) := if_neg (by omega)
theorem rv_cat (ad : Nat → Nat) (v : AV) : (rv ad v).category = catA v := by
  rcases v with z | z | r
  · rfl
  · rfl
  · show (rvR ad r).category = 1
    unfold rvR
    split <;> rfl
def fldV (ad : Nat → Nat) (h : Hp) (i k : Nat) : Value := if ftyp (sK h i) k = 2 then rvR ad (hR h i k) else .int (Int32.ofInt (hI h i k))
def cellE (ad : Nat → Nat) (cA : Nat → ClassId) (h : Hp) (i : Nat) : va_E :=
  if sK h i < 12 then .inr (sK h i, (List.range (nfl (sK h i))).map (fldV ad h i))
  else if sK h i = 21 then .inl (cA 21, sN h i, .inr (.inl (fun j => Int64.ofInt (hL h i j))))
  else if sK h i < 24 then .inl (cA (sK h i), sN h i, .inl (fun j => Int32.ofInt (hI h i j)))
  else .inl (cA (sK h i), sN h i, .inr (.inr (.inr (.inr (fun j => oRf ad (hR h i j))))))
def wsH (ad : Nat → Nat) (cA : Nat → ClassId) (h : Hp) : va_W := (List.range (h.1.length - 6)).map (fun i => (ad (i + 6), cellE ad cA h (i + 6)))
theorem wsH_at {ad : Nat → Nat} {cA : Nat → ClassId} {h : Hp} {i : Nat} (h6 : 6 ≤ i) (hl : i < h.1.length) : (wsH ad cA h)[i - 6]? = some (ad i, cellE ad cA h i) := by
  unfold wsH
  rw [List.getElem?_map, List.getElem?_range (by omega)]
  simp only [Option.map_some]
  rw [show i - 6 + 6 = i by omega]
theorem wsH_len (ad : Nat → Nat) (cA : Nat → ClassId) (h : Hp) : (wsH ad cA h).length = h.1.length - 6 := by simp [wsH]
theorem wsH_get {ad : Nat → Nat} {cA : Nat → ClassId} {h : Hp} {k : Nat} {q : Nat × va_E} (hq : (wsH ad cA h)[k]? = some q) : k + 6 < h.1.length ∧ q = (ad (k + 6), cellE ad cA h (k + 6)) := by
  have hk : k < (wsH ad cA h).length := (List.getElem?_eq_some_iff.mp hq).1
  rw [wsH_len] at hk
  have h1 := wsH_at (ad := ad) (cA := cA) (h := h) (i := k + 6) (by omega) (by omega)
  rw [show k + 6 - 6 = k by omega, hq] at h1
  exact ⟨by omega, Option.some.inj h1⟩
theorem cellE_congr {ad : Nat → Nat} {cA : Nat → ClassId} {h h' : Hp} {j : Nat} (hk : sK h' j = sK h j) (hn : sN h' j = sN h j) (h1 : ∀ k, hI h' j k = hI h j k) (h2 : ∀ k, hL h' j k = hL h j k) (h3 : ∀ k, hR h' j k = hR h j k) : cellE ad cA h' j = cellE ad cA h j := by
  have e : fldV ad h' j = fldV ad h j := by
    funext k
    unfold fldV
    rw [hk, h1, h3]
  unfold cellE
  simp only [hk, hn, h1, h2, h3, e]
theorem sK_eq {h h' : Hp} (hs : h'.1 = h.1) (j : Nat) : sK h' j = sK h j := by unfold sK; rw [hs]
theorem sN_eq {h h' : Hp} (hs : h'.1 = h.1) (j : Nat) : sN h' j = sN h j := by unfold sN; rw [hs]
theorem wsH_set {ad : Nat → Nat} {cA : Nat → ClassId} {h h' : Hp} {i : Nat} (h6 : 6 ≤ i) (hl : i < h.1.length) (hs : h'.1 = h.1) (hne : ∀ j, j ≠ i → (∀ k, hI h' j k = hI h j k) ∧ (∀ k, hL h' j k = hL h j k) ∧ ∀ k, hR h' j k = hR h j k) :
    wsH ad cA h' = (wsH ad cA h).set (i - 6) (ad i, cellE ad cA h' i) := by
  refine List.ext_getElem? fun k => ?_
  by_cases hk : k + 6 < h.1.length
  · have e1 := wsH_at (ad := ad) (cA := cA) (h := h') (i := k + 6) (by omega) (by rw [hs]; exact hk)
    have e2 := wsH_at (ad := ad) (cA := cA) (h := h) (i := k + 6) (by omega) hk
    rw [show k + 6 - 6 = k by omega] at e1 e2
    by_cases hki : k = i - 6
    · subst hki
      rw [List.getElem?_set_self (by rw [wsH_len]; omega), e1, show i - 6 + 6 = i by omega]
    · rw [List.getElem?_set_ne (Ne.symm hki), e1, e2]
      obtain ⟨g1, g2, g3⟩ := hne (k + 6) (by omega)
      rw [cellE_congr (sK_eq hs _) (sN_eq hs _) g1 g2 g3]
  · rw [List.getElem?_eq_none (by rw [wsH_len, hs]; omega), List.getElem?_eq_none (by rw [List.length_set, wsH_len]; omega)]
theorem map_range_set {α : Type} (N k : Nat) (f : Nat → α) (v : α) : ((List.range N).map f).set k v = (List.range N).map (fun j => if j = k then v else f j) := by
  refine List.ext_getElem? fun j => ?_
  by_cases hj : j < N
  · by_cases hk : j = k
    · subst hk
      rw [List.getElem?_set_self (by simpa using hj)]
      simp [hj]
    · rw [List.getElem?_set_ne (Ne.symm hk)]
      simp [hj, hk]
  · rw [List.getElem?_eq_none (by simp; omega), List.getElem?_eq_none (by simp; omega)]
theorem up2_ne {α : Type} {f : Nat → Nat → α} {a k j : Nat} {v : α} (h : j ≠ a) (i : Nat) : up2 f a k v j i = f j i := by
  unfold up2
  rw [if_neg (fun q => h q.1)]
theorem up2_same {α : Type} {f : Nat → Nat → α} {a k : Nat} {v : α} (i : Nat) : up2 f a k v a i = if i = k then v else f a i := by
  unfold up2
  by_cases h : i = k <;> simp [h]
theorem pI_ne {h : Hp} {a k : Nat} {v : Int} : ∀ j, j ≠ a → (∀ i, hI (pI h a k v) j i = hI h j i) ∧ (∀ i, hL (pI h a k v) j i = hL h j i) ∧ ∀ i, hR (pI h a k v) j i = hR h j i :=
  fun _ hj => ⟨fun i => up2_ne hj i, fun _ => rfl, fun _ => rfl⟩
theorem pL_ne {h : Hp} {a k : Nat} {v : Int} : ∀ j, j ≠ a → (∀ i, hI (pL h a k v) j i = hI h j i) ∧ (∀ i, hL (pL h a k v) j i = hL h j i) ∧ ∀ i, hR (pL h a k v) j i = hR h j i :=
  fun _ hj => ⟨fun _ => rfl, fun i => up2_ne hj i, fun _ => rfl⟩
theorem pR_ne {h : Hp} {a k : Nat} {v : Nat} : ∀ j, j ≠ a → (∀ i, hI (pR h a k v) j i = hI h j i) ∧ (∀ i, hL (pR h a k v) j i = hL h j i) ∧ ∀ i, hR (pR h a k v) j i = hR h j i :=
  fun _ hj => ⟨fun _ => rfl, fun _ => rfl, fun i => up2_ne hj i⟩
/-- the texts, by the places 2, 3, 4 -/
def txL : List (List Int) := [
  [114, 97, 105, 108, 32, 99, 108, 111, 116, 104, 32, 104, 111, 111, 107, 32, 114, 105, 110, 103, 32, 98, 114, 111, 107, 101, 110, 32, 108, 97, 119, 32, 99, 104, 97, 105, 114, 32, 112, 108, 101, 97, 116, 32, 115, 108, 105, 112, 32, 106, 111, 105, 110, 32, 109, 97, 114, 107, 32, 111, 114, 32, 97, 110, 100, 32, 110, 111, 116, 32, 104, 109, 32, 114, 109, 32, 104, 111, 111, 107, 115, 32, 114, 105, 110, 103, 115, 32],
  [59, 58, 43, 45, 42, 40, 41, 91, 93, 61, 60, 62],
  [32, 114, 97, 105, 108, 32, 99, 108, 111, 116, 104, 32, 104, 111, 111, 107, 32, 109, 97, 114, 107, 32, 114, 105, 110, 103, 32, 98, 114, 111, 107, 101, 110, 32, 108, 97, 119, 32, 99, 104, 97, 105, 114, 32, 112, 108, 101, 97, 116, 32, 115, 108, 105, 112, 32, 106, 111, 105, 110, 32, 111, 114, 32, 97, 110, 100, 32, 110, 111, 116, 32, 104, 109, 32, 114, 109, 32, 104, 111, 111, 107, 115, 32, 114, 105, 110, 103, 115, 32]]
def txLen : List Nat := txL.map List.length
def txB : List (List Int32) := txL.map (fun t => t.map Int32.ofInt)
/-- the cells ahead of those that are made -/
def Low (L : Nat) (xs : Nat → Int32) (h : Hp) : Prop :=
  6 ≤ h.1.length ∧ sK h 0 = 99 ∧ sK h 1 = 30 ∧ sK h 2 = 40 ∧ sK h 3 = 40 ∧ sK h 4 = 40 ∧ sK h 5 = 99 ∧ sN h 1 = L ∧ (∀ j, Int32.ofInt (hI h 1 j) = xs j) ∧ ∀ a, a < 3 → sN h (a + 2) = (txL.getD a []).length ∧ ∀ k, hI h (a + 2) k = (txL.getD a []).getD k 0
def Kds (h : Hp) : Prop := ∀ i, 6 ≤ i → i < h.1.length → sK h i < 12 ∨ (20 ≤ sK h i ∧ sK h i < 27)
def Rl (L : Nat) (xs : Nat → Int32) (ad : Nat → Nat) (cA : Nat → ClassId) (D : va_G) (h : Hp) (H : Heap) : Prop := va_P D vwCl (wsH ad cA h) H ∧ Low L xs h ∧ Kds h
theorem sK_out {h : Hp} {a : Nat} (ha : h.1.length ≤ a) : sK h a = 99 := by
  unfold sK
  rw [List.getD_eq_getElem?_getD, List.getElem?_eq_none ha]
  rfl
/-- a cell of a kind below 30 is one that was made -/
theorem made {L : Nat} {xs : Nat → Int32} {h : Hp} (hl : Low L xs h) {a kd : Nat} (hk : sK h a = kd) (hkd : kd < 30) : 6 ≤ a ∧ a < h.1.length := by
  obtain ⟨h6, k0, k1, k2, k3, k4, k5, -⟩ := hl
  refine ⟨?_, ?_⟩
  · refine Nat.not_lt.mp fun hlt => ?_
    have : a = 0 ∨ a = 1 ∨ a = 2 ∨ a = 3 ∨ a = 4 ∨ a = 5 := by omega
    rcases this with rfl | rfl | rfl | rfl | rfl | rfl <;> omega
  · refine Nat.not_le.mp fun hle => ?_
    have := sK_out hle
    omega
theorem Low.kept {L : Nat} {xs : Nat → Int32} {h h' : Hp} (hl : Low L xs h) {a : Nat} (h6 : 6 ≤ a) (hs : h'.1 = h.1) (hne : ∀ j, j ≠ a → (∀ k, hI h' j k = hI h j k) ∧ (∀ k, hL h' j k = hL h j k) ∧ ∀ k, hR h' j k = hR h j k) : Low L xs h' := by
  obtain ⟨g6, k0, k1, k2, k3, k4, k5, n1, x1, tx⟩ := hl
  refine ⟨by rw [hs]; exact g6, by rw [sK_eq hs]; exact k0, by rw [sK_eq hs]; exact k1, by rw [sK_eq hs]; exact k2, by rw [sK_eq hs]; exact k3, by rw [sK_eq hs]; exact k4, by rw [sK_eq hs]; exact k5, by rw [sN_eq hs]; exact n1, fun j => ?_, fun b hb => ⟨?_, fun k => ?_⟩⟩
  · rw [(hne 1 (by omega)).1]; exact x1 j
  · rw [sN_eq hs]; exact (tx b hb).1
  · rw [(hne (b + 2) (by omega)).1]; exact (tx b hb).2 k
theorem Kds.kept {h h' : Hp} (hk : Kds h) (hs : h'.1 = h.1) : Kds h' := fun i h1 h2 => by rw [sK_eq hs]; exact hk i h1 (by rw [← hs]; exact h2)
/-- what a store does to the relation -/
theorem Rl.put {L : Nat} {xs : Nat → Int32} {ad : Nat → Nat} {cA : Nat → ClassId} {D : va_G} {h h' : Hp} {H H1 : Heap} (hr : Rl L xs ad cA D h H) {a : Nat} {ee : va_E} (h6 : 6 ≤ a) (hl : a < h.1.length) (hs : h'.1 = h.1) (hne : ∀ j, j ≠ a → (∀ k, hI h' j k = hI h j k) ∧ (∀ k, hL h' j k = hL h j k) ∧ ∀ k, hR h' j k = hR h j k)
    (hP : va_P D vwCl ((wsH ad cA h).set (a - 6) (ad a, ee)) H1) (he : cellE ad cA h' a = ee) : Rl L xs ad cA D h' H1 :=
  ⟨by rw [wsH_set h6 hl hs hne, he]; exact hP, hr.2.1.kept h6 hs hne, hr.2.2.kept hs⟩
theorem cellE_obj {ad : Nat → Nat} {cA : Nat → ClassId} {h : Hp} {a ci : Nat} (hk : sK h a = ci) (hc : ci < 12) : cellE ad cA h a = .inr (ci, (List.range (nfl ci)).map (fldV ad h a)) := by
  unfold cellE
  rw [if_pos (by omega), hk]
theorem cellE_long {ad : Nat → Nat} {cA : Nat → ClassId} {h : Hp} {a : Nat} (hk : sK h a = 21) : cellE ad cA h a = .inl (cA 21, sN h a, .inr (.inl (fun j => Int64.ofInt (hL h a j)))) := by
  unfold cellE
  rw [if_neg (by omega), if_pos hk]
theorem cellE_int {ad : Nat → Nat} {cA : Nat → ClassId} {h : Hp} {a kd : Nat} (hk : sK h a = kd) (hc : kd = 20 ∨ kd = 22 ∨ kd = 23) : cellE ad cA h a = .inl (cA kd, sN h a, .inl (fun j => Int32.ofInt (hI h a j))) := by
  unfold cellE
  rw [if_neg (by omega), if_neg (by omega), if_pos (by omega), hk]
theorem cellE_ref {ad : Nat → Nat} {cA : Nat → ClassId} {h : Hp} {a kd : Nat} (hk : sK h a = kd) (hc : 24 ≤ kd ∧ kd < 27) : cellE ad cA h a = .inl (cA kd, sN h a, .inr (.inr (.inr (.inr (fun j => oRf ad (hR h a j)))))) := by
  unfold cellE
  rw [if_neg (by omega), if_neg (by omega), if_neg (by omega), hk]
