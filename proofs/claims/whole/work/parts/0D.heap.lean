/-! THE INSTRUCTIONS THAT LOOK INTO THE HEAP -/
theorem fl_put {N ci k : Nat} {ad : Nat → Nat} {h h' : Hp} {a : Nat} {v : Value} (hf : ∀ j, j < N → fldV ad h' a j = if j = k then v else fldV ad h a j) : (List.range N).map (fldV ad h' a) = ((List.range N).map (fldV ad h a)).set k v := by
  rw [map_range_set]
  refine List.map_congr_left fun j hj => hf j (List.mem_range.mp hj)
theorem narrow_ref {ty : FieldType} (h : refKind ty = true) (ad : Nat → Nat) (v : Nat) : narrow ty (rvR ad v) = rvR ad v ∧ fits ty (rvR ad v) = true := by
  unfold rvR
  cases ty <;> first | (cases h; done) | (split <;> exact ⟨rfl, rfl⟩)
theorem narrow_z {v : Int} (h : v = 0 ∨ v = 1) : narrow .boolean (.int (Int32.ofInt v)) = .int (Int32.ofInt v) ∧ fits .boolean (.int (Int32.ofInt v)) = true ∧ vp_nar .boolean (Int32.ofInt v) = Int32.ofInt v := by
  rcases h with rfl | rfl <;> decide +kernel
theorem slt_new (h : Hp) (kd n : Nat) : slt (nwH h kd n) = slt h + n := by
  unfold slt nwH
  simp
theorem slt_pre {a b : Hp} (h : a.1 <+: b.1) : a.1.length ≤ b.1.length ∧ slt a ≤ slt b := by
  obtain ⟨t, ht⟩ := h
  unfold slt
  rw [← ht]
  simp
theorem sK_new_lt {h : Hp} {kd n i : Nat} (hi : i < h.1.length) : sK (nwH h kd n) i = sK h i ∧ sN (nwH h kd n) i = sN h i := by
  unfold sK sN nwH
  simp only [List.getD_eq_getElem?_getD, List.getElem?_append_left hi]
  exact ⟨trivial, trivial⟩
theorem sK_new (h : Hp) (kd n : Nat) : sK (nwH h kd n) h.1.length = kd ∧ sN (nwH h kd n) h.1.length = n := by
  unfold sK sN nwH
  simp
theorem hI_new_ne {h : Hp} {kd n i : Nat} (hi : i ≠ h.1.length) : (∀ k, hI (nwH h kd n) i k = hI h i k) ∧ (∀ k, hL (nwH h kd n) i k = hL h i k) ∧ ∀ k, hR (nwH h kd n) i k = hR h i k := by
  unfold hI hL hR nwH zap
  simp [hi]
theorem hI_new (h : Hp) (kd n : Nat) : (∀ k, hI (nwH h kd n) h.1.length k = 0) ∧ (∀ k, hL (nwH h kd n) h.1.length k = 0) ∧ ∀ k, hR (nwH h kd n) h.1.length k = 0 := by
  unfold hI hL hR nwH zap
  simp
theorem wsH_new {ad : Nat → Nat} {cA : Nat → ClassId} {h : Hp} (h6 : 6 ≤ h.1.length) (kd n : Nat) : wsH ad cA (nwH h kd n) = wsH ad cA h ++ [(ad h.1.length, cellE ad cA (nwH h kd n) h.1.length)] := by
  have hlen : (nwH h kd n).1.length = h.1.length + 1 := by simp [nwH]
  refine List.ext_getElem? fun k => ?_
  by_cases hk : k + 6 < h.1.length
  · rw [List.getElem?_append_left (by rw [wsH_len]; omega)]
    have e1 := wsH_at (ad := ad) (cA := cA) (h := nwH h kd n) (i := k + 6) (by omega) (by omega)
    have e2 := wsH_at (ad := ad) (cA := cA) (h := h) (i := k + 6) (by omega) hk
    rw [show k + 6 - 6 = k by omega] at e1 e2
    obtain ⟨g1, g2, g3⟩ := hI_new_ne (h := h) (kd := kd) (n := n) (i := k + 6) (by omega)
    rw [e1, e2, cellE_congr (sK_new_lt hk).1 (sK_new_lt hk).2 g1 g2 g3]
  · by_cases he : k + 6 = h.1.length
    · rw [List.getElem?_append_right (by rw [wsH_len]; omega), wsH_len, show k - (h.1.length - 6) = 0 by omega]
      have e1 := wsH_at (ad := ad) (cA := cA) (h := nwH h kd n) (i := k + 6) (by omega) (by omega)
      rw [show k + 6 - 6 = k by omega, he] at e1
      rw [e1]
      rfl
    · rw [List.getElem?_eq_none (by rw [wsH_len]; omega), List.getElem?_eq_none (by rw [List.length_append, wsH_len]; simp; omega)]
theorem Low.new {L : Nat} {xs : Nat → Int32} {h : Hp} (hl : Low L xs h) (kd n : Nat) : Low L xs (nwH h kd n) := by
  obtain ⟨g6, k0, k1, k2, k3, k4, k5, n1, x1, tx⟩ := hl
  have e : ∀ i, i < 6 → sK (nwH h kd n) i = sK h i ∧ sN (nwH h kd n) i = sN h i := fun i hi => sK_new_lt (by omega)
  have e' : ∀ i, i < 6 → ∀ k, hI (nwH h kd n) i k = hI h i k := fun i hi => (hI_new_ne (by omega)).1
  refine ⟨by simp [nwH]; omega, by rw [(e 0 (by omega)).1]; exact k0, by rw [(e 1 (by omega)).1]; exact k1, by rw [(e 2 (by omega)).1]; exact k2, by rw [(e 3 (by omega)).1]; exact k3, by rw [(e 4 (by omega)).1]; exact k4, by rw [(e 5 (by omega)).1]; exact k5, by rw [(e 1 (by omega)).2]; exact n1, fun j => by rw [e' 1 (by omega)]; exact x1 j, fun b hb => ⟨by rw [(e (b + 2) (by omega)).2]; exact (tx b hb).1, fun k => by rw [e' (b + 2) (by omega)]; exact (tx b hb).2 k⟩⟩
theorem Kds.new {h : Hp} (hk : Kds h) {kd : Nat} (hd : kd < 12 ∨ (20 ≤ kd ∧ kd < 27)) (n : Nat) : Kds (nwH h kd n) := by
  intro i h1 h2
  by_cases hi : i < h.1.length
  · rw [(sK_new_lt hi).1]; exact hk i h1 hi
  · have : i = h.1.length := by simp [nwH] at h2; omega
    rw [this, (sK_new h kd n).1]; exact hd
/-- the address of what is made -/
theorem new_at {bs L n0 : Nat} {xs : Nat → Int32} {ad : Nat → Nat} {cA : Nat → ClassId} {D : va_G} {s : State} (hst : Stt bs L xs ad cA D n0 s) {h : Hp} (h6 : 6 ≤ h.1.length) {q : Nat} {E : va_E} {H1 : Heap} (hP1 : va_P D vwCl (wsH ad cA h ++ [(q, E)]) H1) (hD1 : va_D (A0 bs) (wsH ad cA h ++ [(q, E)])) (hub : H1.size ≤ bs + (h.1.length - 6) + 1) : q = ad h.1.length := by
  obtain ⟨h1, -⟩ := hst
  have hlast : (wsH ad cA h ++ [(q, E)])[h.1.length - 6]? = some (q, E) := by
    rw [List.getElem?_append_right (by rw [wsH_len]; omega), wsH_len, Nat.sub_self]
    rfl
  have hq1 : q < H1.size := (hP1 _ _ hlast).lt
  have hq2 : bs ≤ q := hD1.2 _ _ hlast
  rw [h1 _ h6]
  refine Nat.le_antisymm (by omega) (Nat.not_lt.mp fun hlt => ?_)
  have hat : (wsH ad cA h ++ [(q, E)])[q - bs]? = some (ad (q - bs + 6), cellE ad cA h (q - bs + 6)) := by
    rw [List.getElem?_append_left (by rw [wsH_len]; omega)]
    have := wsH_at (ad := ad) (cA := cA) (h := h) (i := q - bs + 6) (by omega) (by omega)
    rwa [show q - bs + 6 - 6 = q - bs by omega] at this
  have := hD1.1 _ _ _ _ hat hlast (by show ad (q - bs + 6) = q; rw [h1 _ (by omega)]; omega)
  omega
theorem script_at {L : Nat} {xs : Nat → Int32} {h : Hp} (hl : Low L xs h) (hk : Kds h) {a : Nat} (ha : sK h a = 30) : a = 1 := by
  obtain ⟨g6, k0, k1, k2, k3, k4, k5, -⟩ := hl
  by_cases h6 : a < 6
  · have : a = 0 ∨ a = 1 ∨ a = 2 ∨ a = 3 ∨ a = 4 ∨ a = 5 := by omega
    rcases this with rfl | rfl | rfl | rfl | rfl | rfl <;> first | rfl | omega
  · by_cases hlen : a < h.1.length
    · have := hk a (by omega) hlen; omega
    · have := sK_out (h := h) (a := a) (by omega); omega
theorem K1 {bs L n0 : Nat} {xs : Nat → Int32} {ad : Nat → Nat} {cA : Nat → ClassId} {D : va_G} {s : State} (hst : Stt bs L xs ad cA D n0 s) {kd : Nat} (h1 : 20 ≤ kd) (h2 : kd < 27) : va_K D vwCl [(cA kd, aty kd)] s := by
  refine ⟨hst.2.2.2.1.1, fun k q hq => ?_⟩
  have hk : k < 1 := (List.getElem?_eq_some_iff.mp hq).1
  rw [show k = 0 by omega] at hq
  cases hq
  exact hst.2.2.2.2.1 kd h1 h2
theorem swi_tab (a : Int) (kk : Nat → RO) (d pc : Nat) : ∀ (l : List Int) (lo : Int), 0 ≤ lo → ((a < lo ∨ lo + l.length ≤ a) → swi a kk d (mkSw pc lo l) = kk d) ∧ (∀ (i : Nat) (o : Int), l[i]? = some o → a = lo + i → swi a kk d (mkSw pc lo l) = kk ((pc : Int) + o).toNat) := by
  intro l
  induction l with
  | nil => intro lo _; exact ⟨fun _ => rfl, fun i o hi => by cases hi⟩
  | cons o l ih =>
    intro lo hlo
    obtain ⟨i1, i2⟩ := ih (lo + 1) (by omega)
    have e : (lo.toNat : Int) = lo := Int.toNat_of_nonneg hlo
    refine ⟨fun hc => ?_, fun i o' hi ha => ?_⟩
    · simp only [mkSw, swi, e]
      rw [if_neg (by simp at hc; omega)]
      exact i1 (by simp at hc; omega)
    · simp only [mkSw, swi, e]
      cases i with
      | zero =>
        cases hi
        rw [if_pos (by omega)]
      | succ i =>
        rw [if_neg (by omega)]
        exact i2 i o' hi (by omega)
