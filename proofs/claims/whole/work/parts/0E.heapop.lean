theorem swi_lk (a : Int) (kk : Nat → RO) (d : Nat) (pc : Nat) (dd : Int) (hd : (pc : Int) + dd = (d : Int)) : ∀ (l : List (Int × Int)), (∀ q ∈ l, 0 ≤ q.1) → (∀ q ∈ l, 0 ≤ (pc : Int) + q.2) → ∃ t : Nat, swi a kk d (mkLk pc l) = kk t ∧ (pc : Int) + Op.lookupswitch.offset l dd a = (t : Int) := by
  intro l
  induction l with
  | nil => intro _ _; exact ⟨d, rfl, hd⟩
  | cons q l ih =>
    intro h1 h2
    obtain ⟨b, o⟩ := q
    have e : (b.toNat : Int) = b := Int.toNat_of_nonneg (h1 _ List.mem_cons_self)
    rw [Op.lookupswitch.offset_cons]
    simp only [mkLk, swi, e]
    by_cases hb : a = b
    · rw [if_pos hb, if_pos hb.symm]
      exact ⟨_, rfl, (Int.toNat_of_nonneg (h2 _ List.mem_cons_self)).symm⟩
    · rw [if_neg hb, if_neg (fun q => hb q.symm)]
      exact ih (fun q hq => h1 q (List.mem_cons_of_mem _ hq)) (fun q hq => h2 q (List.mem_cons_of_mem _ hq))
section SIMH
variable {p : Program} {l : Launch} {e : Env} {R : Room} {s : State} {m : MethodId} {args : Array Value} {below : List Frame} {meth : Method} {c : Code} {Q : State → Prop}
variable {bs L n0 s0 md d : Nat} {xs : Nat → Int32} {ad : Nat → Nat} {cA : Nat → ClassId} {D : va_G} {r : AV × Hp}
set_option maxHeartbeats 8000000 in
theorem heapOp (hA : Act p R s m args meth c bs L xs ad cA D md n0 d) (hf : r.2.1.length ≤ n0 + R.cells ∧ slt r.2 ≤ s0 + R.slots) {K : KT} {C : CT} {k : NT} {ee : AE} {ls : AL} {st : List AV} {h : Hp}
    (hkp : ∀ ls' st' h', k ls' st' h' = some r → h'.1 <+: r.2.1)
    (hk : ∀ ls' st' h', k ls' st' h' = some r → Wst p l e R s m args below meth c Q bs L xs ad cA D md n0 s0 (ee.1 + ee.2.2.1) ls' st' h')
    (hK : ∀ pc' ls' st' h', K pc' ls' st' h' = some r → Wst p l e R s m args below meth c Q bs L xs ad cA D md n0 s0 pc' ls' st' h') : HeapOp p l e R s m args below meth c Q bs L xs ad cA D md n0 s0 r K C ee ls st h k := by
  intro hop hp hd hhp
  obtain ⟨pc, ins, len, ⟨x, y, t, w, z⟩, k1, k2⟩ := ee
  obtain ⟨hmd, hx, hb, hrt, hml, hown, hts, hlk, hin, hst, hfr, hlo⟩ := id hA
  have hK0 : va_K D vwCl [] s := hst.2.2.2.1
  have hA0 : ∀ q, s.heap.size ≤ q → A0 bs q := fun q hq => by have := hst.2.2.1; show bs ≤ q; omega
  dsimp only at hk hop hp hd hhp ⊢
  cases ins <;> first | (cases hhp; done) | skip
  case tableswitch dd lo hi offs =>
    simp only [chkP, Bool.and_eq_true, decide_eq_true_eq] at hp
    obtain ⟨⟨⟨⟨ho, hlo0⟩, hhi⟩, rfl⟩, hok⟩ := hp
    obtain ⟨a, tt, rfl, h1, -⟩ := s1_some hop
    obtain ⟨i1, i2⟩ := swi_tab (wr a) (fun t => K t (norm k2 ls) tt h) x pc offs.toList lo hlo0
    intro lsv H locs cells slots hRl hS hl hc hs
    by_cases hout : wr a < lo ∨ hi < wr a
    · have h2 := (i1 (by rw [Array.length_toList]; omega)).symm.trans h1
      exact lv_tableOut hx hb hd (by rw [oi_toInt]; exact hout) ho (hK _ _ _ _ h2 lsv H locs cells slots hRl hS (lv_norm hl k2) hc hs)
    · have hlt : (wr a - lo).toNat < offs.size := by omega
      have hget : offs.toList[(wr a - lo).toNat]? = some offs[(wr a - lo).toNat] := by simp [hlt]
      have h2 := (i2 _ _ hget (by omega)).symm.trans h1
      have hnn : 0 ≤ (pc : Int) + offs[(wr a - lo).toNat] := by
        have := List.all_eq_true.mp hok offs[(wr a - lo).toNat] (by simp)
        simpa using this
      exact lv_tableIn hx hb hd (by rw [oi_toInt]; omega) (by rw [oi_toInt]; omega) (off := offs[(wr a - lo).toNat]) (by rw [oi_toInt]; simp [hlt]) (Int.toNat_of_nonneg hnn).symm (hK _ _ _ _ h2 lsv H locs cells slots hRl hS (lv_norm hl k2) hc hs)
  case lookupswitch dd ps =>
    simp only [chkP, Bool.and_eq_true, decide_eq_true_eq] at hp
    obtain ⟨⟨⟨⟨ho, rfl⟩, hok⟩, hnn⟩, hsort⟩ := hp
    obtain ⟨a, tt, rfl, h1, -⟩ := s1_some hop
    obtain ⟨tg, e1, e2⟩ := swi_lk (wr a) (fun t => K t (norm k2 ls) tt h) x pc dd ho ps.toList (fun q hq => by simpa using List.all_eq_true.mp hnn q hq) (fun q hq => by simpa using List.all_eq_true.mp hok q.2 (List.mem_map.mpr ⟨q, hq, rfl⟩))
    intro lsv H locs cells slots hRl hS hl hc hs
    exact lv_lookup hx hb hd hsort (by rw [oi_toInt]) e2 (hK _ _ _ _ (e1.symm.trans h1) lsv H locs cells slots hRl hS (lv_norm hl k2) hc hs)
  case getfield i =>
    simp only [chkP, Bool.and_eq_true, beq_iff_eq, decide_eq_true_eq, isWord] at hp
    obtain ⟨⟨⟨⟨rfl, hx12⟩, hy⟩, ht⟩, hw⟩ := hp
    obtain ⟨a, tt, rfl, h0, -⟩ := r1_some hop
    try dsimp only at h0
    obtain ⟨hkd, h1⟩ := ite_some h0
    have hkd : sK h a = x := hkd
    intro lsv H locs cells slots hRl hS hl hc hs
    obtain ⟨h6, hla⟩ := made hRl.2.1 hkd (by omega)
    have hat := wsH_at (ad := ad) (cA := cA) h6 hla
    rw [cellE_obj hkd hx12] at hat
    have hv : ((List.range (nfl x)).map (fldV ad h a))[y]? = some (fldV ad h a y) := by simp [List.getElem?_range hy]
    show W p l e R s m args below meth c H locs cells slots Q (F0 m pc lsv (rvR ad a :: tt.map (rv ad)))
    rw [rvR_pos (by omega)]
    refine va_get (C := clsR x) (T := clsT x) (N := nfl x) (ref := (clsT x y).1) (index := i) hx hb hts (cl_in x hx12) hown hK0 hRl.1 (a - 6) hat (cl_at x hx12) y hy (hts _ (TBL_of _ hw rfl)) (fun _ q => q) hv hd ?_
    by_cases h2 : t = 2
    · have h3 := (if_pos h2).symm.trans h1
      have e1 : fldV ad h a y = rvR ad (hR h a y) := by unfold fldV; rw [hkd, ht, if_pos h2]
      rw [e1]
      exact hk _ _ _ h3 lsv H locs cells slots hRl hS hl hc hs
    · have h3 := (if_neg h2).symm.trans h1
      have e1 : fldV ad h a y = .int (Int32.ofInt (hI h a y)) := by unfold fldV; rw [hkd, ht, if_neg h2]
      rw [e1]
      exact hk _ _ _ h3 lsv H locs cells slots hRl hS hl hc hs
  case putfield i =>
    simp only [chkP, Bool.and_eq_true, beq_iff_eq, decide_eq_true_eq, isWord, Bool.or_eq_true, Bool.not_eq_true'] at hp
    obtain ⟨⟨⟨⟨⟨rfl, hx12⟩, hy⟩, ht⟩, hw⟩, hfin⟩ := hp
    have hcl := cl_f x hx12 y hy
    have hlink := hts _ (TBL_of _ hw rfl)
    by_cases h2 : t = 2
    · obtain ⟨a, v, tt, rfl, h0, -⟩ := rr2_some ((if_pos h2).symm.trans hop)
      obtain ⟨hkd, h1⟩ := ite_some h0
      have hkd : sK h a = x := hkd
      intro lsv H locs cells slots hRl hS hl hc hs
      obtain ⟨h6, hla⟩ := made hRl.2.1 hkd (by omega)
      have hat := wsH_at (ad := ad) (cA := cA) h6 hla
      rw [cellE_obj hkd hx12] at hat
      obtain ⟨hn, hft⟩ := narrow_ref (by rcases hcl with ⟨-, q⟩ | ⟨q, -⟩ | ⟨q, -⟩; exact q; omega; omega) ad v (ty := clsY x y)
      have ec : cellE ad cA (pR h a y v) a = .inr (x, ((List.range (nfl x)).map (fldV ad h a)).set y (rvR ad v)) := by
        rw [cellE_obj (h := pR h a y v) hkd hx12]
        congr 2
        refine fl_put (ci := x) fun j _ => ?_
        unfold fldV
        rw [show sK (pR h a y v) a = sK h a from rfl, hkd, show hR (pR h a y v) a j = (if j = y then v else hR h a j) from up2_same j, show hI (pR h a y v) a j = hI h a j from rfl]
        by_cases hj : j = y
        · subst hj; rw [ht, if_pos h2, if_pos rfl, if_pos rfl]
        · rw [if_neg hj, if_neg hj]
      show W p l e R s m args below meth c H locs cells slots Q (F0 m pc lsv (rvR ad v :: rvR ad a :: tt.map (rv ad)))
      rw [rvR_pos (r := a) (by omega)]
      cases hff : (clsT x y).2.2.2 with
      | false => exact va_put (C := clsR x) (T := clsT x) (N := nfl x) (ref := (clsT x y).1) (index := i) hx hb hts (cl_in x hx12) (clsY x) (cl_ty x hx12) (cl_nm x hx12) hown hK0 hRl.1 (hst.D h) hS (a - 6) hat (cl_at x hx12) y hy hlink (fun _ q => q) hff (cl_ty x hx12 y hy) hn hft (by simpa using hy) hd (fun H1 locs1 hP1 _ hS1 => hk _ _ _ h1 lsv H1 locs1 cells slots (hRl.put h6 hla rfl pR_ne hP1 ec) hS1 hl hc hs)
      | true =>
        rw [hff] at hfin
        obtain ⟨hk2, hcr⟩ := hfin.resolve_left (by decide)
        exact va_putF (C := clsR x) (T := clsT x) (N := nfl x) (ref := (clsT x y).1) (index := i) hx hb hts (cl_in x hx12) (clsY x) (cl_ty x hx12) (cl_nm x hx12) hown hK0 hRl.1 (hst.D h) hS (a - 6) hat (cl_at x hx12) y hy hlink (fun _ q => q) hff (hin hk2) ((cl_own x hx12 y hy).trans hcr) (cl_ty x hx12 y hy) hn hft (by simpa using hy) hd (fun H1 locs1 hP1 _ hS1 => hk _ _ _ h1 lsv H1 locs1 cells slots (hRl.put h6 hla rfl pR_ne hP1 ec) hS1 hl hc hs)
    · obtain ⟨a, v, tt, rfl, h0, -⟩ := sr2_some ((if_neg h2).symm.trans hop)
      obtain ⟨hkd, h1⟩ := ite_some h0
      have hkd : sK h a = x := hkd
      obtain ⟨h1, hn, hft⟩ : k ls tt (pI h a y v) = some r ∧ narrow (clsY x y) (.int (Int32.ofInt v)) = .int (Int32.ofInt v) ∧ fits (clsY x y) (.int (Int32.ofInt v)) = true := by
        by_cases h3 : t = 3
        · obtain ⟨hv, h4⟩ := ite_some ((if_pos h3).symm.trans h1)
          obtain ⟨n1, n2, -⟩ := narrow_z hv
          rcases hcl with ⟨q, -⟩ | ⟨-, q⟩ | ⟨q, -⟩
          · omega
          · rw [q]; exact ⟨h4, n1, n2⟩
          · omega
        · have h4 := (if_neg h3).symm.trans h1
          rcases hcl with ⟨q, -⟩ | ⟨q, -⟩ | ⟨-, q⟩
          · omega
          · omega
          · rw [q]; exact ⟨h4, rfl, rfl⟩
      intro lsv H locs cells slots hRl hS hl hc hs
      obtain ⟨h6, hla⟩ := made hRl.2.1 hkd (by omega)
      have hat := wsH_at (ad := ad) (cA := cA) h6 hla
      rw [cellE_obj hkd hx12] at hat
      have ec : cellE ad cA (pI h a y v) a = .inr (x, ((List.range (nfl x)).map (fldV ad h a)).set y (.int (Int32.ofInt v))) := by
        rw [cellE_obj (h := pI h a y v) hkd hx12]
        congr 2
        refine fl_put (ci := x) fun j _ => ?_
        unfold fldV
        rw [show sK (pI h a y v) a = sK h a from rfl, hkd, show hI (pI h a y v) a j = (if j = y then v else hI h a j) from up2_same j, show hR (pI h a y v) a j = hR h a j from rfl]
        by_cases hj : j = y
        · subst hj; rw [ht, if_neg h2, if_pos rfl, if_pos rfl]
        · rw [if_neg hj, if_neg hj]
      show W p l e R s m args below meth c H locs cells slots Q (F0 m pc lsv (.int (Int32.ofInt v) :: rvR ad a :: tt.map (rv ad)))
      rw [rvR_pos (r := a) (by omega)]
      cases hff : (clsT x y).2.2.2 with
      | false => exact va_put (C := clsR x) (T := clsT x) (N := nfl x) (ref := (clsT x y).1) (index := i) hx hb hts (cl_in x hx12) (clsY x) (cl_ty x hx12) (cl_nm x hx12) hown hK0 hRl.1 (hst.D h) hS (a - 6) hat (cl_at x hx12) y hy hlink (fun _ q => q) hff (cl_ty x hx12 y hy) hn hft (by simpa using hy) hd (fun H1 locs1 hP1 _ hS1 => hk _ _ _ h1 lsv H1 locs1 cells slots (hRl.put h6 hla rfl pI_ne hP1 ec) hS1 hl hc hs)
      | true =>
        rw [hff] at hfin
        obtain ⟨hk2, hcr⟩ := hfin.resolve_left (by decide)
        exact va_putF (C := clsR x) (T := clsT x) (N := nfl x) (ref := (clsT x y).1) (index := i) hx hb hts (cl_in x hx12) (clsY x) (cl_ty x hx12) (cl_nm x hx12) hown hK0 hRl.1 (hst.D h) hS (a - 6) hat (cl_at x hx12) y hy hlink (fun _ q => q) hff (hin hk2) ((cl_own x hx12 y hy).trans hcr) (cl_ty x hx12 y hy) hn hft (by simpa using hy) hd (fun H1 locs1 hP1 _ hS1 => hk _ _ _ h1 lsv H1 locs1 cells slots (hRl.put h6 hla rfl pI_ne hP1 ec) hS1 hl hc hs)
  case iaload =>
    simp only [chkP, Bool.and_eq_true, beq_iff_eq, Bool.or_eq_true] at hp
    obtain ⟨rfl, hx2⟩ := hp
    obtain ⟨a, i, tt, rfl, h0, -⟩ := sr2_some hop
    try dsimp only at h0
    obtain ⟨⟨hkd, hi0, hi1⟩, h1⟩ := ite_some h0
    intro lsv H locs cells slots hRl hS hl hc hs
    have h2 := hk _ _ _ h1 lsv H locs cells slots hRl hS hl hc hs
    rw [← oi_clamp] at h2
    show W p l e R s m args below meth c H locs cells slots Q (F0 m pc lsv (.int (Int32.ofInt i) :: rvR ad a :: tt.map (rv ad)))
    rcases hx2 with rfl | rfl
    · obtain ⟨h6, hla⟩ := made hRl.2.1 hkd (by omega)
      have hat := wsH_at (ad := ad) (cA := cA) h6 hla
      rw [cellE_int hkd (Or.inl rfl)] at hat
      rw [rvR_pos (r := a) (by omega)]
      exact va_iald hx hb (K1 hst (kd := 20) (by omega) (by omega)) hRl.1 (a - 6) 0 hat rfl (oi_in hi0 hi1) hd h2
    · obtain rfl := script_at hRl.2.1 hRl.2.2 hkd
      rw [rvR_pos (r := 1) (by omega)]
      obtain ⟨x1, x2⟩ := hst.2.2.2.2.2.2.2.1
      refine va_sld hx hb x1 (by have := hst.2.2.1; omega) (fun q => by have q' : bs ≤ ad 1 := q; omega) hS (oi_in hi0 (by rw [hRl.2.1.2.2.2.2.2.2.2.1] at hi1; exact hi1)) hd ?_
      rw [← hRl.2.1.2.2.2.2.2.2.2.2.1]
      exact h2
  case baload =>
    simp only [chkP, Bool.and_eq_true, beq_iff_eq, Bool.or_eq_true] at hp
    obtain ⟨rfl, hx2⟩ := hp
    obtain ⟨a, i, tt, rfl, h0, -⟩ := sr2_some hop
    try dsimp only at h0
    obtain ⟨⟨hkd, hi0, hi1⟩, h1⟩ := ite_some h0
    intro lsv H locs cells slots hRl hS hl hc hs
    have h2 := hk _ _ _ h1 lsv H locs cells slots hRl hS hl hc hs
    rw [← oi_clamp] at h2
    show W p l e R s m args below meth c H locs cells slots Q (F0 m pc lsv (.int (Int32.ofInt i) :: rvR ad a :: tt.map (rv ad)))
    obtain ⟨h6, hla⟩ := made hRl.2.1 hkd (by omega)
    have hat := wsH_at (ad := ad) (cA := cA) h6 hla
    rw [cellE_int hkd (by omega)] at hat
    rw [rvR_pos (r := a) (by omega)]
    rcases hx2 with rfl | rfl
    · exact va_bald hx hb (K1 hst (kd := 22) (by omega) (by omega)) hRl.1 (a - 6) 0 hat rfl (oi_in hi0 hi1) hd h2
    · exact va_zald hx hb (K1 hst (kd := 23) (by omega) (by omega)) hRl.1 (a - 6) 0 hat rfl (oi_in hi0 hi1) hd h2
  case laload =>
    obtain rfl : len = 1 := by simpa [chkP] using hp
    obtain ⟨a, i, tt, rfl, h0, -⟩ := sr2_some hop
    try dsimp only at h0
    obtain ⟨⟨hkd, hi0, hi1⟩, h1⟩ := ite_some h0
    intro lsv H locs cells slots hRl hS hl hc hs
    have h2 := hk _ _ _ h1 lsv H locs cells slots hRl hS hl hc hs
    rw [← oi_clamp] at h2
    show W p l e R s m args below meth c H locs cells slots Q (F0 m pc lsv (.int (Int32.ofInt i) :: rvR ad a :: tt.map (rv ad)))
    obtain ⟨h6, hla⟩ := made hRl.2.1 hkd (by omega)
    have hat := wsH_at (ad := ad) (cA := cA) h6 hla
    rw [cellE_long hkd] at hat
    rw [rvR_pos (r := a) (by omega)]
    exact va_lald hx hb (K1 hst (kd := 21) (by omega) (by omega)) hRl.1 (a - 6) 0 hat rfl (oi_in hi0 hi1) hd h2
  case aaload =>
    simp only [chkP, Bool.and_eq_true, beq_iff_eq, decide_eq_true_eq] at hp
    obtain ⟨rfl, hx2⟩ := hp
    obtain ⟨a, i, tt, rfl, h0, -⟩ := sr2_some hop
    try dsimp only at h0
    obtain ⟨⟨hkd, hi0, hi1⟩, h1⟩ := ite_some h0
    intro lsv H locs cells slots hRl hS hl hc hs
    have h2 := hk _ _ _ h1 lsv H locs cells slots hRl hS hl hc hs
    show W p l e R s m args below meth c H locs cells slots Q (F0 m pc lsv (.int (Int32.ofInt i) :: rvR ad a :: tt.map (rv ad)))
    obtain ⟨h6, hla⟩ := made hRl.2.1 hkd (by omega)
    have hat := wsH_at (ad := ad) (cA := cA) h6 hla
    rw [cellE_ref hkd hx2] at hat
    rw [rvR_pos (r := a) (by omega)]
    have h3 : W p l e R s m args below meth c H locs cells slots Q (F0 m (pc + 1) lsv (va_rf (oRf ad (hR h a (Int32.ofInt i).toNatClampNeg)) :: tt.map (rv ad))) := by
      rw [va_rf_oRf, oi_clamp]
      exact h2
    obtain ⟨C0, hC0⟩ : ∃ C0, aty x = .object C0 := by
      obtain ⟨q1, q2⟩ := hx2
      have : x = 24 ∨ x = 25 ∨ x = 26 := by omega
      rcases this with rfl | rfl | rfl <;> exact ⟨_, rfl⟩
    have hKK := K1 hst (kd := x) (by omega) (by omega)
    rw [hC0] at hKK
    exact va_aldq hx hb hKK hRl.1 (a - 6) 0 hat rfl (oi_in hi0 hi1) hd h3
  case iastore =>
    obtain rfl : len = 1 := by simpa [chkP] using hp
    obtain ⟨a, i, v, tt, rfl, h0, -⟩ := ssr3_some hop
    try dsimp only at h0
    obtain ⟨⟨hkd, hi0, hi1⟩, h1⟩ := ite_some h0
    intro lsv H locs cells slots hRl hS hl hc hs
    show W p l e R s m args below meth c H locs cells slots Q (F0 m pc lsv (.int (Int32.ofInt v) :: .int (Int32.ofInt i) :: rvR ad a :: tt.map (rv ad)))
    obtain ⟨h6, hla⟩ := made hRl.2.1 hkd (by omega)
    have hat := wsH_at (ad := ad) (cA := cA) h6 hla
    rw [cellE_int hkd (by omega)] at hat
    rw [rvR_pos (r := a) (by omega)]
    refine va_iast hx hb (K1 hst (kd := 20) (by omega) (by omega)) hRl.1 (hst.D h) hS (a - 6) 0 hat rfl (oi_in hi0 hi1) hd (fun H1 locs1 hP1 _ hS1 => hk _ _ _ h1 lsv H1 locs1 cells slots (hRl.put h6 hla rfl pI_ne hP1 ?_) hS1 hl hc hs)
    rw [cellE_int (h := pI h a (ix i) v) hkd (by omega), oi_clamp, show sN (pI h a (ix i) v) a = sN h a from rfl]
    congr 4
    funext j
    show Int32.ofInt (hI (pI h a (ix i) v) a j) = upd _ _ _ j
    rw [show hI (pI h a (ix i) v) a j = (if j = ix i then v else hI h a j) from up2_same j]
    unfold upd
    split <;> rfl
  case bastore =>
    simp only [chkP, Bool.and_eq_true, beq_iff_eq, Bool.or_eq_true] at hp
    obtain ⟨rfl, hx2⟩ := hp
    obtain ⟨a, i, v, tt, rfl, h0, -⟩ := ssr3_some hop
    try dsimp only at h0
    intro lsv H locs cells slots hRl hS hl hc hs
    show W p l e R s m args below meth c H locs cells slots Q (F0 m pc lsv (.int (Int32.ofInt v) :: .int (Int32.ofInt i) :: rvR ad a :: tt.map (rv ad)))
    rcases hx2 with rfl | rfl
    · obtain ⟨⟨hkd, hi0, hi1⟩, h1⟩ := ite_some ((if_pos rfl).symm.trans h0)
      obtain ⟨h6, hla⟩ := made hRl.2.1 hkd (by omega)
      have hat := wsH_at (ad := ad) (cA := cA) h6 hla
      rw [cellE_int hkd (by omega)] at hat
      rw [rvR_pos (r := a) (by omega)]
      refine va_bast hx hb (K1 hst (kd := 22) (by omega) (by omega)) hRl.1 (hst.D h) hS (a - 6) 0 hat rfl (oi_in hi0 hi1) hd (fun H1 locs1 hP1 _ hS1 => hk _ _ _ h1 lsv H1 locs1 cells slots (hRl.put h6 hla rfl pI_ne hP1 ?_) hS1 hl hc hs)
      rw [cellE_int (h := pI h a (ix i) (bI2b v)) hkd (by omega), oi_clamp, show sN (pI h a (ix i) (bI2b v)) a = sN h a from rfl]
      congr 4
      funext j
      show Int32.ofInt (hI (pI h a (ix i) (bI2b v)) a j) = upd _ _ _ j
      rw [show hI (pI h a (ix i) (bI2b v)) a j = (if j = ix i then bI2b v else hI h a j) from up2_same j, vp_nar_byte]
      unfold upd
      split <;> rfl
    · obtain ⟨⟨⟨hkd, hi0, hi1⟩, hv⟩, h1⟩ := ite_some ((if_neg (by omega)).symm.trans h0)
      obtain ⟨h6, hla⟩ := made hRl.2.1 hkd (by omega)
      have hat := wsH_at (ad := ad) (cA := cA) h6 hla
      rw [cellE_int hkd (by omega)] at hat
      rw [rvR_pos (r := a) (by omega)]
      refine va_zast hx hb (K1 hst (kd := 23) (by omega) (by omega)) hRl.1 (hst.D h) hS (a - 6) 0 hat rfl (oi_in hi0 hi1) hd (fun H1 locs1 hP1 _ hS1 => hk _ _ _ h1 lsv H1 locs1 cells slots (hRl.put h6 hla rfl pI_ne hP1 ?_) hS1 hl hc hs)
      rw [cellE_int (h := pI h a (ix i) v) hkd (by omega), oi_clamp, show sN (pI h a (ix i) v) a = sN h a from rfl]
      congr 4
      funext j
      show Int32.ofInt (hI (pI h a (ix i) v) a j) = upd _ _ _ j
      rw [show hI (pI h a (ix i) v) a j = (if j = ix i then v else hI h a j) from up2_same j, (narrow_z hv).2.2]
      unfold upd
      split <;> rfl
  case lastore =>
    obtain rfl : len = 1 := by simpa [chkP] using hp
    obtain ⟨a, i, v, tt, rfl, h0, -⟩ := lsr3_some hop
    try dsimp only at h0
    obtain ⟨⟨hkd, hi0, hi1⟩, h1⟩ := ite_some h0
    intro lsv H locs cells slots hRl hS hl hc hs
    show W p l e R s m args below meth c H locs cells slots Q (F0 m pc lsv (.long (Int64.ofInt v) :: .int (Int32.ofInt i) :: rvR ad a :: tt.map (rv ad)))
    obtain ⟨h6, hla⟩ := made hRl.2.1 hkd (by omega)
    have hat := wsH_at (ad := ad) (cA := cA) h6 hla
    rw [cellE_long hkd] at hat
    rw [rvR_pos (r := a) (by omega)]
    refine va_last hx hb (K1 hst (kd := 21) (by omega) (by omega)) hRl.1 (hst.D h) hS (a - 6) 0 hat rfl (oi_in hi0 hi1) hd (fun H1 locs1 hP1 _ hS1 => hk _ _ _ h1 lsv H1 locs1 cells slots (hRl.put h6 hla rfl pL_ne hP1 ?_) hS1 hl hc hs)
    rw [cellE_long (h := pL h a (ix i) v) hkd, oi_clamp, show sN (pL h a (ix i) v) a = sN h a from rfl]
    congr 5
    funext j
    show Int64.ofInt (hL (pL h a (ix i) v) a j) = vp_updL _ _ _ j
    rw [show hL (pL h a (ix i) v) a j = (if j = ix i then v else hL h a j) from up2_same j]
    unfold vp_updL
    split <;> rfl
  case aastore =>
    simp only [chkP, Bool.and_eq_true, beq_iff_eq, decide_eq_true_eq] at hp
    obtain ⟨⟨rfl, hx2⟩, hy⟩ := hp
    obtain ⟨a, i, v, tt, rfl, h0, -⟩ := rsr3_some hop
    try dsimp only at h0
    obtain ⟨⟨⟨hkd, hi0, hi1⟩, hkv⟩, h1⟩ := ite_some h0
    intro lsv H locs cells slots hRl hS hl hc hs
    show W p l e R s m args below meth c H locs cells slots Q (F0 m pc lsv (rvR ad v :: .int (Int32.ofInt i) :: rvR ad a :: tt.map (rv ad)))
    have hy12 : y < 12 ∧ aty x = .object (clsR y) := by
      obtain ⟨q1, q2⟩ := hx2
      have : x = 24 ∨ x = 25 ∨ x = 26 := by omega
      rcases this with rfl | rfl | rfl <;> (subst hy; decide +kernel)
    obtain ⟨h6, hla⟩ := made hRl.2.1 hkd (by omega)
    obtain ⟨g6, gla⟩ := made hRl.2.1 hkv (by omega)
    have hat := wsH_at (ad := ad) (cA := cA) h6 hla
    rw [cellE_ref hkd hx2] at hat
    have gat := wsH_at (ad := ad) (cA := cA) g6 gla
    rw [cellE_obj hkv hy12.1] at gat
    have hKK := K1 hst (kd := x) (by omega) (by omega)
    rw [hy12.2] at hKK
    rw [rvR_pos (r := a) (by omega), rvR_pos (r := v) (by omega)]
    refine va_astq hx hb hKK hRl.1 (hst.D h) hS (a - 6) 0 (v - 6) y hat rfl gat (cl_at y hy12.1) (oi_in hi0 hi1) hd (fun H1 locs1 hP1 _ hS1 => hk _ _ _ h1 lsv H1 locs1 cells slots (hRl.put h6 hla rfl pR_ne hP1 ?_) hS1 hl hc hs)
    rw [cellE_ref (h := pR h a (ix i) v) hkd hx2, oi_clamp, show sN (pR h a (ix i) v) a = sN h a from rfl]
    congr 7
    funext j
    show oRf ad (hR (pR h a (ix i) v) a j) = va_up _ _ _ j
    rw [show hR (pR h a (ix i) v) a j = (if j = ix i then v else hR h a j) from up2_same j]
    unfold va_up
    split
    · unfold oRf; rw [if_neg (by omega)]
    · rfl
  case arraylength =>
    simp only [chkP, Bool.and_eq_true, beq_iff_eq, Bool.or_eq_true] at hp
    obtain ⟨rfl, hx2⟩ := hp
    obtain ⟨a, tt, rfl, h0, -⟩ := r1_some hop
    try dsimp only at h0
    obtain ⟨hkd, h1⟩ := ite_some h0
    have hkd : sK h a = x := hkd
    intro lsv H locs cells slots hRl hS hl hc hs
    have h2 := hk _ _ _ h1 lsv H locs cells slots hRl hS hl hc hs
    rw [List.map_cons, show rv ad (.inl (sL h a)) = .int (Int32.ofNat (sN h a)) from by show Value.int (Int32.ofInt (sL h a)) = _; rw [sL_eq]; exact congrArg Value.int (Int32.ofInt_eq_ofNat)] at h2
    show W p l e R s m args below meth c H locs cells slots Q (F0 m pc lsv (rvR ad a :: tt.map (rv ad)))
    rcases hx2 with ((rfl | rfl) | rfl) | rfl
    · obtain ⟨h6, hla⟩ := made hRl.2.1 hkd (by omega)
      have hat := wsH_at (ad := ad) (cA := cA) h6 hla
      rw [cellE_int hkd (by omega)] at hat
      rw [rvR_pos (r := a) (by omega)]
      exact va_alen hx hb (K1 hst (kd := 20) (by omega) (by omega)) hRl.1 (a - 6) 0 hat rfl rfl hd h2
    · obtain ⟨h6, hla⟩ := made hRl.2.1 hkd (by omega)
      have hat := wsH_at (ad := ad) (cA := cA) h6 hla
      rw [cellE_long hkd] at hat
      rw [rvR_pos (r := a) (by omega)]
      exact va_alen hx hb (K1 hst (kd := 21) (by omega) (by omega)) hRl.1 (a - 6) 0 hat rfl rfl hd h2
    · obtain ⟨h6, hla⟩ := made hRl.2.1 hkd (by omega)
      have hat := wsH_at (ad := ad) (cA := cA) h6 hla
      rw [cellE_int hkd (by omega)] at hat
      rw [rvR_pos (r := a) (by omega)]
      exact va_alen hx hb (K1 hst (kd := 22) (by omega) (by omega)) hRl.1 (a - 6) 0 hat rfl rfl hd h2
    · obtain rfl := script_at hRl.2.1 hRl.2.2 hkd
      rw [rvR_pos (r := 1) (by omega)]
      obtain ⟨x1, x2⟩ := hst.2.2.2.2.2.2.2.1
      rw [hRl.2.1.2.2.2.2.2.2.2.1] at h2
      exact va_slen hx hb x1 (by have := hst.2.2.1; omega) (fun q => by have q' : bs ≤ ad 1 := q; omega) hS hd h2
  case new i =>
    simp only [chkP, Bool.and_eq_true, beq_iff_eq, decide_eq_true_eq, isWord] at hp
    obtain ⟨⟨⟨rfl, hx12⟩, rfl⟩, hw⟩ := hp
    have h1 : k ls (.inr (.inr h.1.length) :: st) (nwH h x (nfl x)) = some r := hop
    intro lsv H locs cells slots hRl hS hl hc hs
    obtain ⟨p1, p2⟩ := slt_pre (hkp _ _ _ h1)
    have plen : (nwH h x (nfl x)).1.length = h.1.length + 1 := by simp [nwH]
    rw [plen] at p1
    rw [slt_new] at p2
    have h6 := hRl.2.1.1
    have hck : cellE ad cA (nwH h x (nfl x)) h.1.length = .inr (x, (List.range (nfl x)).map (fldV ad (nwH h x (nfl x)) h.1.length)) := cellE_obj (sK_new h x (nfl x)).1 hx12
    refine va_new (ci := x) (C := clsR x) (T := clsT x) (N := nfl x) (fs := (List.range (nfl x)).map (fldV ad (nwH h x (nfl x)) h.1.length)) hx hb hts (cl_in x hx12) (clsY x) (cl_ty x hx12) hown (hts _ (TBL_of _ hw rfl)) (hts _ (TBL_of _ (cl_ins x hx12) rfl)) (hts _ (TBL_of _ (cl_ini x hx12) rfl)) hK0 hRl.1 (hst.D h) hS hA0 (cl_at x hx12) (fun j hj => ?_) (by omega) (by omega) hd (fun q H1 hP1 hD1 hS1 => ?_)
    · have e1 : vp_V ((List.range (nfl x)).map (fldV ad (nwH h x (nfl x)) h.1.length)) j = fldV ad (nwH h x (nfl x)) h.1.length j := by
        unfold vp_V
        rw [List.getD_eq_getElem?_getD, List.getElem?_map, List.getElem?_range hj]
        rfl
      rw [e1]
      unfold fldV
      rw [(sK_new h x (nfl x)).1, (hI_new h x (nfl x)).1, (hI_new h x (nfl x)).2.2]
      rcases cl_f x hx12 j hj with ⟨q1, q2⟩ | ⟨q1, q2⟩ | ⟨q1, q2⟩
      · rw [if_pos q1]
        revert q2
        cases clsY x j <;> first | (intro q2; rfl) | (intro q2; cases q2)
      · rw [if_neg (by omega), q2]; rfl
      · rw [if_neg (by omega), q2]; rfl
    · intro T hT X
      have hub := X.heapSize
      rw [hT, hst.2.2.1] at hub
      obtain rfl := new_at hst h6 hP1 hD1 (by have := hst.2.1; omega)
      have hR1 : Rl L xs ad cA D (nwH h x (nfl x)) H1 := ⟨by rw [wsH_new h6, hck]; exact hP1, hRl.2.1.new _ _, hRl.2.2.new (Or.inl hx12) _⟩
      have h2 := hk _ _ _ h1 lsv H1 locs (cells + 1) (slots + nfl x) hR1 hS1 hl (by rw [plen]; omega) (by rw [slt_new]; omega)
      rw [List.map_cons, show rv ad (.inr (.inr h.1.length)) = .ref (ad h.1.length) from rvR_pos (by omega)] at h2
      exact h2 T hT X
  case newarray at_ =>
    simp only [chkP, Bool.and_eq_true, beq_iff_eq] at hp
    obtain ⟨rfl, hat0⟩ := hp
    obtain ⟨n, tt, rfl, h0, -⟩ := s1_some hop
    try dsimp only at h0
    obtain ⟨⟨hn0, hn1⟩, h1⟩ := ite_some h0
    intro lsv H locs cells slots hRl hS hl hc hs
    obtain ⟨p1, p2⟩ := slt_pre (hkp _ _ _ h1)
    have plen : (nwH h x (ix n)).1.length = h.1.length + 1 := by simp [nwH]
    rw [plen] at p1
    rw [slt_new] at p2
    have h6 := hRl.2.1.1
    have hix : ix n ≤ 100000 := by unfold ix; omega
    have hng : ¬ Int32.ofInt n < 0 := fun q => by have := (oi_lt n 0).mp q; rw [wr_0] at this; omega
    obtain ⟨g1, g2, g3⟩ := hI_new h x (ix n)
    have fin : ∀ (H1 : Heap) (E : va_E), cellE ad cA (nwH h x (ix n)) h.1.length = E → (x < 12 ∨ (20 ≤ x ∧ x < 27)) → ∀ q, va_P D vwCl (wsH ad cA h ++ [(q, E)]) H1 → va_D (A0 bs) (wsH ad cA h ++ [(q, E)]) → va_S (A0 bs) s.heap H1 locs → W p l e R s m args below meth c H1 locs (cells + 1) (slots + ix n) Q (F0 m (pc + 2) lsv (.ref q :: tt.map (rv ad))) := by
      intro H1 E hE hkk q hP1 hD1 hS1 T hT X
      have hub := X.heapSize
      rw [hT, hst.2.2.1] at hub
      obtain rfl := new_at hst h6 hP1 hD1 (by have := hst.2.1; omega)
      have hR1 : Rl L xs ad cA D (nwH h x (ix n)) H1 := ⟨by rw [wsH_new h6, hE]; exact hP1, hRl.2.1.new _ _, hRl.2.2.new hkk _⟩
      have h2 := hk _ _ _ h1 lsv H1 locs (cells + 1) (slots + ix n) hR1 hS1 hl (by rw [plen]; omega) (by rw [slt_new]; omega)
      rw [List.map_cons, show rv ad (.inr (.inr h.1.length)) = .ref (ad h.1.length) from rvR_pos (by omega)] at h2
      exact h2 T hT X
    have uq : ∀ {kd : Nat} {cB : ClassId}, 20 ≤ kd → kd < 24 → va_K D vwCl ([] ++ [(cB, aty kd)]) s → cB = cA kd := by
      intro kd cB q1 q2 hKK
      have r1 := (hKK.2 0 _ rfl).2
      have r2 := (hst.2.2.2.2.1 kd q1 (by omega)).2
      have : kd = 20 ∨ kd = 21 ∨ kd = 22 ∨ kd = 23 := by omega
      rcases this with rfl | rfl | rfl | rfl <;> exact Option.some.inj (r1.symm.trans r2)
    cases at_ <;> first | (cases hat0; done) | skip
    case int =>
      obtain rfl : x = 20 := by simpa using hat0
      refine va_newa (atype := .int) (ty := .int) (a0 := (ix n, .inl (fun _ => 0))) hx hb (hts (.arrayClass .int) (TBL_of 95 (by decide +kernel) rfl)) rfl hK0 hRl.1 (hst.D h) hS hA0 (fun _ => rfl) hng (oi_clamp n) (show ix n * 4 ≤ _ by omega) (by omega) (by omega) hd (fun q cB H1 hKK hP1 hD1 hS1 => ?_)
      obtain rfl := uq (kd := 20) (by omega) (by omega) hKK
      refine fin H1 _ ?_ (Or.inr ⟨by omega, by omega⟩) q hP1 hD1 hS1
      rw [cellE_int (sK_new h 20 (ix n)).1 (by omega), (sK_new h 20 (ix n)).2]
      congr 4
      funext j
      rw [g1]; rfl
    case long =>
      obtain rfl : x = 21 := by simpa using hat0
      refine va_newa (atype := .long) (ty := .long) (a0 := (ix n, .inr (.inl (fun _ => 0)))) hx hb (hts (.arrayClass .long) (TBL_of 273 (by decide +kernel) rfl)) rfl hK0 hRl.1 (hst.D h) hS hA0 (fun _ => rfl) hng (oi_clamp n) (show ix n * 8 ≤ _ by omega) (by omega) (by omega) hd (fun q cB H1 hKK hP1 hD1 hS1 => ?_)
      obtain rfl := uq (kd := 21) (by omega) (by omega) hKK
      refine fin H1 _ ?_ (Or.inr ⟨by omega, by omega⟩) q hP1 hD1 hS1
      rw [cellE_long (sK_new h 21 (ix n)).1, (sK_new h 21 (ix n)).2]
      congr 5
      funext j
      rw [g2]; rfl
    case byte =>
      obtain rfl : x = 22 := by simpa using hat0
      refine va_newa (atype := .byte) (ty := .byte) (a0 := (ix n, .inl (fun _ => 0))) hx hb (hts (.arrayClass .byte) (TBL_of 75 (by decide +kernel) rfl)) rfl hK0 hRl.1 (hst.D h) hS hA0 (fun _ => rfl) hng (oi_clamp n) (show ix n * 1 ≤ _ by omega) (by omega) (by omega) hd (fun q cB H1 hKK hP1 hD1 hS1 => ?_)
      obtain rfl := uq (kd := 22) (by omega) (by omega) hKK
      refine fin H1 _ ?_ (Or.inr ⟨by omega, by omega⟩) q hP1 hD1 hS1
      rw [cellE_int (sK_new h 22 (ix n)).1 (by omega), (sK_new h 22 (ix n)).2]
      congr 4
      funext j
      rw [g1]; rfl
    case boolean =>
      obtain rfl : x = 23 := by simpa using hat0
      refine va_newa (atype := .boolean) (ty := .boolean) (a0 := (ix n, .inl (fun _ => 0))) hx hb (hts (.arrayClass .boolean) (TBL_of 312 (by decide +kernel) rfl)) rfl hK0 hRl.1 (hst.D h) hS hA0 (fun _ => rfl) hng (oi_clamp n) (show ix n * 1 ≤ _ by omega) (by omega) (by omega) hd (fun q cB H1 hKK hP1 hD1 hS1 => ?_)
      obtain rfl := uq (kd := 23) (by omega) (by omega) hKK
      refine fin H1 _ ?_ (Or.inr ⟨by omega, by omega⟩) q hP1 hD1 hS1
      rw [cellE_int (sK_new h 23 (ix n)).1 (by omega), (sK_new h 23 (ix n)).2]
      congr 4
      funext j
      rw [g1]; rfl
  case anewarray i =>
    simp only [chkP, Bool.and_eq_true, beq_iff_eq, decide_eq_true_eq, isWord] at hp
    obtain ⟨⟨rfl, hx2⟩, hw⟩ := hp
    obtain ⟨n, tt, rfl, h0, -⟩ := s1_some hop
    try dsimp only at h0
    obtain ⟨⟨hn0, hn1⟩, h1⟩ := ite_some h0
    intro lsv H locs cells slots hRl hS hl hc hs
    obtain ⟨p1, p2⟩ := slt_pre (hkp _ _ _ h1)
    have plen : (nwH h x (ix n)).1.length = h.1.length + 1 := by simp [nwH]
    rw [plen] at p1
    rw [slt_new] at p2
    have h6 := hRl.2.1.1
    have hix : ix n ≤ 100000 := by unfold ix; omega
    have hng : ¬ Int32.ofInt n < 0 := fun q => by have := (oi_lt n 0).mp q; rw [wr_0] at this; omega
    obtain ⟨g1, g2, g3⟩ := hI_new h x (ix n)
    obtain ⟨a1, a2, a3⟩ := hst.2.2.2.2.2.1
    have hAO : va_AO (clsR (acl x)) s ∧ aty x = .object (clsR (acl x)) := by
      obtain ⟨q1, q2⟩ := hx2
      have : x = 24 ∨ x = 25 ∨ x = 26 := by omega
      rcases this with rfl | rfl | rfl
      · exact ⟨a1, rfl⟩
      · exact ⟨a2, rfl⟩
      · exact ⟨a3, rfl⟩
    refine va_newq hx hb hown (hts _ (TBL_of _ hw rfl)) hAO.1 hK0 hRl.1 (hst.D h) hS hA0 hng (oi_clamp n) (by omega) (by omega) (by omega) hd (fun q cB H1 hKK hP1 hD1 hS1 => ?_)
    have hcB : cB = cA x := by
      obtain ⟨kA, comp, -, -, -, f1⟩ := (hKK.2 0 _ rfl).2
      have r2 := (hst.2.2.2.2.1 x (by omega) (by omega)).2
      rw [hAO.2] at r2
      obtain ⟨kA2, comp2, -, -, -, f2⟩ := r2
      exact Option.some.inj (f1.symm.trans f2)
    subst hcB
    intro T hT X
    have hub := X.heapSize
    rw [hT, hst.2.2.1] at hub
    obtain rfl := new_at hst h6 hP1 hD1 (by have := hst.2.1; omega)
    have hE : cellE ad cA (nwH h x (ix n)) h.1.length = .inl (cA x, ix n, .inr (.inr (.inr (.inr (fun _ => none))))) := by
      rw [cellE_ref (sK_new h x (ix n)).1 hx2, (sK_new h x (ix n)).2]
      congr 7
      funext j
      rw [g3]; rfl
    have hR1 : Rl L xs ad cA D (nwH h x (ix n)) H1 := ⟨by rw [wsH_new h6, hE]; exact hP1, hRl.2.1.new _ _, hRl.2.2.new (Or.inr ⟨by omega, by omega⟩) _⟩
    have h2 := hk _ _ _ h1 lsv H1 locs (cells + 1) (slots + ix n) hR1 hS1 hl (by rw [plen]; omega) (by rw [slt_new]; omega)
    rw [List.map_cons, show rv ad (.inr (.inr h.1.length)) = .ref (ad h.1.length) from rvR_pos (by omega)] at h2
    exact h2 T hT X
end SIMH
