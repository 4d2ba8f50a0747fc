/-! CALLS -/
theorem catS_rv (ad : Nat → Nat) (st : List AV) : ((st.map (rv ad)).map fun v => v.category).sum = catS st := by
  unfold catS
  rw [List.map_map]
  congr 2
  funext v
  exact rv_cat ad v
theorem good_code {x : Nat} (hx : x < 305) : GoodIn TBL (Jvm.Cond.code (mY x) (mB x) (mX x) (mR x) :: TBL) := fun w h => (List.mem_cons.mp h).elim (fun e => e ▸ TBL_good _ (TBL_of _ (m_code x hx) rfl)) (TBL_good w)
section SIMC
variable {p : Program} {l : Launch} {e : Env} {R : Room} {s : State} {m : MethodId} {args : Array Value} {below : List Frame} {meth : Method} {c : Code} {Q : State → Prop}
variable {bs L n0 s0 md d : Nat} {xs : Nat → Int32} {ad : Nat → Nat} {cA : Nat → ClassId} {D : va_G} {r : AV × Hp}
theorem am_call {H : Heap} {locs : List Loc} {cells slots mc ms pc : Nat} {lsv : Array Slot} {st0 rest : List Value} {Rt : State → Prop} {v : Option Value}
    (hr : va_Run p l e R s m args below meth c H locs cells slots mc ms (F0 m pc lsv st0) rest (fun st oc t => oc = .returned v ∧ Rt t ∧ va_F (A0 bs) st t) (A0 bs)) (hS : va_S (A0 bs) s.heap H locs)
    (kk : ∀ (H1 : Heap) (locs1 : List Loc), (∃ t : State, t.heap = H1 ∧ Rt t) → va_S (A0 bs) s.heap H1 locs1 → W p l e R s m args below meth c H1 locs1 (cells + mc) (slots + ms) Q (F0 m (pc + 3) lsv (v.toList ++ rest))) : W p l e R s m args below meth c H locs cells slots Q (F0 m pc lsv st0) := by
  intro T hT X
  obtain ⟨v', st₀, t, T', L', h0, X', hL, e1, e2, ⟨hv, hRt, hz, hk⟩, st⟩ := hr T hT X
  have hv := Outcome.returned.inj hv
  subst hv
  rw [h0] at hz hk
  obtain ⟨t2, a1, b1⟩ := kk T'.heap (locs ++ L') ⟨t, e1.symm, hRt⟩ ⟨Nat.le_trans hS.1 (by rw [e1]; exact hz), fun q h1 h2 => by rw [e1, hk q (Nat.lt_of_lt_of_le h1 hS.1) h2]; exact hS.2.1 q h1 h2, fun q hq => by
      rcases List.mem_append.mp hq with h | h
      · exact hS.2.2 q h
      · exact hL q h⟩ T' rfl X'
  exact ⟨t2, st t2 a1, b1⟩
theorem Mt.blind {dd x : Nat} {as : List AV} {h : Hp} : FrameBlind (va_Pc (as.map (rv ad)) (fun U => Stt bs L xs ad cA D h.1.length U ∧ Rl L xs ad cA D h U.heap)) := fun _ _ _ _ q => ⟨q.1, q.2.1.call, q.2.2⟩
/-- what the strings' own methods do, as rows: proved where the JDK's methods are walked -/
def StrRow (p : Program) (l : Launch) (e : Env) (R : Room) (s : State) (m : MethodId) (args : Array Value) (below : List Frame) (meth : Method) (c : Code) (Q : State → Prop) (bs L : Nat) (xs : Nat → Int32) (ad : Nat → Nat) (cA : Nat → ClassId) (D : va_G) (md n0 d : Nat) : Prop :=
  Act p R s m args meth c bs L xs ad cA D md n0 d → ∀ (lsv : Array Slot) (H : Heap) (locs : List Loc) (cells slots pc i j : Nat) (rest : List Value), j < 3 → va_S (A0 bs) s.heap H locs → lsv.size = mX md → (rest.map fun v => v.category).sum ≤ 8 → cells ≤ R.cells → slots ≤ R.slots → decode (mB md) pc = .ok (.invokevirtual i, 3) →
    (Jvm.Cond.methodLink (mY md).cls i (sName 4) ∈ TBL → W p l e R s m args below meth c H locs cells slots Q (F0 m (pc + 3) lsv (.int (Int32.ofNat (txL.getD j []).length) :: rest)) → W p l e R s m args below meth c H locs cells slots Q (F0 m pc lsv (.ref (ad (j + 2)) :: rest))) ∧
    (∀ k, k < (txL.getD j []).length → Jvm.Cond.methodLink (mY md).cls i (sName 5) ∈ TBL → W p l e R s m args below meth c H locs cells slots Q (F0 m (pc + 3) lsv (.int (Int32.ofInt ((txL.getD j []).getD k 0)) :: rest)) → W p l e R s m args below meth c H locs cells slots Q (F0 m pc lsv (.int (Int32.ofNat k) :: .ref (ad (j + 2)) :: rest))) ∧
    (∀ k : Nat, k < 256 → Jvm.Cond.methodLink (mY md).cls i (sName 6) ∈ TBL → W p l e R s m args below meth c H locs cells slots Q (F0 m (pc + 3) lsv (.int (Int32.ofInt (sIxF k (txL.getD j []) 0)) :: rest)) → W p l e R s m args below meth c H locs cells slots Q (F0 m pc lsv (.int (Int32.ofNat k) :: .ref (ad (j + 2)) :: rest)))
theorem str_at {h : Hp} (hl : Low L xs h) (hk : Kds h) {a : Nat} (ha : sK h a = 40) : ∃ j, j < 3 ∧ a = j + 2 := by
  obtain ⟨g6, k0, k1, k2, k3, k4, k5, -⟩ := hl
  by_cases h6 : a < 6
  · have : a = 0 ∨ a = 1 ∨ a = 2 ∨ a = 3 ∨ a = 4 ∨ a = 5 := by omega
    rcases this with rfl | rfl | rfl | rfl | rfl | rfl <;> first | omega | exact ⟨0, by omega, rfl⟩ | exact ⟨1, by omega, rfl⟩ | exact ⟨2, by omega, rfl⟩
  · by_cases hlen : a < h.1.length
    · have := hk a (by omega) hlen; omega
    · have := sK_out (h := h) (a := a) (by omega); omega
theorem sIx_txt {h : Hp} (hl : Low L xs h) {j : Nat} (hj : j < 3) (q : Int) : sIx h (j + 2) q = sIxF q (txL.getD j []) 0 := by
  obtain ⟨e1, e2⟩ := hl.2.2.2.2.2.2.2.2.2 j hj
  unfold sIx
  rw [e1]
  congr 1
  refine List.ext_getElem? fun k => ?_
  by_cases hk : k < (txL.getD j []).length
  · rw [List.getElem?_map, List.getElem?_range hk]
    simp only [Option.map_some]
    rw [e2, List.getD_eq_getElem?_getD, List.getElem?_eq_getElem hk]
    rfl
  · rw [List.getElem?_eq_none (by simpa using Nat.le_of_not_lt hk), List.getElem?_eq_none (Nat.le_of_not_lt hk)]
theorem call_room {d' x : Nat} (hx : x < 305) (hfr : d' + 1 + 20 ≤ R.frames) (hlo : 60 * (d' + 1 + 1) + 1000 ≤ R.locals) : d' + 20 + 1 ≤ R.frames ∧ 8 + (mX x + 11) + (60 * (d' + 1) + 1000) ≤ R.locals := by
  have := m_par4 x (by omega)
  omega
set_option maxHeartbeats 8000000 in
theorem callOp (hA : Act p R s m args meth c bs L xs ad cA D md n0 d) (hf : r.2.1.length ≤ n0 + R.cells ∧ slt r.2 ≤ s0 + R.slots) (hStr : StrRow p l e R s m args below meth c Q bs L xs ad cA D md n0 d) {K : KT} {C : CT} {k : NT} {ee : AE} {ls : AL} {st : List AV} {h : Hp}
    (hkp : ∀ ls' st' h', k ls' st' h' = some r → h'.1 <+: r.2.1) (hKp : ∀ pc' ls' st' h', K pc' ls' st' h' = some r → h'.1 <+: r.2.1)
    (hk : ∀ ls' st' h', k ls' st' h' = some r → Wst p l e R s m args below meth c Q bs L xs ad cA D md n0 s0 (ee.1 + ee.2.2.1) ls' st' h')
    (hK : ∀ pc' ls' st' h', K pc' ls' st' h' = some r → Wst p l e R s m args below meth c Q bs L xs ad cA D md n0 s0 pc' ls' st' h')
    (hC : ∀ x as h' o, x < 305 → catS as ≤ mX x → C x as h' = some o → ∃ d', d = d' + 1 ∧ Mt l bs L xs ad cA D d' x as h' o ∧ h'.1 <+: o.2.1) : CallOp p l e R s m args below meth c Q bs L xs ad cA D md n0 s0 r K C ee ls st h k := by
  intro hop hp hpc hd hcl
  obtain ⟨pc, ins, len, ⟨x, y, t, w, z⟩, k1, k2⟩ := ee
  obtain ⟨hmd, hx, hb, hrt, hml, hown, hts, hlk, hin, hst, hfr, hlo⟩ := id hA
  have hK0 : va_K D vwCl [] s := hst.2.2.2.1
  dsimp only at hk hop hp hpc hd hcl ⊢
  -- what comes behind a call
  have back : ∀ (vd : Bool) (o : AV × Hp) (rest : List AV), x < 305 → bak K (pc + 3) (norm k1 ls) rest vd (some o) = some r → (vd = true ↔ mR x = none) → h.1 <+: o.2.1 → ∀ (lsv : Array Slot) (H : Heap) (locs : List Loc) (cells slots : Nat), lv_has lsv (mX md) (ls.map (rl ad)) → cells + n0 = h.1.length → slots + s0 = slt h →
      (cells + (o.2.1.length - h.1.length) ≤ R.cells ∧ slots + (slt o.2 - slt h) ≤ R.slots) ∧ ∀ (H1 : Heap) (locs1 : List Loc), (∃ t : State, t.heap = H1 ∧ Rl L xs ad cA D o.2 t.heap) → va_S (A0 bs) s.heap H1 locs1 → W p l e R s m args below meth c H1 locs1 (cells + (o.2.1.length - h.1.length)) (slots + (slt o.2 - slt h)) Q (F0 m (pc + 3) lsv ((rvO (mR x) ad o.1).toList ++ rest.map (rv ad))) := by
    intro vd o rest hx307 hbk hvd hpre lsv H locs cells slots hl hc hs
    obtain ⟨q1, q2⟩ := slt_pre hpre
    have hw : K (pc + 3) (norm k1 ls) (if vd then rest else o.1 :: rest) o.2 = some r := by cases vd <;> exact hbk
    obtain ⟨q3, q4⟩ := slt_pre (hKp _ _ _ _ hw)
    refine ⟨⟨by omega, by omega⟩, fun H1 locs1 ht hS1 => ?_⟩
    obtain ⟨t1, rfl, hRl⟩ := ht
    have h3 := hK _ _ _ _ hw lsv t1.heap locs1 (cells + (o.2.1.length - h.1.length)) (slots + (slt o.2 - slt h)) hRl hS1 (lv_norm hl k1) (by omega) (by omega)
    cases vd
    · cases hm : mR x with
      | none => exact absurd (hvd.mpr hm) (by decide)
      | some ty => exact h3
    · rw [hvd.mp rfl]
      exact h3
  have stk : ∀ (rest : List AV) (as : List AV), (st.take y).reverse = as → rest = st.drop y → st.map (rv ad) = (as.map (rv ad)).reverse ++ rest.map (rv ad) := by
    intro rest as h1 h2
    rw [← h1, h2, ← List.map_reverse, List.reverse_reverse, ← List.map_append, List.take_append_drop]
  have room : ∀ (rest : List AV), catS rest ≤ 8 → ((rest.map (rv ad)).map fun v => v.category).sum ≤ 8 := fun rest hr => by rw [catS_rv]; exact hr
  cases ins <;> first | (cases hcl; done) | skip
  case invokestatic i =>
    simp only [chkP, Bool.and_eq_true, beq_iff_eq] at hp
    obtain ⟨rfl, hp⟩ := hp
    by_cases ht : t = 0 ∨ t = 1
    · rw [if_pos ht] at hp
      simp only [Bool.and_eq_true, decide_eq_true_eq, Bool.or_eq_true, isWord, beq_iff_eq] at hp
      obtain ⟨⟨⟨⟨hx307, hmk⟩, hy⟩, hvd⟩, hlink⟩ := hp
      have hmx : k2.headD 0 = mX x := by
        simp only [chkC, Bool.or_eq_true, beq_iff_eq, decide_eq_true_eq] at hpc
        exact hpc.resolve_left (by omega)
      obtain ⟨vd, hvd2, ⟨hlen, hcat, hlim⟩, hbk⟩ : ∃ vd : Bool, (vd = true ↔ mR x = none) ∧ ((st.take y).length = y ∧ catS (st.drop y) ≤ 8 ∧ catS (st.take y).reverse ≤ k2.headD 0) ∧ bak K (pc + 3) (norm k1 ls) (st.drop y) vd (C x (st.take y).reverse h) = some r := by
        rcases ht with rfl | rfl
        · exact ⟨false, ⟨fun q => absurd q (by decide), fun q => absurd (hvd.mpr q) (by decide)⟩, ite_some (show (if (st.take y).length = y ∧ catS (st.drop y) ≤ 8 ∧ catS (st.take y).reverse ≤ k2.headD 0 then bak K (pc + 3) (norm k1 ls) (st.drop y) false (C x (st.take y).reverse h) else none) = some r from hop)⟩
        · exact ⟨true, ⟨fun _ => hvd.mp rfl, fun _ => rfl⟩, ite_some (show (if (st.take y).length = y ∧ catS (st.drop y) ≤ 8 ∧ catS (st.take y).reverse ≤ k2.headD 0 then bak K (pc + 3) (norm k1 ls) (st.drop y) true (C x (st.take y).reverse h) else none) = some r from hop)⟩
      cases ho : C x (st.take y).reverse h with
      | none => rw [ho] at hbk; cases hbk
      | some o =>
        rw [ho] at hbk
        obtain ⟨d', rfl, hM, hpre⟩ := hC _ _ _ _ hx307 (by rw [← hmx]; exact hlim) ho
        intro lsv H locs cells slots hRl hS hl hc hs
        obtain ⟨hfit, hbk2⟩ := back vd o _ hx307 hbk hvd2 hpre lsv H locs cells slots hl hc hs
        intro T hT X
        have hz := szH hst hRl hS hc hT X
        have hpre2 : PreS s H (va_Pc ((st.take y).reverse.map (rv ad)) (fun U => Stt bs L xs ad cA D h.1.length U ∧ Rl L xs ad cA D h U.heap)) ((st.take y).reverse.map (rv ad)) := ⟨Mt.blind (dd := 0) (x := 0), fun U hU hW => ⟨rfl, hst.to hS hU hW hRl.2.1.1 hz, by rw [hU]; exact hRl⟩⟩
        have hn : ((st.take y).reverse.map (rv ad)).length = mN x := by rw [List.length_map, List.length_reverse, hlen, hy]
        rw [stk _ _ rfl rfl]
        rcases hlink with hlk1 | ⟨hrow, hnest⟩
        · exact am_call (va_runS ⟨hx, hb, hml, hown, hts⟩ hM ⟨callB_of (mN x) hts (good_code hx307) rfl rfl rfl (hts _ (TBL_of _ (m_init x hx307) rfl)) (hts _ (TBL_of _ hlk1 rfl)) ⟨(m_par2 x (by omega)).1, (m_par2 x (by omega)).2, m_par3 x (by omega)⟩ (call_room hx307 hfr hlo), hts _ (TBL_of _ (m_stat x hx307 hmk) rfl)⟩ hpre2 rfl hn hl.1 rfl (lv_room (room _ hcat)) hd hfit) hS hbk2 T hT X
        · subst hrow
          have hNw : va_Nw (.methodLinkNest (mY md).cls i (mY m_Hook_rowOf) "HookOver") s := by
            obtain ⟨w1, w2⟩ := hst.2.2.2.2.2.2.1
            rcases hnest with ⟨ho1, rfl⟩ | ⟨ho1, rfl⟩
            · rw [ho1]; exact w1
            · rw [ho1]; exact w2
          exact am_call (va_runSN (host := "HookOver") ⟨hx, hb, hml, hown, hts⟩ hM ⟨va_cnB (mN m_Hook_rowOf) hts (good_code hx307) rfl rfl rfl hNw (hts _ (TBL_of _ (m_init _ hx307) rfl)) ⟨(m_par2 _ (by omega)).1, (m_par2 _ (by omega)).2, m_par3 _ (by omega)⟩ (call_room hx307 hfr hlo), hts _ (TBL_of _ (m_stat _ hx307 hmk) rfl), trivial⟩ hpre2 rfl hn hl.1 rfl (lv_room (room _ hcat)) hd hfit) hS hbk2 T hT X
    · rw [if_neg ht] at hp
      simp only [Bool.and_eq_true, beq_iff_eq, isWord, decide_eq_true_eq] at hp
      obtain ⟨rfl, hw⟩ := hp
      obtain ⟨src, sp, dst, dp, n, tt, rfl, h0, -⟩ := cp5_some (show cp5 st _ = some r from hop)
      obtain ⟨⟨hcat, hks, hkd, hs0, hd0, hn0, hs1, hd1⟩, h1⟩ := ite_some h0
      intro lsv H locs cells slots hRl hS hl hc hs
      obtain ⟨a6, al⟩ := made hRl.2.1 hks (by omega)
      obtain ⟨b6, bl⟩ := made hRl.2.1 hkd (by omega)
      have hat := wsH_at (ad := ad) (cA := cA) a6 al
      have hbt := wsH_at (ad := ad) (cA := cA) b6 bl
      rw [cellE_int hks (by omega)] at hat
      rw [cellE_int hkd (by omega)] at hbt
      show W p l e R s m args below meth c H locs cells slots Q (F0 m pc lsv (.int (Int32.ofInt n) :: .int (Int32.ofInt dp) :: rvR ad dst :: .int (Int32.ofInt sp) :: rvR ad src :: tt.map (rv ad)))
      rw [rvR_pos (r := dst) (by omega), rvR_pos (r := src) (by omega)]
      have ng : ∀ q : Int, 0 ≤ wr q → ¬ Int32.ofInt q < 0 := fun q hq u => by have := (oi_lt q 0).mp u; rw [wr_0] at this; omega
      have hix : ∀ q : Int, 0 ≤ wr q → (ix q : Int) = wr q := fun q hq => Int.toNat_of_nonneg hq
      have e1 := hix sp hs0
      have e2 := hix dp hd0
      have e3 := hix n hn0
      refine va_copyi hx hb (by rw [hml]; exact hl.1.symm) hown (hts _ (TBL_of _ hw rfl)) (hts _ (TBL_of 727 (by decide +kernel) rfl)) (hts _ (TBL_of 726 (by decide +kernel) rfl)) (hts _ (TBL_of 20 (by decide +kernel) rfl)) (K1 hst (kd := 20) (by omega) (by omega)) hRl.1 (hst.D h) hS (src - 6) (dst - 6) 0 0 hat hbt rfl rfl rfl (ng _ hs0) (ng _ hd0) (ng _ hn0) (by rw [oi_clamp, oi_clamp]; omega) (by rw [oi_clamp, oi_clamp]; omega) (fun _ _ => rfl) (by omega) (by have := room tt hcat; show _ + (7 + 11) ≤ _; omega) hd (fun H1 locs1 hP1 _ hS1 => ?_)
      have hne : ∀ j, j ≠ dst → (∀ q, hI (cpI h src (ix sp) dst (ix dp) (ix n)) j q = hI h j q) ∧ (∀ q, hL (cpI h src (ix sp) dst (ix dp) (ix n)) j q = hL h j q) ∧ ∀ q, hR (cpI h src (ix sp) dst (ix dp) (ix n)) j q = hR h j q := fun j hj => ⟨fun q => by show (if j = dst ∧ _ then _ else _) = _; rw [if_neg (fun u => hj u.1)]; rfl, fun _ => rfl, fun _ => rfl⟩
      refine hk _ _ _ h1 lsv H1 locs1 cells slots (hRl.put b6 bl rfl hne hP1 ?_) hS1 hl hc hs
      rw [cellE_int (h := cpI h src (ix sp) dst (ix dp) (ix n)) hkd (by omega), show sN (cpI h src (ix sp) dst (ix dp) (ix n)) dst = sN h dst from rfl, oi_clamp, oi_clamp, oi_clamp]
      congr 4
      funext j
      show Int32.ofInt (if dst = dst ∧ ix dp ≤ j ∧ j < ix dp + ix n then h.2.1 src (ix sp + (j - ix dp)) else h.2.1 dst j) = va_cpy _ _ _ _ _ j
      unfold va_cpy
      by_cases hj : ix dp ≤ j ∧ j < ix dp + ix n
      · rw [if_pos ⟨rfl, hj⟩, if_pos hj]; rfl
      · rw [if_neg (fun u => hj u.2), if_neg hj]; rfl
  case invokevirtual i =>
    simp only [chkP, Bool.and_eq_true, beq_iff_eq] at hp
    obtain ⟨rfl, hp⟩ := hp
    by_cases ht : t = 10 ∨ t = 11
    · rw [if_pos ht] at hp
      simp only [Bool.and_eq_true, decide_eq_true_eq, isWord] at hp
      obtain ⟨⟨⟨⟨⟨⟨hx307, hmk⟩, hy⟩, hw12⟩, hcw⟩, hvd⟩, hlink⟩ := hp
      have hmx : k2.headD 0 = mX x := by
        simp only [chkC, Bool.or_eq_true, beq_iff_eq, decide_eq_true_eq] at hpc
        exact hpc.resolve_left (by omega)
      obtain ⟨vd, hvd2, hrc⟩ : ∃ vd : Bool, (vd = true ↔ mR x = none) ∧ rcv (st.take y).reverse (fun a => if sK h a = w then if (st.take y).length = y ∧ catS (st.drop y) ≤ 8 ∧ catS (st.take y).reverse ≤ k2.headD 0 then bak K (pc + 3) (norm k1 ls) (st.drop y) vd (C x (st.take y).reverse h) else none else none) = some r := by
        rcases ht with rfl | rfl
        · exact ⟨false, ⟨fun q => absurd q (by decide), fun q => absurd (hvd.mpr q) (by decide)⟩, hop⟩
        · exact ⟨true, ⟨fun _ => hvd.mp rfl, fun _ => rfl⟩, hop⟩
      obtain ⟨a, t', hta, h0, -⟩ := rcv_some hrc
      obtain ⟨hkd, h00⟩ := ite_some h0
      obtain ⟨⟨hlen, hcat, hlim⟩, hbk⟩ := ite_some h00
      cases ho : C x (st.take y).reverse h with
      | none => rw [ho] at hbk; cases hbk
      | some o =>
        rw [ho] at hbk
        obtain ⟨d', rfl, hM, hpre⟩ := hC _ _ _ _ hx307 (by rw [← hmx]; exact hlim) ho
        intro lsv H locs cells slots hRl hS hl hc hs
        obtain ⟨hfit, hbk2⟩ := back vd o _ hx307 hbk hvd2 hpre lsv H locs cells slots hl hc hs
        obtain ⟨a6, al⟩ := made hRl.2.1 hkd (by omega)
        have hat := wsH_at (ad := ad) (cA := cA) a6 al
        rw [cellE_obj hkd hw12] at hat
        intro T hT X
        have hz := szH hst hRl hS hc hT X
        have ea : rv ad (.inr (.inr a)) = .ref (ad a) := rvR_pos (by omega)
        have hrec := va_recv hK0 hRl.1 (cl_at w hw12) hat
        rw [show (clsR w, clsT w, nfl w).1 = (mY x).cls from hcw] at hrec
        rw [hta] at hM
        have hpre2 : PreV s H (mY x).cls (ad a) (va_Pc ((.inr (.inr a) :: t' : List AV).map (rv ad)) (fun U => Stt bs L xs ad cA D h.1.length U ∧ Rl L xs ad cA D h U.heap)) (t'.map (rv ad)) := ⟨Mt.blind (dd := 0) (x := 0), hrec, fun U hU hW => ⟨by rw [List.map_cons, ea], hst.to hS hU hW hRl.2.1.1 hz, by rw [hU]; exact hRl⟩⟩
        have hn : (t'.map (rv ad)).length = mN x := by
          have q1 := congrArg List.length hta
          rw [List.length_reverse, hlen, List.length_cons] at q1
          rw [List.length_map]; omega
        rw [stk _ _ hta rfl, List.map_cons, ea, List.reverse_cons, List.append_assoc]
        exact am_call (va_runV ⟨hx, hb, hml, hown, hts⟩ hM ⟨callB_of (mN x) hts (good_code hx307) rfl rfl rfl (hts _ (TBL_of _ (m_init x hx307) rfl)) (hts _ (TBL_of _ hlink rfl)) ⟨(m_par2 x (by omega)).1, (m_par2 x (by omega)).2, m_par3 x (by omega)⟩ (call_room hx307 hfr hlo), hts _ (TBL_of _ (m_inst x hx307 (by omega)) rfl), hts _ (TBL_sel _ (m_sel x hx307 hmk) rfl)⟩ hpre2 rfl hn hl.1 rfl (lv_room (room _ hcat)) hd hfit) hS hbk2 T hT X
    · rw [if_neg ht] at hp
      simp only [Bool.and_eq_true, Bool.or_eq_true, beq_iff_eq, isWord, decide_eq_true_eq] at hp
      obtain ⟨ht3, hw⟩ := hp
      have hfz : ∀ (cells slots : Nat), h.1 <+: r.2.1 → cells + n0 = h.1.length → slots + s0 = slt h → cells ≤ R.cells ∧ slots ≤ R.slots := fun cells slots hpp hc hs => by
        obtain ⟨q1, q2⟩ := slt_pre hpp
        omega
      rcases ht3 with (rfl | rfl) | rfl
      · obtain ⟨a, tt, rfl, h0, -⟩ := r1_some (show r1 st _ = some r from hop)
        obtain ⟨⟨hkd, hcat⟩, h1⟩ := ite_some h0
        intro lsv H locs cells slots hRl hS hl hc hs
        obtain ⟨j, hj, rfl⟩ := str_at hRl.2.1 hRl.2.2 hkd
        have h2 := hk _ _ _ h1 lsv H locs cells slots hRl hS hl hc hs
        obtain ⟨f1, f2⟩ := hfz cells slots (hkp _ _ _ h1) hc hs
        rw [List.map_cons, show rv ad (.inl (sL h (j + 2))) = .int (Int32.ofNat (txL.getD j []).length) from by show Value.int (Int32.ofInt (sL h (j + 2))) = _; rw [sL_eq, (hRl.2.1.2.2.2.2.2.2.2.2.2 j hj).1]; exact congrArg Value.int (Int32.ofInt_eq_ofNat)] at h2
        show W p l e R s m args below meth c H locs cells slots Q (F0 m pc lsv (rvR ad (j + 2) :: tt.map (rv ad)))
        rw [rvR_pos (by omega)]
        exact (hStr hA lsv H locs cells slots pc i j (tt.map (rv ad)) hj hS hl.1 (room tt hcat) f1 f2 hd).1 (TBL_of _ hw rfl) h2
      · obtain ⟨a, q, tt, rfl, h0, -⟩ := sr2_some (show sr2 st _ = some r from hop)
        obtain ⟨⟨⟨hkd, hi0, hi1⟩, hcat⟩, h1⟩ := ite_some h0
        intro lsv H locs cells slots hRl hS hl hc hs
        obtain ⟨j, hj, rfl⟩ := str_at hRl.2.1 hRl.2.2 hkd
        have h2 := hk _ _ _ h1 lsv H locs cells slots hRl hS hl hc hs
        obtain ⟨f1, f2⟩ := hfz cells slots (hkp _ _ _ h1) hc hs
        obtain ⟨e1, e2⟩ := hRl.2.1.2.2.2.2.2.2.2.2.2 j hj
        rw [List.map_cons, show rv ad (.inl (hI h (j + 2) (ix q))) = .int (Int32.ofInt ((txL.getD j []).getD (ix q) 0)) from by show Value.int (Int32.ofInt (hI h (j + 2) (ix q))) = _; rw [e2]] at h2
        rw [e1] at hi1
        have e3 : (ix q : Int) = wr q := Int.toNat_of_nonneg hi0
        have h3 := (hStr hA lsv H locs cells slots pc i j (tt.map (rv ad)) hj hS hl.1 (room tt hcat) f1 f2 hd).2.1 (ix q) (by omega) (TBL_of _ hw rfl) h2
        rw [← Int32.ofInt_eq_ofNat, e3, oi_wr] at h3
        show W p l e R s m args below meth c H locs cells slots Q (F0 m pc lsv (.int (Int32.ofInt q) :: rvR ad (j + 2) :: tt.map (rv ad)))
        rw [rvR_pos (by omega)]
        exact h3
      · obtain ⟨a, q, tt, rfl, h0, -⟩ := sr2_some (show sr2 st _ = some r from hop)
        obtain ⟨⟨hkd, hcat, hi0, hi1⟩, h1⟩ := ite_some h0
        intro lsv H locs cells slots hRl hS hl hc hs
        obtain ⟨j, hj, rfl⟩ := str_at hRl.2.1 hRl.2.2 hkd
        have h2 := hk _ _ _ h1 lsv H locs cells slots hRl hS hl hc hs
        obtain ⟨f1, f2⟩ := hfz cells slots (hkp _ _ _ h1) hc hs
        have e3 : (ix q : Int) = wr q := Int.toNat_of_nonneg hi0
        rw [List.map_cons, show rv ad (.inl (sIx h (j + 2) (wr q))) = .int (Int32.ofInt (sIxF (ix q : Nat) (txL.getD j []) 0)) from by show Value.int (Int32.ofInt (sIx h (j + 2) (wr q))) = _; rw [sIx_txt hRl.2.1 hj, e3]] at h2
        have h3 := (hStr hA lsv H locs cells slots pc i j (tt.map (rv ad)) hj hS hl.1 (room tt hcat) f1 f2 hd).2.2 (ix q) (by omega) (TBL_of _ hw rfl) h2
        rw [← Int32.ofInt_eq_ofNat, e3, oi_wr] at h3
        show W p l e R s m args below meth c H locs cells slots Q (F0 m pc lsv (.int (Int32.ofInt q) :: rvR ad (j + 2) :: tt.map (rv ad)))
        rw [rvR_pos (by omega)]
        exact h3
  case invokespecial i =>
    simp only [chkP, Bool.and_eq_true, beq_iff_eq] at hp
    obtain ⟨rfl, hp⟩ := hp
    by_cases ht : t = 11
    · rw [if_pos ht] at hp
      subst ht
      simp only [Bool.and_eq_true, decide_eq_true_eq, isWord] at hp
      obtain ⟨⟨⟨⟨⟨hx307, hmk⟩, hy⟩, hw12⟩, hcw⟩, hlink⟩ := hp
      have hmx : k2.headD 0 = mX x := by
        simp only [chkC, Bool.or_eq_true, beq_iff_eq, decide_eq_true_eq] at hpc
        exact hpc.resolve_left (by omega)
      obtain ⟨hnm, hrn⟩ := m_ini x (by omega) hmk
      obtain ⟨a, t', hta, h0, -⟩ := rcv_some (show rcv (st.take y).reverse (fun a => if sK h a = w then if (st.take y).length = y ∧ catS (st.drop y) ≤ 8 ∧ catS (st.take y).reverse ≤ k2.headD 0 then bak K (pc + 3) (norm k1 ls) (st.drop y) true (C x (st.take y).reverse h) else none else none) = some r from hop)
      obtain ⟨hkd, h00⟩ := ite_some h0
      obtain ⟨⟨hlen, hcat, hlim⟩, hbk⟩ := ite_some h00
      cases ho : C x (st.take y).reverse h with
      | none => rw [ho] at hbk; cases hbk
      | some o =>
        rw [ho] at hbk
        obtain ⟨d', rfl, hM, hpre⟩ := hC _ _ _ _ hx307 (by rw [← hmx]; exact hlim) ho
        intro lsv H locs cells slots hRl hS hl hc hs
        obtain ⟨hfit, hbk2⟩ := back true o _ hx307 hbk ⟨fun _ => hrn, fun _ => rfl⟩ hpre lsv H locs cells slots hl hc hs
        obtain ⟨a6, al⟩ := made hRl.2.1 hkd (by omega)
        intro T hT X
        have hz := szH hst hRl hS hc hT X
        have ea : rv ad (.inr (.inr a)) = .ref (ad a) := rvR_pos (by omega)
        rw [hta] at hM
        have hpre2 : PreS s H (va_Pc ((.inr (.inr a) :: t' : List AV).map (rv ad)) (fun U => Stt bs L xs ad cA D h.1.length U ∧ Rl L xs ad cA D h U.heap)) (.ref (ad a) :: t'.map (rv ad)) := ⟨Mt.blind (dd := 0) (x := 0), fun U hU hW => ⟨by rw [List.map_cons, ea], hst.to hS hU hW hRl.2.1.1 hz, by rw [hU]; exact hRl⟩⟩
        have hn : (t'.map (rv ad)).length = mN x := by
          have q1 := congrArg List.length hta
          rw [List.length_reverse, hlen, List.length_cons] at q1
          rw [List.length_map]; omega
        rw [stk _ _ hta rfl, List.map_cons, ea, List.reverse_cons, List.append_assoc]
        have hG := good_code hx307
        unfold Mt at hM
        rw [hrn] at hM hG hbk2
        exact am_call (va_runI ⟨hx, hb, hml, hown, hts⟩ hM ⟨callB_of (mN x) hts hG rfl rfl rfl (hts _ (TBL_of _ (m_init x hx307) rfl)) (hts _ (TBL_of _ hlink rfl)) ⟨(m_par2 x (by omega)).1, (m_par2 x (by omega)).2, m_par3 x (by omega)⟩ (call_room hx307 hfr hlo), hnm, hts _ (TBL_of _ (m_inst x hx307 (by omega)) rfl)⟩ hpre2 rfl hn hl.1 rfl (lv_room (room _ hcat)) hd hfit) hS hbk2 T hT X
    · rw [if_neg ht] at hp
      simp only [Bool.and_eq_true, beq_iff_eq, isWord, decide_eq_true_eq] at hp
      obtain ⟨rfl, hw⟩ := hp
      obtain ⟨a, tt, rfl, h0, -⟩ := r1_some (show r1 st _ = some r from hop)
      obtain ⟨⟨ha0, hcat⟩, h1⟩ := ite_some h0
      intro lsv H locs cells slots hRl hS hl hc hs
      have h2 := hk _ _ _ h1 lsv H locs cells slots hRl hS hl hc hs
      show W p l e R s m args below meth c H locs cells slots Q (F0 m pc lsv (rvR ad a :: tt.map (rv ad)))
      rw [rvR_pos ha0]
      exact W.objInit hx hb hown (hts _ (TBL_of _ hw rfl)) (hts _ (TBL_of 29 (by decide +kernel) rfl)) (hts _ (TBL_of 30 (by rfl) rfl)) rfl (by rw [hml]; exact hl.1) rfl hd (by omega) (by have := room tt hcat; show 2 * 0 + _ + 12 ≤ _; omega) h2
end SIMC
