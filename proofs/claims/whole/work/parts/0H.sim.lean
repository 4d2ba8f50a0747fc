/-! THE SIMULATION: a run of the abstract machine is a run of the real one -/
theorem opT {e : AE} (hT : isT e = true) {K : KT} {C : CT} {ls : AL} {st : List AV} {h : Hp} (k k' : NT) : opA K C e ls st h k = opA K C e ls st h k' := by
  obtain ⟨pc, ins, len, ⟨x, y, t, w, z⟩, k1, k2⟩ := e
  cases ins <;> first | (cases hT; done) | rfl | skip
  · have ht : t = 11 := by simpa [isT] using hT
    subst ht; rfl
  · have ht : t = 0 ∨ t = 1 := by simpa [isT] using hT
    rcases ht with rfl | rfl <;> rfl
  · have ht : t = 10 ∨ t = 11 := by simpa [isT] using hT
    rcases ht with rfl | rfl <;> rfl
theorem largs_rl (ad : Nat → Nat) : ∀ (as : List AV) (i : Nat), lv_args i (as.map (rv ad)) = (largs i as).map (rl ad)
  | [], _ => rfl
  | v :: vs, i => by
    rw [List.map_cons, lv_args, largs, List.map_cons, ← largs_rl ad vs (i + catA v)]
    have : (if (rv ad v).category = 2 then i + 2 else i + 1) = i + catA v := by
      rw [rv_cat]
      rcases v with z | z | r <;> rfl
    rw [this]
    rfl
theorem lgsl_len (ad : Nat → Nat) (as : List AV) : (lg_sl (as.map (rv ad))).length = catS as := by
  unfold lg_sl catS
  induction as with
  | nil => rfl
  | cons v vs ih =>
    rw [List.map_cons, List.flatMap_cons, List.length_append, ih, List.map_cons, List.sum_cons]
    congr 1
    rw [rv_cat]
    rcases v with z | z | r <;> rfl
theorem lk_mem2 {α : Type} {ls : List (Nat × α)} {i : Nat} {v : α} (h : ls.lookup i = some v) : (i, v) ∈ ls := by
  induction ls with
  | nil => cases h
  | cons q r ih =>
    obtain ⟨j, w⟩ := q
    rw [List.lookup_cons] at h
    by_cases hij : (i == j) = true
    · rw [hij] at h
      have : i = j := by simpa using hij
      subst this
      cases h
      exact List.mem_cons_self
    · rw [show (i == j) = false by simpa using hij] at h
      exact List.mem_cons_of_mem _ (ih h)
theorem blk_chk (hchk : ∀ md, md < 306 → chkM md = true) {md pc : Nat} {b : AB} (hmd : md < 306) (hb : blk md pc = some b) : chkL md pc b.1 b.2.1 = true :=
  List.all_eq_true.mp (hchk md hmd) (pc, b) (lk_mem2 hb)
section SIMG
variable {p : Program} {l : Launch} {e : Env} {R : Room} {s : State} {m : MethodId} {args : Array Value} {below : List Frame} {meth : Method} {c : Code} {Q : State → Prop}
variable {bs L n0 s0 md d : Nat} {xs : Nat → Int32} {ad : Nat → Nat} {cA : Nat → ClassId} {D : va_G} {r : AV × Hp}
theorem simGo (hA : Act p R s m args meth c bs L xs ad cA D md n0 d) (hf : r.2.1.length ≤ n0 + R.cells ∧ slt r.2 ≤ s0 + R.slots) (hStr : StrRow p l e R s m args below meth c Q bs L xs ad cA D md n0 d) (hRet : RetW p l e R s m args below meth c Q bs L xs ad cA D md n0 s0 r) {K : KT} {C : CT}
    (hKp : ∀ pc' ls' st' h', K pc' ls' st' h' = some r → h'.1 <+: r.2.1) (hCp : ∀ m as h' o, C m as h' = some o → h'.1 <+: o.2.1)
    (hK : ∀ pc' ls' st' h', K pc' ls' st' h' = some r → Wst p l e R s m args below meth c Q bs L xs ad cA D md n0 s0 pc' ls' st' h')
    (hC : ∀ x as h' o, x < 305 → catS as ≤ mX x → C x as h' = some o → ∃ d', d = d' + 1 ∧ Mt l bs L xs ad cA D d' x as h' o ∧ h'.1 <+: o.2.1) (np : Nat) (kp : List Nat) :
    ∀ (es : List AE) (pc : Nat) (ls : AL) (st : List AV) (h : Hp), chkL md pc es np = true → goA K C np kp es ls st h = some r → Wst p l e R s m args below meth c Q bs L xs ad cA D md n0 s0 pc ls st h := by
  intro es
  induction es with
  | nil =>
    intro pc ls st h hck hgo
    have : pc = np := by simpa [chkL] using hck
    subst this
    intro lsv H locs cells slots hRl hS hl hc hs
    exact hK _ _ _ _ hgo lsv H locs cells slots hRl hS (lv_norm hl kp) hc hs
  | cons ee es ih =>
    intro pc ls st h hck hgo
    simp only [chkL, Bool.and_eq_true, beq_iff_eq, Bool.or_eq_true] at hck
    obtain ⟨⟨rfl, hce⟩, hrest⟩ := hck
    by_cases hT : isT ee = true
    · have hop : opA K C ee ls st h (fun _ _ _ => none) = some r := (opT hT _ _).trans hgo
      have hkp : ∀ (ls' : AL) (st' : List AV) (h' : Hp), (fun _ _ _ => none : NT) ls' st' h' = some r → h'.1 <+: r.2.1 := fun _ _ _ q => by cases q
      have hk : ∀ (ls' : AL) (st' : List AV) (h' : Hp), (fun _ _ _ => none : NT) ls' st' h' = some r → Wst p l e R s m args below meth c Q bs L xs ad cA D md n0 s0 (ee.1 + ee.2.2.1) ls' st' h' := fun _ _ _ q => by cases q
      exact simOp hA hf hop hce hkp hk hK (heapOp hA hf hkp hk hK) (callOp hA hf hStr hkp hKp hk hK hC) hRet
    · have hr2 := hrest.resolve_left hT
      have hkp : ∀ (ls' : AL) (st' : List AV) (h' : Hp), (fun ls st h => goA K C np kp es ls st h : NT) ls' st' h' = some r → h'.1 <+: r.2.1 := fun ls' st' h' q => go_pre hKp hCp np kp es ls' st' h' q
      have hk : ∀ (ls' : AL) (st' : List AV) (h' : Hp), (fun ls st h => goA K C np kp es ls st h : NT) ls' st' h' = some r → Wst p l e R s m args below meth c Q bs L xs ad cA D md n0 s0 (ee.1 + ee.2.2.1) ls' st' h' := fun ls' st' h' q => ih _ ls' st' h' hr2 q
      exact simOp hA hf hgo hce hkp hk hK (heapOp hA hf hkp hk hK) (callOp hA hf hStr hkp hKp hk hK hC) hRet
end SIMG
/-- what n steps of fuel give -/
def SimN (l : Launch) (bs L : Nat) (xs : Nat → Int32) (ad : Nat → Nat) (cA : Nat → ClassId) (D : va_G) (n : Nat) : Prop :=
  ∀ (p : Program) (e : Env) (R : Room) (s : State) (m : MethodId) (args : Array Value) (below : List Frame) (meth : Method) (c : Code) (Q : State → Prop) (md n0 s0 d pc : Nat) (ls : AL) (st : List AV) (h : Hp) (r : AV × Hp), exA n d md pc ls st h = some r → Act p R s m args meth c bs L xs ad cA D md n0 d → (r.2.1.length ≤ n0 + R.cells ∧ slt r.2 ≤ s0 + R.slots) → RetW p l e R s m args below meth c Q bs L xs ad cA D md n0 s0 r → Wst p l e R s m args below meth c Q bs L xs ad cA D md n0 s0 pc ls st h
section SIMM
variable {l : Launch} {bs L : Nat} {xs : Nat → Int32} {ad : Nat → Nat} {cA : Nat → ClassId} {D : va_G}
theorem am_met {n d' x : Nat} {as : List AV} {h : Hp} {o : AV × Hp} (hS : SimN l bs L xs ad cA D n) (hx : x < 305) (hcat : catS as ≤ mX x) (he : exA n d' x 0 (largs 0 as) [] h = some o) : Mt l bs L xs ad cA D d' x as h o := by
  obtain ⟨q1, q2⟩ := slt_pre (exA_pre _ _ _ _ _ _ _ _ he)
  unfold Mt Met
  refine MetFree.of_bodySF (code := mB x) (maxLocals := mX x) (ret := mR x) (m_par1 x (by omega)) ?_ ?_
  · intro args s m h hn
    obtain ⟨meth, c, h1, h2, h3, h4, h5, h6, -, -⟩ := Cond.code_spec hn (atoms_spec (ws := Jvm.Cond.code (mY x) (mB x) (mX x) (mR x) :: TBL) h _ List.mem_cons_self)
    exact ⟨meth, c, h1, h2, h3, h4, h5, h6⟩
  · intro p e s m args below meth c s₁ B hml hP _
    obtain ⟨rfl, hst, hRl⟩ := hP
    have hh0 : s₁.heap = s.heap := by rw [B.state]; rfl
    have hts : ∀ w ∈ TBL, w.before (as.map (rv ad)).toArray s = true := fun w hw => atoms_spec (ws := Jvm.Cond.code (mY x) (mB x) (mX x) (mR x) :: TBL) B.pre w (List.mem_cons_of_mem _ hw)
    have hown : s.vm.findClass (mY x).cls = some m.cls := findClass_of_methodNamed B.named
    have hnm := (name_of_methodNamed B.named B.method).1
    have hA : Act p { frames := d' + 20, cells := o.2.1.length - h.1.length, slots := slt o.2 - slt h, locals := 60 * (d' + 1) + 1000 } s m (as.map (rv ad)).toArray meth c bs L xs ad cA D x h.1.length d' :=
      ⟨by omega, B.exec, B.bytes, B.returns, hml, hown, hts, B.notSynchronized, fun q => hnm.trans (m_ini x (by omega) q).1, hst, Nat.le_refl _, Nat.le_refl _⟩
    have hRet : RetW p l e { frames := d' + 20, cells := o.2.1.length - h.1.length, slots := slt o.2 - slt h, locals := 60 * (d' + 1) + 1000 } s m (as.map (rv ad)).toArray below meth c (MQ below (fun _ st oc t => oc = .returned (rvO (mR x) ad o.1) ∧ Rl L xs ad cA D o.2 t.heap ∧ va_F (A0 bs) st t) (as.map (rv ad)).toArray s (o.2.1.length - h.1.length) (slt o.2 - slt h) (A0 bs)) bs L xs ad cA D x h.1.length (slt h) o := by
      intro lsv H locs cells slots pc hR1 hS1 hc hs
      obtain rfl : cells = o.2.1.length - h.1.length := by omega
      obtain rfl : slots = slt o.2 - slt h := by omega
      refine ⟨fun z hz hd hr => ?_, fun z hz hd hr => ?_, fun hd hr => ?_⟩
      · rcases hr with hr | ⟨hr, hv⟩
        · exact W.iret B.exec B.bytes (by rw [B.returns]; exact hr) (fun t ht _ => ⟨by rw [hr, hz]; rfl, by rw [ht]; exact hR1, hS1.F ht⟩) hS1.2.2 hd
        · exact W.zret (ty := .boolean) B.exec B.bytes (by rw [B.returns]; exact hr) (narrow_z hv).1 (fun t ht _ => ⟨by rw [hr, hz]; rfl, by rw [ht]; exact hR1, hS1.F ht⟩) hS1.2.2 hd
      · exact W.lret B.exec B.bytes (by rw [B.returns]; exact hr) (fun t ht _ => ⟨by rw [hr, hz]; rfl, by rw [ht]; exact hR1, hS1.F ht⟩) hS1.2.2 hd
      · exact W.vret B.exec B.bytes (by rw [B.returns]; exact hr) (fun t ht _ => ⟨by rw [hr]; rfl, by rw [ht]; exact hR1, hS1.F ht⟩) hS1.2.2 hd
    have hW := hS p e _ s m (as.map (rv ad)).toArray below meth c _ x h.1.length (slt h) d' 0 (largs 0 as) [] h o he hA ⟨by show _ ≤ _ + (_ - _); omega, by show _ ≤ _ + (_ - _); omega⟩ hRet
    have hl := lv_entry (as.map (rv ad)) (n := mX x) (by rw [lgsl_len]; exact hcat)
    rw [largs_rl] at hl
    have hW2 := hW _ s.heap [] 0 0 hRl va_S.rf hl (by omega) (by omega)
    rw [List.map_nil, ← lg_entry_eq] at hW2
    obtain ⟨t, a1, o', b1, b2, b3⟩ := hW2 s₁ hh0 (Stand.of_body B)
    exact ⟨t, o', a1, b1, b2, ⟨b3.1, b3.2⟩⟩
theorem sim (hchk : ∀ md, md < 306 → chkM md = true) (hStr : ∀ (p : Program) (e : Env) (R : Room) (s : State) (m : MethodId) (args : Array Value) (below : List Frame) (meth : Method) (c : Code) (Q : State → Prop) (md n0 d : Nat), StrRow p l e R s m args below meth c Q bs L xs ad cA D md n0 d) : ∀ n, SimN l bs L xs ad cA D n := by
  intro n
  induction n with
  | zero => intro p e R s m args below meth c Q md n0 s0 d pc ls st h r he; cases he
  | succ n ih =>
    intro p e R s m args below meth c Q md n0 s0 d pc ls st h r he hA hf hRet
    rw [exA_succ] at he
    cases hb : blk md pc with
    | none => rw [hb] at he; cases he
    | some b =>
      rw [hb] at he
      have hCp : ∀ (x : Nat) (as : List AV) (h' : Hp) (o : AV × Hp), calA n d x as h' = some o → h'.1 <+: o.2.1 := by
        intro x as h' o q
        cases d with
        | zero => cases q
        | succ d => exact exA_pre _ _ _ _ _ _ _ _ q
      refine simGo hA hf (hStr p e R s m args below meth c Q md n0 d) hRet (K := exA n d md) (C := calA n d) (fun pc' ls' st' h' q => exA_pre _ _ _ _ _ _ _ _ q) hCp (fun pc' ls' st' h' q => ih p e R s m args below meth c Q md n0 s0 d pc' ls' st' h' r q hA hf hRet) (fun x as h' o hx hcat q => ?_) b.2.1 b.2.2 b.1 pc ls st h (blk_chk hchk hA.1 hb) he
      cases d with
      | zero => cases q
      | succ d => exact ⟨d, rfl, am_met ih hx hcat q, hCp x as h' o q⟩
end SIMM
