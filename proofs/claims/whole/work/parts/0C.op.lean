/-! ONE INSTRUCTION: the real machine does what the abstract one does (printed by wip/whole/gensim.py) -/
def isHp (ins : Instr) : Bool := match ins with
  | .tableswitch _ _ _ _ => true
  | .lookupswitch _ _ => true
  | .getfield _ => true
  | .putfield _ => true
  | .iaload => true
  | .baload => true
  | .laload => true
  | .aaload => true
  | .iastore => true
  | .bastore => true
  | .lastore => true
  | .aastore => true
  | .arraylength => true
  | .new _ => true
  | .newarray _ => true
  | .anewarray _ => true
  | _ => false
def isCl (ins : Instr) : Bool := match ins with
  | .invokevirtual _ => true
  | .invokestatic _ => true
  | .invokespecial _ => true
  | _ => false
/-- the same for the instructions that look into the heap, and for the calls: proved in the next parts -/
def HeapOp (p : Program) (l : Launch) (e : Env) (R : Room) (s : State) (m : MethodId) (args : Array Value) (below : List Frame) (meth : Method) (c : Code) (Q : State → Prop) (bs L : Nat) (xs : Nat → Int32) (ad : Nat → Nat) (cA : Nat → ClassId) (D : va_G) (md n0 s0 : Nat) (r : AV × Hp) (K : KT) (C : CT) (ee : AE) (ls : AL) (st : List AV) (h : Hp) (k : NT) : Prop :=
  opA K C ee ls st h k = some r → chkP (mY md).cls (mX md) (mR md) (mK md) ee.1 ee.2.1 ee.2.2.1 ee.2.2.2.1.1 ee.2.2.2.1.2.1 ee.2.2.2.1.2.2.1 ee.2.2.2.1.2.2.2.1 ee.2.2.2.1.2.2.2.2 ee.2.2.2.2.1 = true → decode (mB md) ee.1 = .ok (ee.2.1, ee.2.2.1) → isHp ee.2.1 = true → Wst p l e R s m args below meth c Q bs L xs ad cA D md n0 s0 ee.1 ls st h
def CallOp (p : Program) (l : Launch) (e : Env) (R : Room) (s : State) (m : MethodId) (args : Array Value) (below : List Frame) (meth : Method) (c : Code) (Q : State → Prop) (bs L : Nat) (xs : Nat → Int32) (ad : Nat → Nat) (cA : Nat → ClassId) (D : va_G) (md n0 s0 : Nat) (r : AV × Hp) (K : KT) (C : CT) (ee : AE) (ls : AL) (st : List AV) (h : Hp) (k : NT) : Prop :=
  opA K C ee ls st h k = some r → chkP (mY md).cls (mX md) (mR md) (mK md) ee.1 ee.2.1 ee.2.2.1 ee.2.2.2.1.1 ee.2.2.2.1.2.1 ee.2.2.2.1.2.2.1 ee.2.2.2.1.2.2.2.1 ee.2.2.2.1.2.2.2.2 ee.2.2.2.2.1 = true → chkC ee.2.1 ee.2.2.2.1.2.2.1 ee.2.2.2.1.1 ee.2.2.2.2.2 = true → decode (mB md) ee.1 = .ok (ee.2.1, ee.2.2.1) → isCl ee.2.1 = true → Wst p l e R s m args below meth c Q bs L xs ad cA D md n0 s0 ee.1 ls st h
section SIMO
variable {p : Program} {l : Launch} {e : Env} {R : Room} {s : State} {m : MethodId} {args : Array Value} {below : List Frame} {meth : Method} {c : Code} {Q : State → Prop}
variable {bs L n0 s0 md d : Nat} {xs : Nat → Int32} {ad : Nat → Nat} {cA : Nat → ClassId} {D : va_G} {r : AV × Hp}
def rvO (rt : Option FieldType) (ad : Nat → Nat) (v : AV) : Option Value := match rt with
  | none => none
  | some _ => some (rv ad v)
/-- a call's contract -/
def Mt (l : Launch) (bs L : Nat) (xs : Nat → Int32) (ad : Nat → Nat) (cA : Nat → ClassId) (D : va_G) (dd md : Nat) (as : List AV) (h : Hp) (o : AV × Hp) : Prop :=
  Met l (mY md) (Jvm.Cond.code (mY md) (mB md) (mX md) (mR md) :: TBL) { frames := dd + 20, cells := o.2.1.length - h.1.length, slots := slt o.2 - slt h, locals := 60 * (dd + 1) + 1000 }
    (va_Pc (as.map (rv ad)) (fun U => Stt bs L xs ad cA D h.1.length U ∧ Rl L xs ad cA D h U.heap))
    (fun _ st oc t => oc = .returned (rvO (mR md) ad o.1) ∧ Rl L xs ad cA D o.2 t.heap ∧ va_F (A0 bs) st t)
    (o.2.1.length - h.1.length) (slt o.2 - slt h) (A0 bs)
/-- what the method's end asks -/
def RetW (p : Program) (l : Launch) (e : Env) (R : Room) (s : State) (m : MethodId) (args : Array Value) (below : List Frame) (meth : Method) (c : Code) (Q : State → Prop) (bs L : Nat) (xs : Nat → Int32) (ad : Nat → Nat) (cA : Nat → ClassId) (D : va_G) (md n0 s0 : Nat) (r : AV × Hp) : Prop :=
  ∀ (lsv : Array Slot) (H : Heap) (locs : List Loc) (cells slots pc : Nat), Rl L xs ad cA D r.2 H → va_S (A0 bs) s.heap H locs → cells + n0 = r.2.1.length → slots + s0 = slt r.2 →
    (∀ z, r.1 = .inl z → decode (mB md) pc = .ok (.ireturn, 1) → (mR md = some .int ∨ (mR md = some .boolean ∧ (z = 0 ∨ z = 1))) → W p l e R s m args below meth c H locs cells slots Q (F0 m pc lsv [.int (Int32.ofInt z)])) ∧
    (∀ z, r.1 = .inr (.inl z) → decode (mB md) pc = .ok (.lreturn, 1) → mR md = some .long → W p l e R s m args below meth c H locs cells slots Q (F0 m pc lsv [.long (Int64.ofInt z)])) ∧
    (decode (mB md) pc = .ok (.return_, 1) → mR md = none → W p l e R s m args below meth c H locs cells slots Q (F0 m pc lsv []))
theorem szH (hst : Stt bs L xs ad cA D n0 s) {h : Hp} {H : Heap} {locs : List Loc} {cells slots : Nat} (hR : Rl L xs ad cA D h H) (hS : va_S (A0 bs) s.heap H locs) (hc : cells + n0 = h.1.length) {T : State} (hT : T.heap = H) (X : Stand p l e R s m args below meth c T locs cells slots) : H.size = bs + (h.1.length - 6) := by
  obtain ⟨h1, h2, h3, -⟩ := hst
  have hu := X.heapSize
  rw [hT, h3] at hu
  have hlo : bs + (h.1.length - 6) ≤ H.size := by
    by_cases he : h.1.length = n0
    · have := hS.1
      rw [h3] at this
      omega
    · have hat := wsH_at (ad := ad) (cA := cA) (h := h) (i := h.1.length - 1) (by omega) (by omega)
      have hlt := (hR.1 _ _ hat).lt
      have : ad (h.1.length - 1) < H.size := hlt
      rw [h1 _ (by omega)] at this
      omega
  omega
set_option maxHeartbeats 8000000 in
theorem simOp (hA : Act p R s m args meth c bs L xs ad cA D md n0 d) (hf : r.2.1.length ≤ n0 + R.cells ∧ slt r.2 ≤ s0 + R.slots) {K : KT} {C : CT} {k : NT} {ee : AE} {ls : AL} {st : List AV} {h : Hp} (hop : opA K C ee ls st h k = some r) (hck : chkE md ee = true)
    (hkp : ∀ ls' st' h', k ls' st' h' = some r → h'.1 <+: r.2.1)
    (hk : ∀ ls' st' h', k ls' st' h' = some r → Wst p l e R s m args below meth c Q bs L xs ad cA D md n0 s0 (ee.1 + ee.2.2.1) ls' st' h')
    (hK : ∀ pc' ls' st' h', K pc' ls' st' h' = some r → Wst p l e R s m args below meth c Q bs L xs ad cA D md n0 s0 pc' ls' st' h')
    (hH : HeapOp p l e R s m args below meth c Q bs L xs ad cA D md n0 s0 r K C ee ls st h k) (hCl : CallOp p l e R s m args below meth c Q bs L xs ad cA D md n0 s0 r K C ee ls st h k)
    (hRet : RetW p l e R s m args below meth c Q bs L xs ad cA D md n0 s0 r) : Wst p l e R s m args below meth c Q bs L xs ad cA D md n0 s0 ee.1 ls st h := by
  obtain ⟨pc, ins, len, ⟨x, y, t, w, z⟩, k1, k2⟩ := ee
  obtain ⟨hmd, hx, hb, hrt, hml, hown, hts, hlk, hin, hst, hfr, hlo⟩ := id hA
  have hd : decode (mB md) pc = .ok (ins, len) := by
    simp only [chkE, Bool.and_eq_true, decide_eq_true_eq] at hck
    exact hck.1.1
  have hp : chkP (mY md).cls (mX md) (mR md) (mK md) pc ins len x y t w z k1 = true := by
    simp only [chkE, Bool.and_eq_true] at hck
    exact hck.1.2
  have hpc : chkC ins t x k2 = true := by
    simp only [chkE, Bool.and_eq_true] at hck
    exact hck.2
  dsimp only at hk ⊢
  cases ins
  case iconst v =>
    obtain rfl : len = 1 := by simpa [chkP] using hp
    intro lsv H locs cells slots hR hS hl hc hs
    exact lv_iconst hx hb hd rfl (hk _ _ _ hop lsv H locs cells slots hR hS hl hc hs)
  case bipush v =>
    simp only [chkP, Bool.and_eq_true, beq_iff_eq, decide_eq_true_eq] at hp
    obtain ⟨rfl, hv⟩ := hp
    intro lsv H locs cells slots hR hS hl hc hs
    refine lv_bipush hx hb hd (v := Int32.ofInt v) ?_ (hk _ _ _ hop lsv H locs cells slots hR hS hl hc hs)
    rw [← Int32.toInt_inj, Int8.toInt_toInt32, Int8.toInt_ofInt, oi_toInt]
    show Int.bmod v 256 = Int.bmod v 4294967296
    rw [Int.bmod_eq_of_le (by omega) (by omega), Int.bmod_eq_of_le (by omega) (by omega)]
  case sipush v =>
    simp only [chkP, Bool.and_eq_true, beq_iff_eq, decide_eq_true_eq] at hp
    obtain ⟨rfl, hv⟩ := hp
    intro lsv H locs cells slots hR hS hl hc hs
    refine lv_sipush hx hb hd (v := Int32.ofInt v) ?_ (hk _ _ _ hop lsv H locs cells slots hR hS hl hc hs)
    rw [← Int32.toInt_inj, Int16.toInt_toInt32, Int16.toInt_ofInt, oi_toInt]
    show Int.bmod v 65536 = Int.bmod v 4294967296
    rw [Int.bmod_eq_of_le (by omega) (by omega), Int.bmod_eq_of_le (by omega) (by omega)]
  case lconst v =>
    obtain rfl : len = 1 := by simpa [chkP] using hp
    intro lsv H locs cells slots hR hS hl hc hs
    exact lv_lconst hx hb hd (v := Int64.ofInt ((v : Nat) : Int)) (by rw [Int64.ofInt_eq_ofNat]) (hk _ _ _ hop lsv H locs cells slots hR hS hl hc hs)
  case ldc i =>
    by_cases hx0 : x = 0
    · have h1 : k ls (.inl z :: st) h = some r := (if_pos hx0).symm.trans hop
      simp only [chkP, Bool.and_eq_true, beq_iff_eq, if_pos hx0, isWord, decide_eq_true_eq] at hp
      obtain ⟨rfl, hw⟩ := hp
      intro lsv H locs cells slots hR hS hl hc hs
      exact lv_ldc hx hb hown (hts _ (TBL_of _ hw rfl)) hd (hk _ _ _ h1 lsv H locs cells slots hR hS hl hc hs)
    · have h1 : k ls (.inr (.inr x) :: st) h = some r := (if_neg hx0).symm.trans hop
      simp only [chkP, Bool.and_eq_true, beq_iff_eq, if_neg hx0, kStr, Bool.or_eq_true, decide_eq_true_eq] at hp
      obtain ⟨rfl, hw⟩ := hp
      obtain ⟨-, k2', k3', k4', k5'⟩ := hst.2.2.2.2.2.2.2.2
      intro lsv H locs cells slots hR hS hl hc hs
      have h2 := hk _ _ _ h1 lsv H locs cells slots hR hS hl hc hs
      rcases hw with ⟨ho, ⟨rfl, rfl⟩ | ⟨rfl, rfl⟩⟩ | ⟨ho, ⟨rfl, rfl⟩ | ⟨rfl, rfl⟩⟩
      · exact va_ldcS hx hb (ho ▸ hown) k2' hd h2
      · exact va_ldcS hx hb (ho ▸ hown) k3' hd h2
      · exact va_ldcS hx hb (ho ▸ hown) k4' hd h2
      · exact va_ldcS hx hb (ho ▸ hown) k5' hd h2
  case ldc_w i =>
    simp only [chkP, Bool.and_eq_true, beq_iff_eq, isWord, decide_eq_true_eq] at hp
    obtain ⟨rfl, hw⟩ := hp
    intro lsv H locs cells slots hR hS hl hc hs
    exact lv_ldcw hx hb hown (hts _ (TBL_of _ hw rfl)) hd (hk _ _ _ hop lsv H locs cells slots hR hS hl hc hs)
  case ldc2_w i =>
    simp only [chkP, Bool.and_eq_true, beq_iff_eq, isWord, decide_eq_true_eq] at hp
    obtain ⟨rfl, hw⟩ := hp
    intro lsv H locs cells slots hR hS hl hc hs
    exact lv_ldc2 hx hb hown (hts _ (TBL_of _ hw rfl)) hd (hk _ _ _ hop lsv H locs cells slots hR hS hl hc hs)
  case iload i =>
    obtain rfl : len = 2 := by simpa [chkP] using hp
    obtain ⟨v, hv, h1, -⟩ := ldI_some hop
    intro lsv H locs cells slots hR hS hl hc hs
    exact lv_iload hx hb hd (lv_lk hl hv) (hk _ _ _ h1 lsv H locs cells slots hR hS hl hc hs)
  case iload_n i =>
    obtain rfl : len = 1 := by simpa [chkP] using hp
    obtain ⟨v, hv, h1, -⟩ := ldI_some hop
    intro lsv H locs cells slots hR hS hl hc hs
    exact lv_iload_n hx hb hd rfl (lv_lk hl hv) (hk _ _ _ h1 lsv H locs cells slots hR hS hl hc hs)
  case lload i =>
    obtain rfl : len = 2 := by simpa [chkP] using hp
    obtain ⟨v, hv, h1, -⟩ := ldL_some hop
    intro lsv H locs cells slots hR hS hl hc hs
    exact lv_lload hx hb hd (lv_lk hl hv) (hk _ _ _ h1 lsv H locs cells slots hR hS hl hc hs)
  case lload_n i =>
    obtain rfl : len = 1 := by simpa [chkP] using hp
    obtain ⟨v, hv, h1, -⟩ := ldL_some hop
    intro lsv H locs cells slots hR hS hl hc hs
    exact lv_lload_n hx hb hd rfl (lv_lk hl hv) (hk _ _ _ h1 lsv H locs cells slots hR hS hl hc hs)
  case aload i =>
    obtain rfl : len = 2 := by simpa [chkP] using hp
    obtain ⟨v, hv, h1, -⟩ := ldR_some hop
    intro lsv H locs cells slots hR hS hl hc hs
    have h2 := hk _ _ _ h1 lsv H locs cells slots hR hS hl hc hs
    have h3 := lv_lk hl hv
    simp only [List.map_cons, rv] at h2 h3
    by_cases h0 : v = 0
    · subst h0
      exact lv_aloadN hx hb hd (show lsv[_]? = some (Slot.val Value.null) from h3) h2
    · rw [rvR_pos (by omega)] at h2 h3
      exact lv_aload hx hb hd h3 h2
  case aload_n i =>
    obtain rfl : len = 1 := by simpa [chkP] using hp
    obtain ⟨v, hv, h1, -⟩ := ldR_some hop
    intro lsv H locs cells slots hR hS hl hc hs
    have h2 := hk _ _ _ h1 lsv H locs cells slots hR hS hl hc hs
    have h3 := lv_lk hl hv
    simp only [List.map_cons, rv] at h2 h3
    by_cases h0 : v = 0
    · subst h0
      exact lv_aload_nN hx hb hd rfl (show lsv[_]? = some (Slot.val Value.null) from h3) h2
    · rw [rvR_pos (by omega)] at h2 h3
      exact lv_aload_n hx hb hd rfl h3 h2
  case istore i =>
    simp only [chkP, Bool.and_eq_true, beq_iff_eq, decide_eq_true_eq] at hp
    obtain ⟨rfl, hi⟩ := hp
    obtain ⟨v, tt, rfl, h1, -⟩ := s1_some hop
    intro lsv H locs cells slots hR hS hl hc hs
    exact lv_istore hx hb hd hl hi (sto1_rl ad ls _ (.inl v)) (fun lsv hl => hk _ _ _ h1 lsv H locs cells slots hR hS hl hc hs)
  case istore_n i =>
    simp only [chkP, Bool.and_eq_true, beq_iff_eq, decide_eq_true_eq] at hp
    obtain ⟨rfl, hi⟩ := hp
    obtain ⟨v, tt, rfl, h1, -⟩ := s1_some hop
    intro lsv H locs cells slots hR hS hl hc hs
    exact lv_istore_n hx hb hd rfl hl hi (sto1_rl ad ls _ (.inl v)) (fun lsv hl => hk _ _ _ h1 lsv H locs cells slots hR hS hl hc hs)
  case lstore i =>
    simp only [chkP, Bool.and_eq_true, beq_iff_eq, decide_eq_true_eq] at hp
    obtain ⟨rfl, hi⟩ := hp
    obtain ⟨v, tt, rfl, h1, -⟩ := l1_some hop
    intro lsv H locs cells slots hR hS hl hc hs
    exact lv_lstore hx hb hd hl hi (sto2_rl ad ls _ (.inr (.inl v))) (fun lsv hl => hk _ _ _ h1 lsv H locs cells slots hR hS hl hc hs)
  case lstore_n i =>
    simp only [chkP, Bool.and_eq_true, beq_iff_eq, decide_eq_true_eq] at hp
    obtain ⟨rfl, hi⟩ := hp
    obtain ⟨v, tt, rfl, h1, -⟩ := l1_some hop
    intro lsv H locs cells slots hR hS hl hc hs
    exact lv_lstore_n hx hb hd rfl hl hi (sto2_rl ad ls _ (.inr (.inl v))) (fun lsv hl => hk _ _ _ h1 lsv H locs cells slots hR hS hl hc hs)
  case astore i =>
    simp only [chkP, Bool.and_eq_true, beq_iff_eq, decide_eq_true_eq] at hp
    obtain ⟨rfl, hi⟩ := hp
    obtain ⟨v, tt, rfl, h1, -⟩ := r1_some hop
    intro lsv H locs cells slots hR hS hl hc hs
    have h2 := fun lsv hl => hk _ _ _ h1 lsv H locs cells slots hR hS hl hc hs
    have e1 := sto1_rl ad ls i (.inr (.inr v))
    show W p l e R s m args below meth c H locs cells slots Q (F0 m pc lsv (rvR ad v :: tt.map (rv ad)))
    simp only [rv] at e1
    by_cases h0 : v = 0
    · subst h0
      exact lv_astoreN hx hb hd hl hi e1 h2
    · rw [rvR_pos (by omega)] at e1 ⊢
      exact lv_astore hx hb hd hl hi e1 h2
  case astore_n i =>
    simp only [chkP, Bool.and_eq_true, beq_iff_eq, decide_eq_true_eq] at hp
    obtain ⟨rfl, hi⟩ := hp
    obtain ⟨v, tt, rfl, h1, -⟩ := r1_some hop
    intro lsv H locs cells slots hR hS hl hc hs
    have h2 := fun lsv hl => hk _ _ _ h1 lsv H locs cells slots hR hS hl hc hs
    have e1 := sto1_rl ad ls i (.inr (.inr v))
    show W p l e R s m args below meth c H locs cells slots Q (F0 m pc lsv (rvR ad v :: tt.map (rv ad)))
    simp only [rv] at e1
    by_cases h0 : v = 0
    · subst h0
      exact lv_astore_nN hx hb hd rfl hl hi e1 h2
    · rw [rvR_pos (by omega)] at e1 ⊢
      exact lv_astore_n hx hb hd rfl hl hi e1 h2
  case iinc i n =>
    simp only [chkP, Bool.and_eq_true, beq_iff_eq, decide_eq_true_eq] at hp
    obtain ⟨rfl, hi⟩ := hp
    obtain ⟨v, hv, h1, -⟩ := ldI_some hop
    intro lsv H locs cells slots hR hS hl hc hs
    obtain ⟨kk, hkk⟩ := List.getElem?_of_mem (List.mem_map.mpr ⟨_, lk_mem hv, rfl⟩ : rl ad (i, .inl v) ∈ ls.map (rl ad))
    exact lv_iinc hx hb hd hl hkk (v := Int32.ofInt (v + n)) (by rw [Int32.ofInt_add]) hi (sto1_rl ad ls _ (.inl (v + n))) (fun lsv hl => hk _ _ _ h1 lsv H locs cells slots hR hS hl hc hs)
  case iadd =>
    obtain rfl : len = 1 := by simpa [chkP] using hp
    obtain ⟨a, b, tt, rfl, h1, -⟩ := s2_some hop
    intro lsv H locs cells slots hR hS hl hc hs
    refine lv_iadd hx hb hd ?_
    rw [← Int32.ofInt_add]
    exact hk _ _ _ h1 lsv H locs cells slots hR hS hl hc hs
  case isub =>
    obtain rfl : len = 1 := by simpa [chkP] using hp
    obtain ⟨a, b, tt, rfl, h1, -⟩ := s2_some hop
    intro lsv H locs cells slots hR hS hl hc hs
    refine lv_isub hx hb hd ?_
    rw [← Int32.ofInt_sub]
    exact hk _ _ _ h1 lsv H locs cells slots hR hS hl hc hs
  case imul =>
    obtain rfl : len = 1 := by simpa [chkP] using hp
    obtain ⟨a, b, tt, rfl, h1, -⟩ := s2_some hop
    intro lsv H locs cells slots hR hS hl hc hs
    refine lv_imul hx hb hd ?_
    rw [← Int32.ofInt_mul]
    exact hk _ _ _ h1 lsv H locs cells slots hR hS hl hc hs
  case idiv =>
    obtain rfl : len = 1 := by simpa [chkP] using hp
    obtain ⟨a, b, tt, rfl, h0, -⟩ := s2_some hop
    obtain ⟨hne, h1⟩ := ite_some' h0
    intro lsv H locs cells slots hR hS hl hc hs
    refine lv_idiv hx hb hd (fun q => hne ((oi_eq b 0).mp q)) ?_
    rw [oi_div]
    exact hk _ _ _ h1 lsv H locs cells slots hR hS hl hc hs
  case irem =>
    obtain rfl : len = 1 := by simpa [chkP] using hp
    obtain ⟨a, b, tt, rfl, h0, -⟩ := s2_some hop
    obtain ⟨hne, h1⟩ := ite_some' h0
    intro lsv H locs cells slots hR hS hl hc hs
    refine lv_irem hx hb hd (fun q => hne ((oi_eq b 0).mp q)) ?_
    rw [oi_rem]
    exact hk _ _ _ h1 lsv H locs cells slots hR hS hl hc hs
  case iand =>
    obtain rfl : len = 1 := by simpa [chkP] using hp
    obtain ⟨a, b, tt, rfl, h1, -⟩ := s2_some hop
    intro lsv H locs cells slots hR hS hl hc hs
    refine lv_iand hx hb hd ?_
    rw [← oi_self (Int32.ofInt a &&& Int32.ofInt b)]
    exact hk _ _ _ h1 lsv H locs cells slots hR hS hl hc hs
  case ior =>
    obtain rfl : len = 1 := by simpa [chkP] using hp
    obtain ⟨a, b, tt, rfl, h1, -⟩ := s2_some hop
    intro lsv H locs cells slots hR hS hl hc hs
    refine lv_ior hx hb hd ?_
    rw [← oi_self (Int32.ofInt a ||| Int32.ofInt b)]
    exact hk _ _ _ h1 lsv H locs cells slots hR hS hl hc hs
  case ixor =>
    obtain rfl : len = 1 := by simpa [chkP] using hp
    obtain ⟨a, b, tt, rfl, h1, -⟩ := s2_some hop
    intro lsv H locs cells slots hR hS hl hc hs
    refine lv_ixor hx hb hd ?_
    rw [← oi_self (Int32.ofInt a ^^^ Int32.ofInt b)]
    exact hk _ _ _ h1 lsv H locs cells slots hR hS hl hc hs
  case ishl =>
    obtain rfl : len = 1 := by simpa [chkP] using hp
    obtain ⟨a, b, tt, rfl, h1, -⟩ := s2_some hop
    intro lsv H locs cells slots hR hS hl hc hs
    refine lv_ishl hx hb hd ?_
    rw [← oi_self (Int32.ofInt a <<< (Int32.ofInt b &&& 31))]
    exact hk _ _ _ h1 lsv H locs cells slots hR hS hl hc hs
  case ishr =>
    obtain rfl : len = 1 := by simpa [chkP] using hp
    obtain ⟨a, b, tt, rfl, h1, -⟩ := s2_some hop
    intro lsv H locs cells slots hR hS hl hc hs
    refine lv_ishr hx hb hd ?_
    rw [← oi_self (Int32.ofInt a >>> (Int32.ofInt b &&& 31))]
    exact hk _ _ _ h1 lsv H locs cells slots hR hS hl hc hs
  case iushr =>
    obtain rfl : len = 1 := by simpa [chkP] using hp
    obtain ⟨a, b, tt, rfl, h1, -⟩ := s2_some hop
    intro lsv H locs cells slots hR hS hl hc hs
    exact lv_iushr hx hb hd (v := Int32.ofInt (bUshr a b)) (oi_self _).symm (hk _ _ _ h1 lsv H locs cells slots hR hS hl hc hs)
  case ineg =>
    obtain rfl : len = 1 := by simpa [chkP] using hp
    obtain ⟨a, tt, rfl, h1, -⟩ := s1_some hop
    intro lsv H locs cells slots hR hS hl hc hs
    refine lv_ineg hx hb hd ?_
    have h2 := hk _ _ _ h1 lsv H locs cells slots hR hS hl hc hs
    simp only [List.map_cons, rv, Int32.ofInt_neg] at h2
    first | exact h2 | (rw [Int32.zero_sub]; exact h2)
  case i2l =>
    obtain rfl : len = 1 := by simpa [chkP] using hp
    obtain ⟨a, tt, rfl, h1, -⟩ := s1_some hop
    intro lsv H locs cells slots hR hS hl hc hs
    exact lv_i2l hx hb hd (oi_i2l a) (hk _ _ _ h1 lsv H locs cells slots hR hS hl hc hs)
  case i2b =>
    obtain rfl : len = 1 := by simpa [chkP] using hp
    obtain ⟨a, tt, rfl, h1, -⟩ := s1_some hop
    intro lsv H locs cells slots hR hS hl hc hs
    exact lv_i2b hx hb hd (v := Int32.ofInt (bI2b a)) rfl (hk _ _ _ h1 lsv H locs cells slots hR hS hl hc hs)
  case i2s =>
    obtain rfl : len = 1 := by simpa [chkP] using hp
    obtain ⟨a, tt, rfl, h1, -⟩ := s1_some hop
    intro lsv H locs cells slots hR hS hl hc hs
    exact lv_i2s hx hb hd (v := Int32.ofInt (bI2s a)) rfl (hk _ _ _ h1 lsv H locs cells slots hR hS hl hc hs)
  case i2c =>
    obtain rfl : len = 1 := by simpa [chkP] using hp
    obtain ⟨a, tt, rfl, h1, -⟩ := s1_some hop
    intro lsv H locs cells slots hR hS hl hc hs
    exact lv_i2c hx hb hd (v := Int32.ofInt (bI2c a)) (oi_self _).symm (hk _ _ _ h1 lsv H locs cells slots hR hS hl hc hs)
  case l2i =>
    obtain rfl : len = 1 := by simpa [chkP] using hp
    obtain ⟨a, tt, rfl, h1, -⟩ := l1_some hop
    intro lsv H locs cells slots hR hS hl hc hs
    exact lv_l2i hx hb hd (ol_l2i a) (hk _ _ _ h1 lsv H locs cells slots hR hS hl hc hs)
  case ladd =>
    obtain rfl : len = 1 := by simpa [chkP] using hp
    obtain ⟨a, b, tt, rfl, h1, -⟩ := l2_some hop
    intro lsv H locs cells slots hR hS hl hc hs
    refine lv_ladd hx hb hd ?_
    rw [← Int64.ofInt_add]
    exact hk _ _ _ h1 lsv H locs cells slots hR hS hl hc hs
  case lsub =>
    obtain rfl : len = 1 := by simpa [chkP] using hp
    obtain ⟨a, b, tt, rfl, h1, -⟩ := l2_some hop
    intro lsv H locs cells slots hR hS hl hc hs
    refine lv_lsub hx hb hd ?_
    rw [← Int64.ofInt_sub]
    exact hk _ _ _ h1 lsv H locs cells slots hR hS hl hc hs
  case lmul =>
    obtain rfl : len = 1 := by simpa [chkP] using hp
    obtain ⟨a, b, tt, rfl, h1, -⟩ := l2_some hop
    intro lsv H locs cells slots hR hS hl hc hs
    refine lv_lmul hx hb hd ?_
    rw [← Int64.ofInt_mul]
    exact hk _ _ _ h1 lsv H locs cells slots hR hS hl hc hs
  case ldiv =>
    obtain rfl : len = 1 := by simpa [chkP] using hp
    obtain ⟨a, b, tt, rfl, h0, -⟩ := l2_some hop
    obtain ⟨hne, h1⟩ := ite_some' h0
    intro lsv H locs cells slots hR hS hl hc hs
    refine lv_ldiv hx hb hd (fun q => hne (by rw [← ol_toInt b, q]; rfl)) ?_
    rw [ol_div]
    exact hk _ _ _ h1 lsv H locs cells slots hR hS hl hc hs
  case lrem =>
    obtain rfl : len = 1 := by simpa [chkP] using hp
    obtain ⟨a, b, tt, rfl, h0, -⟩ := l2_some hop
    obtain ⟨hne, h1⟩ := ite_some' h0
    intro lsv H locs cells slots hR hS hl hc hs
    refine lv_lrem hx hb hd (fun q => hne (by rw [← ol_toInt b, q]; rfl)) ?_
    rw [ol_rem]
    exact hk _ _ _ h1 lsv H locs cells slots hR hS hl hc hs
  case land =>
    obtain rfl : len = 1 := by simpa [chkP] using hp
    obtain ⟨a, b, tt, rfl, h1, -⟩ := l2_some hop
    intro lsv H locs cells slots hR hS hl hc hs
    refine lv_land hx hb hd ?_
    rw [← ol_self (Int64.ofInt a &&& Int64.ofInt b)]
    exact hk _ _ _ h1 lsv H locs cells slots hR hS hl hc hs
  case lor =>
    obtain rfl : len = 1 := by simpa [chkP] using hp
    obtain ⟨a, b, tt, rfl, h1, -⟩ := l2_some hop
    intro lsv H locs cells slots hR hS hl hc hs
    refine lv_lor hx hb hd ?_
    rw [← ol_self (Int64.ofInt a ||| Int64.ofInt b)]
    exact hk _ _ _ h1 lsv H locs cells slots hR hS hl hc hs
  case lshl =>
    obtain rfl : len = 1 := by simpa [chkP] using hp
    obtain ⟨a, b, tt, rfl, h1, -⟩ := sl2_some hop
    intro lsv H locs cells slots hR hS hl hc hs
    exact lv_lshl hx hb hd (v := Int64.ofInt (lShl a b)) (ol_self _).symm (hk _ _ _ h1 lsv H locs cells slots hR hS hl hc hs)
  case lshr =>
    obtain rfl : len = 1 := by simpa [chkP] using hp
    obtain ⟨a, b, tt, rfl, h1, -⟩ := sl2_some hop
    intro lsv H locs cells slots hR hS hl hc hs
    exact lv_lshr hx hb hd (v := Int64.ofInt (lShr a b)) (ol_self _).symm (hk _ _ _ h1 lsv H locs cells slots hR hS hl hc hs)
  case lcmp =>
    obtain rfl : len = 1 := by simpa [chkP] using hp
    obtain ⟨a, b, tt, rfl, h1, -⟩ := l2_some hop
    intro lsv H locs cells slots hR hS hl hc hs
    refine W.lcmp hx hb hd ?_
    rw [ol_cmp]
    exact hk _ _ _ h1 lsv H locs cells slots hR hS hl hc hs
  case dup =>
    obtain rfl : len = 1 := by simpa [chkP] using hp
    obtain ⟨a, tt, rfl, h1, -⟩ := r1_some hop
    intro lsv H locs cells slots hR hS hl hc hs
    exact lv_dup hx hb hd (rv_cat ad (.inr (.inr a))) (hk _ _ _ h1 lsv H locs cells slots hR hS hl hc hs)
  case dup2 =>
    obtain rfl : len = 1 := by simpa [chkP] using hp
    obtain ⟨a, i, tt, rfl, h1, -⟩ := sr2_some hop
    intro lsv H locs cells slots hR hS hl hc hs
    exact lv_dup2_11 hx hb hd (rv_cat ad (.inl i)) (rv_cat ad (.inr (.inr a))) (hk _ _ _ h1 lsv H locs cells slots hR hS hl hc hs)
  case pop =>
    obtain rfl : len = 1 := by simpa [chkP] using hp
    obtain ⟨a, tt, rfl, h1, -⟩ := s1_some hop
    intro lsv H locs cells slots hR hS hl hc hs
    exact lv_pop hx hb hd (rv_cat ad (.inl a)) (hk _ _ _ h1 lsv H locs cells slots hR hS hl hc hs)
  case pop2 =>
    obtain rfl : len = 1 := by simpa [chkP] using hp
    obtain ⟨a, tt, rfl, h1, -⟩ := l1_some hop
    intro lsv H locs cells slots hR hS hl hc hs
    exact lv_pop2_2 hx hb hd (rv_cat ad (.inr (.inl a))) (hk _ _ _ h1 lsv H locs cells slots hR hS hl hc hs)
  case ifCond cc o =>
    simp only [chkP, Bool.and_eq_true, beq_iff_eq, decide_eq_true_eq] at hp
    obtain ⟨rfl, ho⟩ := hp
    obtain ⟨a, tt, rfl, h1, -⟩ := s1_some hop
    intro lsv H locs cells slots hR hS hl hc hs
    have KT := fun (q : K x (norm k1 ls) tt h = some r) => hK _ _ _ _ q lsv H locs cells slots hR hS (lv_norm hl k1) hc hs
    have KF := fun (q : K (pc + 3) (norm k2 ls) tt h = some r) => hK _ _ _ _ q lsv H locs cells slots hR hS (lv_norm hl k2) hc hs
    cases cc
    case eq => exact lv_if_eq hx hb hd ho (fun q => KT ((if_pos ((oi_eq a 0).mp q)).symm.trans h1)) (fun q => KF ((if_neg (fun u => q ((oi_eq a 0).mpr u))).symm.trans h1))
    case ne => exact lv_if_ne hx hb hd ho (fun q => KT ((if_neg (fun u => q ((oi_eq a 0).mpr u))).symm.trans h1)) (fun q => KF ((if_pos ((oi_eq a 0).mp q)).symm.trans h1))
    case lt => exact lv_if_lt hx hb hd ho (fun q => KT ((if_pos ((oi_lt a 0).mp q)).symm.trans h1)) (fun q => KF ((if_neg (fun u => q ((oi_lt a 0).mpr u))).symm.trans h1))
    case ge => exact lv_if_ge hx hb hd ho (fun q => KT ((if_neg (fun u => Int.not_lt.mpr ((oi_le 0 a).mp q) u)).symm.trans h1)) (fun q => KF ((if_pos (Int.not_le.mp fun u => q ((oi_le 0 a).mpr u))).symm.trans h1))
    case gt => exact lv_if_gt hx hb hd ho (fun q => KT ((if_pos ((oi_lt 0 a).mp q)).symm.trans h1)) (fun q => KF ((if_neg (fun u => q ((oi_lt 0 a).mpr u))).symm.trans h1))
    case le => exact lv_if_le hx hb hd ho (fun q => KT ((if_neg (fun u => Int.not_lt.mpr ((oi_le a 0).mp q) u)).symm.trans h1)) (fun q => KF ((if_pos (Int.not_le.mp fun u => q ((oi_le a 0).mpr u))).symm.trans h1))
  case if_icmp cc o =>
    simp only [chkP, Bool.and_eq_true, beq_iff_eq, decide_eq_true_eq] at hp
    obtain ⟨rfl, ho⟩ := hp
    obtain ⟨a, b, tt, rfl, h1, -⟩ := s2_some hop
    intro lsv H locs cells slots hR hS hl hc hs
    have KT := fun (q : K x (norm k1 ls) tt h = some r) => hK _ _ _ _ q lsv H locs cells slots hR hS (lv_norm hl k1) hc hs
    have KF := fun (q : K (pc + 3) (norm k2 ls) tt h = some r) => hK _ _ _ _ q lsv H locs cells slots hR hS (lv_norm hl k2) hc hs
    cases cc
    case eq => exact lv_icmp_eq hx hb hd ho (fun q => KT ((if_pos ((oi_eq a b).mp q)).symm.trans h1)) (fun q => KF ((if_neg (fun u => q ((oi_eq a b).mpr u))).symm.trans h1))
    case ne => exact lv_icmp_ne hx hb hd ho (fun q => KT ((if_neg (fun u => q ((oi_eq a b).mpr u))).symm.trans h1)) (fun q => KF ((if_pos ((oi_eq a b).mp q)).symm.trans h1))
    case lt => exact lv_icmp_lt hx hb hd ho (fun q => KT ((if_pos ((oi_lt a b).mp q)).symm.trans h1)) (fun q => KF ((if_neg (fun u => q ((oi_lt a b).mpr u))).symm.trans h1))
    case ge => exact lv_icmp_ge hx hb hd ho (fun q => KT ((if_neg (fun u => Int.not_lt.mpr ((oi_le b a).mp q) u)).symm.trans h1)) (fun q => KF ((if_pos (Int.not_le.mp fun u => q ((oi_le b a).mpr u))).symm.trans h1))
    case gt => exact lv_icmp_gt hx hb hd ho (fun q => KT ((if_pos ((oi_lt b a).mp q)).symm.trans h1)) (fun q => KF ((if_neg (fun u => q ((oi_lt b a).mpr u))).symm.trans h1))
    case le => exact lv_icmp_le hx hb hd ho (fun q => KT ((if_neg (fun u => Int.not_lt.mpr ((oi_le a b).mp q) u)).symm.trans h1)) (fun q => KF ((if_pos (Int.not_le.mp fun u => q ((oi_le a b).mpr u))).symm.trans h1))
  case goto o =>
    simp only [chkP, Bool.and_eq_true, beq_iff_eq, decide_eq_true_eq] at hp
    obtain ⟨rfl, ho⟩ := hp
    intro lsv H locs cells slots hR hS hl hc hs
    exact lv_goto hx hb hd ho (hK _ _ _ _ hop lsv H locs cells slots hR hS (lv_norm hl k1) hc hs)
  case ireturn =>
    simp only [chkP, Bool.and_eq_true, beq_iff_eq] at hp
    obtain ⟨rfl, hw⟩ := hp
    intro lsv H locs cells slots hR hS hl hc hs
    obtain ⟨a, rfl⟩ : ∃ a, st = [.inl a] := by
      rcases st with _ | ⟨v, _ | ⟨u, tl⟩⟩
      · by_cases hx0 : x = 0 <;> simp [opA, hx0] at hop
      · rcases v with a | v
        · exact ⟨a, rfl⟩
        · by_cases hx0 : x = 0 <;> simp [opA, hx0] at hop
      · by_cases hx0 : x = 0 <;> simp [opA, hx0] at hop
    by_cases hx0 : x = 0
    · rw [if_pos hx0, decide_eq_true_eq] at hw
      have h1 : some (.inl a, h) = some r := (if_pos hx0).symm.trans hop
      cases h1
      exact (hRet lsv H locs cells slots pc hR hS hc hs).1 a rfl hd (Or.inl hw)
    · rw [if_neg hx0, decide_eq_true_eq] at hw
      obtain ⟨ha, h2⟩ := ite_some ((if_neg hx0).symm.trans hop : (if a = 0 ∨ a = 1 then some (.inl a, h) else none) = some r)
      cases h2
      exact (hRet lsv H locs cells slots pc hR hS hc hs).1 a rfl hd (Or.inr ⟨hw, ha⟩)
  case lreturn =>
    simp only [chkP, Bool.and_eq_true, beq_iff_eq, decide_eq_true_eq] at hp
    obtain ⟨rfl, hw⟩ := hp
    intro lsv H locs cells slots hR hS hl hc hs
    obtain ⟨a, rfl⟩ : ∃ a, st = [.inr (.inl a)] := by
      rcases st with _ | ⟨v | v | v, _ | ⟨u, tl⟩⟩ <;> first | exact ⟨_, rfl⟩ | (simp [opA] at hop)
    have h1 : some (.inr (.inl a), h) = some r := hop
    cases h1
    exact (hRet lsv H locs cells slots pc hR hS hc hs).2.1 a rfl hd hw
  case return_ =>
    simp only [chkP, Bool.and_eq_true, beq_iff_eq, decide_eq_true_eq] at hp
    obtain ⟨rfl, hw⟩ := hp
    intro lsv H locs cells slots hR hS hl hc hs
    obtain rfl : st = [] := by
      rcases st with _ | ⟨v, tl⟩
      · rfl
      · simp [opA] at hop
    have h1 : some (.inl 0, h) = some r := hop
    cases h1
    exact (hRet lsv H locs cells slots pc hR hS hc hs).2.2 hd hw
  case tableswitch =>
    exact hH hop hp hd rfl
  case lookupswitch =>
    exact hH hop hp hd rfl
  case getfield =>
    exact hH hop hp hd rfl
  case putfield =>
    exact hH hop hp hd rfl
  case iaload =>
    exact hH hop hp hd rfl
  case baload =>
    exact hH hop hp hd rfl
  case laload =>
    exact hH hop hp hd rfl
  case aaload =>
    exact hH hop hp hd rfl
  case iastore =>
    exact hH hop hp hd rfl
  case bastore =>
    exact hH hop hp hd rfl
  case lastore =>
    exact hH hop hp hd rfl
  case aastore =>
    exact hH hop hp hd rfl
  case arraylength =>
    exact hH hop hp hd rfl
  case new =>
    exact hH hop hp hd rfl
  case newarray =>
    exact hH hop hp hd rfl
  case anewarray =>
    exact hH hop hp hd rfl
  case invokevirtual =>
    exact hCl hop hp hpc hd rfl
  case invokestatic =>
    exact hCl hop hp hpc hd rfl
  case invokespecial =>
    exact hCl hop hp hpc hd rfl
  all_goals (cases hop; done)
end SIMO
