/-! THE ABSTRACT MACHINE: ints and longs as whole numbers (read modulo 2^32, 2^64), references as places in a list of cells (0: null), the heap as three maps from a cell and a slot. -/
abbrev AV : Type := Int ⊕ (Int ⊕ Nat)
abbrev AL : Type := List (Nat × AV)
abbrev Hp : Type := List (Nat × Nat) × (Nat → Nat → Int) × (Nat → Nat → Int) × (Nat → Nat → Nat)
abbrev RO : Type := Option (AV × Hp)
/-- an instruction with what it was resolved to: pc, instruction, length, numbers, live locals at its target, and behind it -/
abbrev AE : Type := Nat × Instr × Nat × (Nat × Nat × Nat × Nat × Int) × List Nat × List Nat
abbrev AB : Type := List AE × Nat × List Nat
abbrev KT : Type := Nat → AL → List AV → Hp → RO
abbrev CT : Type := Nat → List AV → Hp → RO
abbrev NT : Type := AL → List AV → Hp → RO
def wr (z : Int) : Int := Int.bmod z 4294967296
def wl (z : Int) : Int := Int.bmod z 18446744073709551616
def ix (z : Int) : Nat := (wr z).toNat
def sK (h : Hp) (a : Nat) : Nat := (h.1.getD a (99, 0)).1
def sN (h : Hp) (a : Nat) : Nat := (h.1.getD a (99, 0)).2
def sL (h : Hp) (a : Nat) : Int := match h.1[a]? with
  | some q => (q.2 : Int)
  | none => 0
theorem sL_eq (h : Hp) (a : Nat) : sL h a = (sN h a : Int) := by
  unfold sL sN
  rw [List.getD_eq_getElem?_getD]
  cases h.1[a]? <;> rfl
def hI (h : Hp) (a k : Nat) : Int := h.2.1 a k
def hL (h : Hp) (a k : Nat) : Int := h.2.2.1 a k
def hR (h : Hp) (a k : Nat) : Nat := h.2.2.2 a k
def up2 {α : Type} (f : Nat → Nat → α) (a k : Nat) (v : α) : Nat → Nat → α := fun b j => if b = a ∧ j = k then v else f b j
def zap {α : Type} (f : Nat → Nat → α) (a : Nat) (v : α) : Nat → Nat → α := fun b j => if b = a then v else f b j
def pI (h : Hp) (a k : Nat) (v : Int) : Hp := (h.1, up2 h.2.1 a k v, h.2.2.1, h.2.2.2)
def pL (h : Hp) (a k : Nat) (v : Int) : Hp := (h.1, h.2.1, up2 h.2.2.1 a k v, h.2.2.2)
def pR (h : Hp) (a k : Nat) (v : Nat) : Hp := (h.1, h.2.1, h.2.2.1, up2 h.2.2.2 a k v)
def nwH (h : Hp) (kd n : Nat) : Hp := (h.1 ++ [(kd, n)], zap h.2.1 h.1.length 0, zap h.2.2.1 h.1.length 0, zap h.2.2.2 h.1.length 0)
def cpI (h : Hp) (src sp dst dp n : Nat) : Hp := (h.1, fun b j => if b = dst ∧ dp ≤ j ∧ j < dp + n then h.2.1 src (sp + (j - dp)) else h.2.1 b j, h.2.2.1, h.2.2.2)
def bAnd (a b : Int) : Int := (Int32.ofInt a &&& Int32.ofInt b).toInt
def bOr (a b : Int) : Int := (Int32.ofInt a ||| Int32.ofInt b).toInt
def bXor (a b : Int) : Int := (Int32.ofInt a ^^^ Int32.ofInt b).toInt
def bShl (a b : Int) : Int := (Int32.ofInt a <<< (Int32.ofInt b &&& 31)).toInt
def bShr (a b : Int) : Int := (Int32.ofInt a >>> (Int32.ofInt b &&& 31)).toInt
def bUshr (a b : Int) : Int := ((Int32.ofInt a).toUInt32 >>> ((Int32.ofInt b).toUInt32 &&& Int32.toUInt32 31)).toInt32.toInt
def bDiv (a b : Int) : Int := (wr a).tdiv (wr b)
def bRem (a b : Int) : Int := (wr a).tmod (wr b)
def bI2b (a : Int) : Int := (Int32.ofInt a).toInt8.toInt
def bI2s (a : Int) : Int := (Int32.ofInt a).toInt16.toInt
def bI2c (a : Int) : Int := ((Int32.ofInt a).toUInt32 % 65536).toInt32.toInt
def lAnd (a b : Int) : Int := (Int64.ofInt a &&& Int64.ofInt b).toInt
def lOr (a b : Int) : Int := (Int64.ofInt a ||| Int64.ofInt b).toInt
def lDiv (a b : Int) : Int := (wl a).tdiv (wl b)
def lRem (a b : Int) : Int := (wl a).tmod (wl b)
def lShl (a b : Int) : Int := (Int64.ofInt a <<< ((Int32.ofInt b).toInt64 &&& 63)).toInt
def lShr (a b : Int) : Int := (Int64.ofInt a >>> ((Int32.ofInt b).toInt64 &&& 63)).toInt
def lCmp (a b : Int) : Int := if wl b < wl a then 1 else if wl a = wl b then 0 else -1
/-- the place of a char in a text constant (cells of kind 40 hold their chars), or -1 -/
def sIxF (c : Int) : List Int → Nat → Int
  | [], _ => -1
  | b :: l, k => if b = c then k else sIxF c l (k + 1)
def sIx (h : Hp) (a : Nat) (c : Int) : Int := sIxF c ((List.range (sN h a)).map (fun k => hI h a k)) 0
def catA (v : AV) : Nat := match v with
  | .inl _ => 1
  | .inr (.inl _) => 2
  | .inr (.inr _) => 1
def catS (st : List AV) : Nat := (st.map catA).sum
def norm (ks : List Nat) (ls : AL) : AL := ks.filterMap (fun i => (ls.lookup i).map (fun v => (i, v)))
def sto1 (ls : AL) (i : Nat) (v : AV) : AL := (i, v) :: ls.filter (fun q => !(q.1 == i) && !(q.1 + 1 == i && catA q.2 == 2))
def sto2 (ls : AL) (i : Nat) (v : AV) : AL := (i, v) :: ls.filter (fun q => !(q.1 == i) && (!(q.1 == i + 1) && !(q.1 + 1 == i && catA q.2 == 2)))
def largs : Nat → List AV → AL
  | _, [] => []
  | i, v :: vs => (i, v) :: largs (i + catA v) vs
abbrev okx (h : Hp) (a kd : Nat) (i : Int) : Prop := sK h a = kd ∧ 0 ≤ wr i ∧ wr i < (sN h a : Int)
def ldI (ls : AL) (i : Nat) (f : Int → RO) : RO := match ls.lookup i with
  | some (.inl z) => f z
  | _ => none
def ldL (ls : AL) (i : Nat) (f : Int → RO) : RO := match ls.lookup i with
  | some (.inr (.inl z)) => f z
  | _ => none
def ldR (ls : AL) (i : Nat) (f : Nat → RO) : RO := match ls.lookup i with
  | some (.inr (.inr z)) => f z
  | _ => none
def s1 (st : List AV) (f : Int → List AV → RO) : RO := match st with
  | .inl a :: r => f a r
  | _ => none
def s2 (st : List AV) (f : Int → Int → List AV → RO) : RO := match st with
  | .inl b :: .inl a :: r => f a b r
  | _ => none
def l1 (st : List AV) (f : Int → List AV → RO) : RO := match st with
  | .inr (.inl a) :: r => f a r
  | _ => none
def l2 (st : List AV) (f : Int → Int → List AV → RO) : RO := match st with
  | .inr (.inl b) :: .inr (.inl a) :: r => f a b r
  | _ => none
def sl2 (st : List AV) (f : Int → Int → List AV → RO) : RO := match st with
  | .inl b :: .inr (.inl a) :: r => f a b r
  | _ => none
def r1 (st : List AV) (f : Nat → List AV → RO) : RO := match st with
  | .inr (.inr a) :: r => f a r
  | _ => none
def sr2 (st : List AV) (f : Nat → Int → List AV → RO) : RO := match st with
  | .inl i :: .inr (.inr a) :: r => f a i r
  | _ => none
def rr2 (st : List AV) (f : Nat → Nat → List AV → RO) : RO := match st with
  | .inr (.inr v) :: .inr (.inr a) :: r => f a v r
  | _ => none
def ssr3 (st : List AV) (f : Nat → Int → Int → List AV → RO) : RO := match st with
  | .inl v :: .inl i :: .inr (.inr a) :: r => f a i v r
  | _ => none
def lsr3 (st : List AV) (f : Nat → Int → Int → List AV → RO) : RO := match st with
  | .inr (.inl v) :: .inl i :: .inr (.inr a) :: r => f a i v r
  | _ => none
def rsr3 (st : List AV) (f : Nat → Int → Nat → List AV → RO) : RO := match st with
  | .inr (.inr v) :: .inl i :: .inr (.inr a) :: r => f a i v r
  | _ => none
def cp5 (st : List AV) (f : Nat → Int → Nat → Int → Int → List AV → RO) : RO := match st with
  | .inl n :: .inl dp :: .inr (.inr dst) :: .inl sp :: .inr (.inr src) :: r => f src sp dst dp n r
  | _ => none
def rcv (as : List AV) (f : Nat → RO) : RO := match as with
  | .inr (.inr a) :: _ => f a
  | _ => none
def br (c : Jvm.ClassFile.Cond) (a b : Int) (t f : RO) : RO := match c with
  | .eq => if a = b then t else f
  | .ne => if a = b then f else t
  | .lt => if a < b then t else f
  | .ge => if a < b then f else t
  | .gt => if b < a then t else f
  | .le => if b < a then f else t
def swi (a : Int) (kk : Nat → RO) (d : Nat) : List Nat → RO
  | v :: t :: r => if a = (v : Int) then kk t else swi a kk d r
  | _ => kk d
/-- what a call leaves behind: with an answer on the stack, or without -/
def bak (K : KT) (np : Nat) (ls : AL) (r : List AV) (vd : Bool) (o : RO) : RO := match o with
  | some q => if vd then K np ls r q.2 else K np ls (q.1 :: r) q.2
  | none => none
def opC (K : KT) (C : CT) (e : AE) (ls : AL) (st : List AV) (h : Hp) (k : NT) : RO :=
  match e.2.2.2.1.2.2.1 with
  | 0 => if (st.take e.2.2.2.1.2.1).length = e.2.2.2.1.2.1 ∧ catS (st.drop e.2.2.2.1.2.1) ≤ 8 ∧ catS (st.take e.2.2.2.1.2.1).reverse ≤ e.2.2.2.2.2.headD 0 then bak K (e.1 + 3) (norm e.2.2.2.2.1 ls) (st.drop e.2.2.2.1.2.1) false (C e.2.2.2.1.1 (st.take e.2.2.2.1.2.1).reverse h) else none
  | 1 => if (st.take e.2.2.2.1.2.1).length = e.2.2.2.1.2.1 ∧ catS (st.drop e.2.2.2.1.2.1) ≤ 8 ∧ catS (st.take e.2.2.2.1.2.1).reverse ≤ e.2.2.2.2.2.headD 0 then bak K (e.1 + 3) (norm e.2.2.2.2.1 ls) (st.drop e.2.2.2.1.2.1) true (C e.2.2.2.1.1 (st.take e.2.2.2.1.2.1).reverse h) else none
  | 2 => r1 st fun a r => if 0 < a ∧ catS r ≤ 8 then k ls r h else none
  | 3 => cp5 st fun src sp dst dp n r => if catS r ≤ 8 ∧ sK h src = 20 ∧ sK h dst = 20 ∧ 0 ≤ wr sp ∧ 0 ≤ wr dp ∧ 0 ≤ wr n ∧ wr sp + wr n ≤ (sN h src : Int) ∧ wr dp + wr n ≤ (sN h dst : Int) then k ls r (cpI h src (ix sp) dst (ix dp) (ix n)) else none
  | 4 => r1 st fun a r => if sK h a = 40 ∧ catS r ≤ 8 then k ls (.inl (sL h a) :: r) h else none
  | 5 => sr2 st fun a i r => if okx h a 40 i ∧ catS r ≤ 8 then k ls (.inl (hI h a (ix i)) :: r) h else none
  | 6 => sr2 st fun a i r => if sK h a = 40 ∧ catS r ≤ 8 ∧ 0 ≤ wr i ∧ wr i < 256 then k ls (.inl (sIx h a (wr i)) :: r) h else none
  | 10 => rcv (st.take e.2.2.2.1.2.1).reverse fun a => if sK h a = e.2.2.2.1.2.2.2.1 then if (st.take e.2.2.2.1.2.1).length = e.2.2.2.1.2.1 ∧ catS (st.drop e.2.2.2.1.2.1) ≤ 8 ∧ catS (st.take e.2.2.2.1.2.1).reverse ≤ e.2.2.2.2.2.headD 0 then bak K (e.1 + 3) (norm e.2.2.2.2.1 ls) (st.drop e.2.2.2.1.2.1) false (C e.2.2.2.1.1 (st.take e.2.2.2.1.2.1).reverse h) else none else none
  | 11 => rcv (st.take e.2.2.2.1.2.1).reverse fun a => if sK h a = e.2.2.2.1.2.2.2.1 then if (st.take e.2.2.2.1.2.1).length = e.2.2.2.1.2.1 ∧ catS (st.drop e.2.2.2.1.2.1) ≤ 8 ∧ catS (st.take e.2.2.2.1.2.1).reverse ≤ e.2.2.2.2.2.headD 0 then bak K (e.1 + 3) (norm e.2.2.2.2.1 ls) (st.drop e.2.2.2.1.2.1) true (C e.2.2.2.1.1 (st.take e.2.2.2.1.2.1).reverse h) else none else none
  | _ => none
def opA (K : KT) (C : CT) (e : AE) (ls : AL) (st : List AV) (h : Hp) (k : NT) : RO :=
  match e.2.1 with
  | .iconst v => k ls (.inl v :: st) h
  | .bipush v => k ls (.inl v :: st) h
  | .sipush v => k ls (.inl v :: st) h
  | .lconst v => k ls (.inr (.inl ((v : Nat) : Int)) :: st) h
  | .ldc _ => if e.2.2.2.1.1 = 0 then k ls (.inl e.2.2.2.1.2.2.2.2 :: st) h else k ls (.inr (.inr e.2.2.2.1.1) :: st) h
  | .ldc_w _ => k ls (.inl e.2.2.2.1.2.2.2.2 :: st) h
  | .ldc2_w _ => k ls (.inr (.inl e.2.2.2.1.2.2.2.2) :: st) h
  | .iload i => ldI ls i fun z => k ls (.inl z :: st) h
  | .iload_n i => ldI ls i fun z => k ls (.inl z :: st) h
  | .lload i => ldL ls i fun z => k ls (.inr (.inl z) :: st) h
  | .lload_n i => ldL ls i fun z => k ls (.inr (.inl z) :: st) h
  | .aload i => ldR ls i fun z => k ls (.inr (.inr z) :: st) h
  | .aload_n i => ldR ls i fun z => k ls (.inr (.inr z) :: st) h
  | .istore i => s1 st fun z r => k (sto1 ls i (.inl z)) r h
  | .istore_n i => s1 st fun z r => k (sto1 ls i (.inl z)) r h
  | .lstore i => l1 st fun z r => k (sto2 ls i (.inr (.inl z))) r h
  | .lstore_n i => l1 st fun z r => k (sto2 ls i (.inr (.inl z))) r h
  | .astore i => r1 st fun z r => k (sto1 ls i (.inr (.inr z))) r h
  | .astore_n i => r1 st fun z r => k (sto1 ls i (.inr (.inr z))) r h
  | .iinc i n => ldI ls i fun z => k (sto1 ls i (.inl (z + n))) st h
  | .iadd => s2 st fun a b r => k ls (.inl (a + b) :: r) h
  | .isub => s2 st fun a b r => k ls (.inl (a - b) :: r) h
  | .imul => s2 st fun a b r => k ls (.inl (a * b) :: r) h
  | .idiv => s2 st fun a b r => if wr b = 0 then none else k ls (.inl (bDiv a b) :: r) h
  | .irem => s2 st fun a b r => if wr b = 0 then none else k ls (.inl (bRem a b) :: r) h
  | .iand => s2 st fun a b r => k ls (.inl (bAnd a b) :: r) h
  | .ior => s2 st fun a b r => k ls (.inl (bOr a b) :: r) h
  | .ixor => s2 st fun a b r => k ls (.inl (bXor a b) :: r) h
  | .ishl => s2 st fun a b r => k ls (.inl (bShl a b) :: r) h
  | .ishr => s2 st fun a b r => k ls (.inl (bShr a b) :: r) h
  | .iushr => s2 st fun a b r => k ls (.inl (bUshr a b) :: r) h
  | .ineg => s1 st fun a r => k ls (.inl (-a) :: r) h
  | .i2l => s1 st fun a r => k ls (.inr (.inl (wr a)) :: r) h
  | .i2b => s1 st fun a r => k ls (.inl (bI2b a) :: r) h
  | .i2s => s1 st fun a r => k ls (.inl (bI2s a) :: r) h
  | .i2c => s1 st fun a r => k ls (.inl (bI2c a) :: r) h
  | .l2i => l1 st fun a r => k ls (.inl a :: r) h
  | .ladd => l2 st fun a b r => k ls (.inr (.inl (a + b)) :: r) h
  | .lsub => l2 st fun a b r => k ls (.inr (.inl (a - b)) :: r) h
  | .lmul => l2 st fun a b r => k ls (.inr (.inl (a * b)) :: r) h
  | .ldiv => l2 st fun a b r => if wl b = 0 then none else k ls (.inr (.inl (lDiv a b)) :: r) h
  | .lrem => l2 st fun a b r => if wl b = 0 then none else k ls (.inr (.inl (lRem a b)) :: r) h
  | .land => l2 st fun a b r => k ls (.inr (.inl (lAnd a b)) :: r) h
  | .lor => l2 st fun a b r => k ls (.inr (.inl (lOr a b)) :: r) h
  | .lshl => sl2 st fun a b r => k ls (.inr (.inl (lShl a b)) :: r) h
  | .lshr => sl2 st fun a b r => k ls (.inr (.inl (lShr a b)) :: r) h
  | .lcmp => l2 st fun a b r => k ls (.inl (lCmp a b) :: r) h
  | .dup => r1 st fun a r => k ls (.inr (.inr a) :: .inr (.inr a) :: r) h
  | .dup2 => sr2 st fun a i r => k ls (.inl i :: .inr (.inr a) :: .inl i :: .inr (.inr a) :: r) h
  | .pop => s1 st fun _ r => k ls r h
  | .pop2 => l1 st fun _ r => k ls r h
  | .ifCond c _ => s1 st fun a r => br c (wr a) 0 (K e.2.2.2.1.1 (norm e.2.2.2.2.1 ls) r h) (K (e.1 + 3) (norm e.2.2.2.2.2 ls) r h)
  | .if_icmp c _ => s2 st fun a b r => br c (wr a) (wr b) (K e.2.2.2.1.1 (norm e.2.2.2.2.1 ls) r h) (K (e.1 + 3) (norm e.2.2.2.2.2 ls) r h)
  | .goto _ => K e.2.2.2.1.1 (norm e.2.2.2.2.1 ls) st h
  | .tableswitch _ _ _ _ => s1 st fun a r => swi (wr a) (fun t => K t (norm e.2.2.2.2.2 ls) r h) e.2.2.2.1.1 e.2.2.2.2.1
  | .lookupswitch _ _ => s1 st fun a r => swi (wr a) (fun t => K t (norm e.2.2.2.2.2 ls) r h) e.2.2.2.1.1 e.2.2.2.2.1
  | .getfield _ => r1 st fun a r => if sK h a = e.2.2.2.1.1 then (if e.2.2.2.1.2.2.1 = 2 then k ls (.inr (.inr (hR h a e.2.2.2.1.2.1)) :: r) h else k ls (.inl (hI h a e.2.2.2.1.2.1) :: r) h) else none
  | .putfield _ => if e.2.2.2.1.2.2.1 = 2 then rr2 st fun a v r => if sK h a = e.2.2.2.1.1 then k ls r (pR h a e.2.2.2.1.2.1 v) else none
      else sr2 st fun a v r => if sK h a = e.2.2.2.1.1 then (if e.2.2.2.1.2.2.1 = 3 then (if v = 0 ∨ v = 1 then k ls r (pI h a e.2.2.2.1.2.1 v) else none) else k ls r (pI h a e.2.2.2.1.2.1 v)) else none
  | .iaload => sr2 st fun a i r => if okx h a e.2.2.2.1.1 i then k ls (.inl (hI h a (ix i)) :: r) h else none
  | .baload => sr2 st fun a i r => if okx h a e.2.2.2.1.1 i then k ls (.inl (hI h a (ix i)) :: r) h else none
  | .laload => sr2 st fun a i r => if okx h a 21 i then k ls (.inr (.inl (hL h a (ix i))) :: r) h else none
  | .aaload => sr2 st fun a i r => if okx h a e.2.2.2.1.1 i then k ls (.inr (.inr (hR h a (ix i))) :: r) h else none
  | .iastore => ssr3 st fun a i v r => if okx h a 20 i then k ls r (pI h a (ix i) v) else none
  | .bastore => ssr3 st fun a i v r => if e.2.2.2.1.1 = 22 then (if okx h a 22 i then k ls r (pI h a (ix i) (bI2b v)) else none) else (if okx h a 23 i ∧ (v = 0 ∨ v = 1) then k ls r (pI h a (ix i) v) else none)
  | .lastore => lsr3 st fun a i v r => if okx h a 21 i then k ls r (pL h a (ix i) v) else none
  | .aastore => rsr3 st fun a i v r => if okx h a e.2.2.2.1.1 i ∧ sK h v = e.2.2.2.1.2.1 then k ls r (pR h a (ix i) v) else none
  | .arraylength => r1 st fun a r => if sK h a = e.2.2.2.1.1 then k ls (.inl (sL h a) :: r) h else none
  | .new _ => k ls (.inr (.inr h.1.length) :: st) (nwH h e.2.2.2.1.1 e.2.2.2.1.2.1)
  | .newarray _ => s1 st fun n r => if 0 ≤ wr n ∧ wr n ≤ 100000 then k ls (.inr (.inr h.1.length) :: r) (nwH h e.2.2.2.1.1 (ix n)) else none
  | .anewarray _ => s1 st fun n r => if 0 ≤ wr n ∧ wr n ≤ 100000 then k ls (.inr (.inr h.1.length) :: r) (nwH h e.2.2.2.1.1 (ix n)) else none
  | .invokevirtual _ => opC K C e ls st h k
  | .invokestatic _ => opC K C e ls st h k
  | .invokespecial _ => opC K C e ls st h k
  | .ireturn => if e.2.2.2.1.1 = 0 then (match st with | [.inl a] => some (.inl a, h) | _ => none) else (match st with | [.inl a] => if a = 0 ∨ a = 1 then some (.inl a, h) else none | _ => none)
  | .lreturn => match st with | [.inr (.inl a)] => some (.inr (.inl a), h) | _ => none
  | .return_ => match st with | [] => some (.inl 0, h) | _ => none
  | _ => none
def goA (K : KT) (C : CT) (np : Nat) (kp : List Nat) : List AE → AL → List AV → Hp → RO
  | [], ls, st, h => K np (norm kp ls) st h
  | e :: r, ls, st, h => opA K C e ls st h (fun ls st h => goA K C np kp r ls st h)
def runB (K : KT) (C : CT) (b : Option AB) (ls : AL) (st : List AV) (h : Hp) : RO := match b with
  | some q => goA K C q.2.1 q.2.2 q.1 ls st h
  | none => none
