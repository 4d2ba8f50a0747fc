/-! THE CONTEXT of a method's walk -/
def T2 : String := "rail cloth hook ring broken law chair pleat slip join mark or and not hm rm hooks rings "
def T3 : String := ";:+-*()[]=<>"
def T4 : String := " rail cloth hook mark ring broken law chair pleat slip join or and not hm rm hooks rings "
def A0 (bs : Nat) : Nat → Prop := fun q => bs ≤ q
def Str (bs : Nat) (ad : Nat → Nat) (s : State) : Prop :=
  ((∃ adV : Nat → Nat, vk_S 3 txLen txB (fun j => ad (j + 2)) adV (A0 bs) s s.heap) ∧ va_Z "java/lang/String" "COMPACT_STRINGS" "Z" (.int 1) (A0 bs) s s.heap ∧ va_Zq "jdk/internal/util/Preconditions" "SIOOBE_FORMATTER" "Ljava/util/function/BiFunction;" (A0 bs) s s.heap) ∧ vk_R "HookOver$Tokens" 67 T2 (ad 2) s ∧ vk_R "HookOver$Tokens" 59 T3 (ad 3) s ∧ vk_R "HookOverModel" 80 T4 (ad 4) s ∧ vk_R "HookOverModel" 118 T3 (ad 3) s
def yRow : MethodName := ⟨"HookOver", "rowOf", "(II)I"⟩
/-- what holds of the state in which a method begins -/
def Stt (bs L : Nat) (xs : Nat → Int32) (ad : Nat → Nat) (cA : Nat → ClassId) (D : va_G) (n0 : Nat) (s : State) : Prop :=
  (∀ i, 6 ≤ i → ad i = bs + (i - 6)) ∧ 6 ≤ n0 ∧ s.heap.size = bs + (n0 - 6) ∧ va_K D vwCl [] s ∧ (∀ kd, 20 ≤ kd → kd < 27 → ArrOfT s (cA kd) (aty kd) ∧ va_RA s (cA kd) (aty kd)) ∧
  (va_AO "HookOver$Tray" s ∧ va_AO "HookOver$Window" s ∧ va_AO "HookOver$Hanging" s) ∧ (va_Nw (.methodLinkNest "HookOver$Joinings" 60 yRow "HookOver") s ∧ va_Nw (.methodLinkNest "HookOver$Watcher" 78 yRow "HookOver") s) ∧
  (va_X (ad 1) L xs s s.heap ∧ ad 1 < bs) ∧ Str bs ad s
theorem Stt.to {bs L : Nat} {xs : Nat → Int32} {ad : Nat → Nat} {cA : Nat → ClassId} {D : va_G} {n0 n1 : Nat} {s U : State} {H : Heap} {locs : List Loc} (h : Stt bs L xs ad cA D n0 s) (hS : va_S (A0 bs) s.heap H locs) (hU : U.heap = H) (hW : s.WarmedH U.vm) (h6 : 6 ≤ n1) (hz : H.size = bs + (n1 - 6)) : Stt bs L xs ad cA D n1 U := by
  obtain ⟨h1, h2, h3, h4, h5, ⟨o1, o2, o3⟩, ⟨w1, w2⟩, ⟨x1, x2⟩, ⟨⟨adV, k1⟩, kz, kq⟩, k2, k3, k4, k5⟩ := h
  have hal := hW.alike
  refine ⟨h1, h6, by rw [hU]; exact hz, va_K.moved hal h4, fun kd a b => ⟨arrOfT_moved hal (h5 kd a b).1, (h5 kd a b).2.moved hal⟩, ⟨o1.moved hal, o2.moved hal, o3.moved hal⟩, ⟨va_Nw.warmM hW w1, va_Nw.warmM hW w2⟩, ⟨?_, x2⟩, ⟨⟨adV, ?_⟩, ?_, ?_⟩, k2.warm hW, k3.warm hW, k4.warm hW, k5.warm hW⟩
  · rw [hU]
    refine va_X.moved hal (x1.kept (hS.2.1 _ ?_ ?_))
    · omega
    · exact fun h => by have h' : bs ≤ ad 1 := h; omega
  · rw [hU]
    exact vk_S.moved hal (k1.kept hS.2.1)
  · rw [hU]
    exact va_Z.moved hal (kz.kept hS.2.1)
  · rw [hU]
    exact va_Zq.moved hal (kq.kept hS.2.1)
theorem Stt.call {bs L : Nat} {xs : Nat → Int32} {ad : Nat → Nat} {cA : Nat → ClassId} {D : va_G} {n0 : Nat} {U : State} {g : JFrame} {mk : MethodId} {a : Array Value} (h : Stt bs L xs ad cA D n0 U) : Stt bs L xs ad cA D n0 (U.calling g mk a) := by
  obtain ⟨h1, h2, h3, h4, h5, ⟨o1, o2, o3⟩, ⟨w1, w2⟩, ⟨x1, x2⟩, ⟨⟨adV, k1⟩, kz, kq⟩, k2, k3, k4, k5⟩ := h
  have hal : U.vm.Alike (U.calling g mk a).vm := Vm.Alike.refl U.vm
  have hv : (U.calling g mk a).vm = U.vm := rfl
  exact ⟨h1, h2, h3, va_K.moved hal h4, fun kd a b => ⟨arrOfT_moved hal (h5 kd a b).1, (h5 kd a b).2.moved hal⟩, ⟨o1.moved hal, o2.moved hal, o3.moved hal⟩, ⟨va_Nw.same rfl hv.symm w1, va_Nw.same rfl hv.symm w2⟩, ⟨va_X.moved hal x1, x2⟩, ⟨⟨adV, vk_S.moved hal k1⟩, va_Z.moved hal kz, va_Zq.moved hal kq⟩, k2.same hv, k3.same hv, k4.same hv, k5.same hv⟩
theorem Stt.D {bs L : Nat} {xs : Nat → Int32} {ad : Nat → Nat} {cA : Nat → ClassId} {D : va_G} {n0 : Nat} {s : State} (h : Stt bs L xs ad cA D n0 s) (hp : Hp) : va_D (A0 bs) (wsH ad cA hp) := by
  obtain ⟨h1, -⟩ := h
  refine ⟨fun i j x y hi hj hxy => ?_, fun k q hq => ?_⟩
  · obtain ⟨-, rfl⟩ := wsH_get hi
    obtain ⟨-, rfl⟩ := wsH_get hj
    have : ad (i + 6) = ad (j + 6) := hxy
    rw [h1 (i + 6) (by omega), h1 (j + 6) (by omega)] at this
    omega
  · obtain ⟨-, rfl⟩ := wsH_get hq
    show bs ≤ ad (k + 6)
    rw [h1 (k + 6) (by omega)]
    omega
/-- the slots of all cells -/
def slt (h : Hp) : Nat := (h.1.map (·.2)).sum
def Act (p : Program) (R : Room) (s : State) (m : MethodId) (args : Array Value) (meth : Method) (c : Code) (bs L : Nat) (xs : Nat → Int32) (ad : Nat → Nat) (cA : Nat → ClassId) (D : va_G) (md n0 d : Nat) : Prop :=
  md < 306 ∧ p.tables.exec = Jvm.exec ∧ c.code = mB md ∧ meth.sig.returnType = mR md ∧ c.maxLocals = mX md ∧ s.vm.findClass (mY md).cls = some m.cls ∧ (∀ w ∈ TBL, w.before args s = true) ∧ meth.locks = false ∧ (mK md = 2 → meth.name = "<init>") ∧ Stt bs L xs ad cA D n0 s ∧ d + 20 ≤ R.frames ∧ 60 * (d + 1) + 1000 ≤ R.locals
def Wst (p : Program) (l : Launch) (e : Env) (R : Room) (s : State) (m : MethodId) (args : Array Value) (below : List Frame) (meth : Method) (c : Code) (Q : State → Prop) (bs L : Nat) (xs : Nat → Int32) (ad : Nat → Nat) (cA : Nat → ClassId) (D : va_G) (md n0 s0 : Nat) (pc : Nat) (ls : AL) (st : List AV) (h : Hp) : Prop :=
  ∀ (lsv : Array Slot) (H : Heap) (locs : List Loc) (cells slots : Nat), Rl L xs ad cA D h H → va_S (A0 bs) s.heap H locs → lv_has lsv (mX md) (ls.map (rl ad)) → cells + n0 = h.1.length → slots + s0 = slt h → W p l e R s m args below meth c H locs cells slots Q (F0 m pc lsv (st.map (rv ad)))
theorem lk_mem {ls : AL} {i : Nat} {v : AV} (h : ls.lookup i = some v) : (i, v) ∈ ls := by
  induction ls with
  | nil => cases h
  | cons q r ih =>
    obtain ⟨j, w⟩ := q
    rw [List.lookup_cons] at h
    by_cases hij : (i == j) = true
    · rw [hij] at h
      have : i = j := by simpa using hij
      subst this
      cases h
      exact List.mem_cons_self
    · rw [show (i == j) = false by simpa using hij] at h
      exact List.mem_cons_of_mem _ (ih h)
theorem lv_lk {lsv : Array Slot} {nL : Nat} {ad : Nat → Nat} {ls : AL} (hl : lv_has lsv nL (ls.map (rl ad))) {i : Nat} {v : AV} (h : ls.lookup i = some v) : lsv[i]? = some (.val (rv ad v)) :=
  hl.2.2 (rl ad (i, v)) (List.mem_map.mpr ⟨_, lk_mem h, rfl⟩)
theorem lv_norm {lsv : Array Slot} {nL : Nat} {ad : Nat → Nat} {ls : AL} (hl : lv_has lsv nL (ls.map (rl ad))) (ks : List Nat) : lv_has lsv nL ((norm ks ls).map (rl ad)) := by
  refine ⟨hl.1, hl.2.1, fun q hq => hl.2.2 q ?_⟩
  obtain ⟨x, hx, rfl⟩ := List.mem_map.mp hq
  obtain ⟨i, -, hi⟩ := List.mem_filterMap.mp hx
  cases hk : ls.lookup i with
  | none => rw [hk] at hi; cases hi
  | some v =>
    rw [hk] at hi
    cases hi
    exact List.mem_map.mpr ⟨_, lk_mem hk, rfl⟩
theorem sto1_rl (ad : Nat → Nat) (ls : AL) (i : Nat) (v : AV) : (i, rv ad v) :: (ls.map (rl ad)).filter (fun q => !(q.1 == i) && !(q.1 + 1 == i && q.2.category == 2)) = (sto1 ls i v).map (rl ad) := by
  unfold sto1
  rw [List.map_cons, List.filter_map]
  congr 3
  funext q
  show (!((rl ad q).1 == i) && !((rl ad q).1 + 1 == i && (rl ad q).2.category == 2)) = _
  rw [show (rl ad q).2.category = catA q.2 from rv_cat ad q.2]
  rfl
theorem sto2_rl (ad : Nat → Nat) (ls : AL) (i : Nat) (v : AV) : (i, rv ad v) :: (ls.map (rl ad)).filter (fun q => !(q.1 == i) && (!(q.1 == i + 1) && !(q.1 + 1 == i && q.2.category == 2))) = (sto2 ls i v).map (rl ad) := by
  unfold sto2
  rw [List.map_cons, List.filter_map]
  congr 3
  funext q
  show (!((rl ad q).1 == i) && (!((rl ad q).1 == i + 1) && !((rl ad q).1 + 1 == i && (rl ad q).2.category == 2))) = _
  rw [show (rl ad q).2.category = catA q.2 from rv_cat ad q.2]
  rfl
theorem oi_toInt (a : Int) : (Int32.ofInt a).toInt = wr a := by
  rw [Int32.toInt_ofInt]; rfl
theorem ol_toInt (a : Int) : (Int64.ofInt a).toInt = wl a := by
  rw [Int64.toInt_ofInt]; rfl
theorem oi_eq (a b : Int) : Int32.ofInt a = Int32.ofInt b ↔ wr a = wr b := by rw [← Int32.toInt_inj, oi_toInt, oi_toInt]
theorem oi_lt (a b : Int) : Int32.ofInt a < Int32.ofInt b ↔ wr a < wr b := by rw [Int32.lt_iff_toInt_lt, oi_toInt, oi_toInt]
theorem oi_le (a b : Int) : Int32.ofInt a ≤ Int32.ofInt b ↔ wr a ≤ wr b := by rw [Int32.le_iff_toInt_le, oi_toInt, oi_toInt]
theorem oi_self (x : Int32) : Int32.ofInt x.toInt = x := Int32.ofInt_toInt x
theorem ol_self (x : Int64) : Int64.ofInt x.toInt = x := Int64.ofInt_toInt x
theorem oi_wr (a : Int) : Int32.ofInt (wr a) = Int32.ofInt a := by rw [← oi_toInt, oi_self]
theorem ol_wl (a : Int) : Int64.ofInt (wl a) = Int64.ofInt a := by rw [← ol_toInt, ol_self]
theorem wr_0 : wr 0 = 0 := rfl
theorem oi_clamp (a : Int) : (Int32.ofInt a).toNatClampNeg = ix a := by
  show (Int32.ofInt a).toInt.toNat = _
  rw [oi_toInt]; rfl
theorem oi_in {i : Int} {n : Nat} (h1 : 0 ≤ wr i) (h2 : wr i < (n : Int)) : vp_in (Int32.ofInt i) n := vp_in_iff.mpr (by rw [oi_toInt]; exact ⟨h1, h2⟩)
theorem oi_div (a b : Int) : Int32.ofInt a / Int32.ofInt b = Int32.ofInt (bDiv a b) := by
  rw [← Int32.toInt_inj, Int32.toInt_div, oi_toInt, oi_toInt, oi_toInt]
  rfl
theorem oi_rem (a b : Int) : Int32.ofInt a - Int32.ofInt a / Int32.ofInt b * Int32.ofInt b = Int32.ofInt (bRem a b) := by
  rw [oi_div, ← oi_wr a, ← oi_wr b, ← Int32.ofInt_mul, ← Int32.ofInt_sub]
  congr 1
  unfold bDiv bRem
  have := Int.mul_tdiv_add_tmod (wr a) (wr b)
  rw [Int.mul_comm] at this
  omega
theorem ol_div (a b : Int) : Int64.ofInt a / Int64.ofInt b = Int64.ofInt (lDiv a b) := by
  rw [← Int64.toInt_inj, Int64.toInt_div, ol_toInt, ol_toInt, ol_toInt]
  rfl
theorem ol_rem (a b : Int) : Int64.ofInt a - Int64.ofInt a / Int64.ofInt b * Int64.ofInt b = Int64.ofInt (lRem a b) := by
  rw [ol_div, ← ol_wl a, ← ol_wl b, ← Int64.ofInt_mul, ← Int64.ofInt_sub]
  congr 1
  unfold lDiv lRem
  have := Int.mul_tdiv_add_tmod (wl a) (wl b)
  rw [Int.mul_comm] at this
  omega
theorem oi_i2l (a : Int) : (Int32.ofInt a).toInt64 = Int64.ofInt (wr a) := by
  rw [← oi_toInt]
  rfl
theorem ol_l2i (a : Int) : (Int64.ofInt a).toInt32 = Int32.ofInt a := by
  rw [← Int32.toInt_inj, Int64.toInt_toInt32, ol_toInt, oi_toInt]
  unfold wl wr
  exact Int.bmod_bmod_of_dvd (by decide)
theorem ol_cmp (a b : Int) : lg_cmp (Int64.ofInt a) (Int64.ofInt b) = Int32.ofInt (lCmp a b) := by
  unfold lg_cmp lCmp
  simp only [gt_iff_lt, Int64.lt_iff_toInt_lt, ← Int64.toInt_inj, ol_toInt]
  split
  · rfl
  · split <;> rfl
