/-! FROM THE LAW'S ENTRY to the abstract machine's start -/
def R_law : String := "HookOverLaw"
def lw_P (b : Addr) (xs : List Int32) (args : Array Value) (s : State) : Prop := args = #[.ref b] ∧ s.IntsAt b xs ∧ xs.length ≤ 3072 ∧ (Jvm.Cond.and given_1 narrow_1).before args s = true
def lw_Q (_ : Array Value) (s : State) (o : Outcome) (t : State) : Prop := o = .returned (some (.int 1)) ∧ Framed s o t [] 600000 7302250
def lw_Z (below : List Frame) (a : Array Value) (s : State) : State → Prop := fun t => ∃ o, t.status = .running ∧ Ended t below o ∧ lw_Q a s o t
/-- the law's own end, with 1 on the stack, nothing written that was there before, its room as the claim has it -/
theorem lw_ret {p : Program} {l : Launch} {e : Env} {s : State} {m : MethodId} {below : List Frame} {meth : Method} {c : Code} {b : Nat} (hx : p.tables.exec = Jvm.exec) (hb : c.code = code) (hr : meth.sig.returnType = ret) (hlocks : meth.locks = false) {pc : Nat} {H : Heap} {ls : Array Slot} (hdg : decode code pc = .ok (.ireturn, 1)) : W p l e room_1 s m #[Value.ref b] below meth c H [] 600000 7302250 (lw_Z below #[Value.ref b] s) (F0 m pc ls [.int 1]) := by
  intro T hT X
  obtain ⟨fs, hret, hrun, hended, hW, hframe⟩ := X.leave (v := some (.int 1)) (hlocks := hlocks) (fun h => by rw [hr] at h; cases h)
  have hmeth' : T.vm.method? m = some meth := X.method'
  refine ⟨T.setFrames fs, ?_, .returned (some (.int 1)), hrun, hended, rfl, ⟨_, rfl⟩, hW, hframe⟩
  jvm_step X.here [X.here.top, hx, hb, hdg, hmeth', hr, ret, narrow_b1]
  (try refine ⟨rfl, ?_⟩); (try refine ⟨rfl, ?_⟩)
  first | (intro acts; rw [hret _ acts rfl rfl rfl]) | rw [hret _ _ rfl rfl rfl]
  exact Steps.refl _
/-- what holds at the law's entry: the machine, the code, the tables' words (any of lw_tbl by 'hts w (by decide +kernel)'), the script of L ints xs at the cell b, what the Statement gives of the start (any of its parts by flat_of_before) -/
def lw_At (p : Program) (s : State) (m : MethodId) (meth : Method) (c : Code) (b L : Nat) (xs : Nat → Int32) : Prop :=
  p.tables.exec = Jvm.exec ∧ c.code = code ∧ meth.sig.returnType = ret ∧ c.maxLocals = 4 ∧ s.vm.findClass R_law = some m.cls ∧ (∀ w ∈ lw_tbl, w.before #[Value.ref b] s = true) ∧ va_X b L xs s s.heap ∧ b < s.heap.size ∧ meth.locks = false ∧ (Jvm.Cond.and given_1 narrow_1).before #[Value.ref b] s = true
def h0 (L : Nat) (xs : Nat → Int32) : Hp := ([(99, 0), (30, L), (40, (txL.getD 0 []).length), (40, (txL.getD 1 []).length), (40, (txL.getD 2 []).length), (99, 0)], fun a j => if a = 1 then (xs j).toInt else if a = 2 then (txL.getD 0 []).getD j 0 else if a = 3 then (txL.getD 1 []).getD j 0 else if a = 4 then (txL.getD 2 []).getD j 0 else 0, fun _ _ => 0, fun _ _ => 0)
/-- what is left to say of the law: words of the abstract machine alone -/
def Pure1 (L : Nat) (xs : Nat → Int32) : Prop := ∃ h', EX 200 305 0 [(0, .inr (.inr 1))] [] (h0 L xs) = some (.inl 1, h') ∧ h'.1.length ≤ 600006 ∧ slt h' ≤ slt (h0 L xs) + 7302250
def tmS (i : Nat) : Term := if i = 0 then .string "HookOver$Tokens" 67 else if i = 1 then .string "HookOver$Tokens" 59 else .string "HookOverModel" 80
def FL : List Jvm.Cond := flatC (Jvm.Cond.and given_1 narrow_1)
theorem st_ex : ∀ i, i < 3 → Jvm.Cond.exactly (tmS i) "java/lang/String" ∈ FL := by decide +kernel
theorem st_co : ∀ i, i < 3 → Jvm.Cond.eq (.field (tmS i) "java/lang/String" "coder" "B") (.int 0) ∈ FL := by decide +kernel
theorem st_ar : ∀ i, i < 3 → Jvm.Cond.arrayOf (.field (tmS i) "java/lang/String" "value" "[B") .byte ∈ FL := by decide +kernel
theorem st_le : ∀ i, i < 3 → Jvm.Cond.eq (.length (.field (tmS i) "java/lang/String" "value" "[B")) (.int (Int32.ofNat (txLen.getD i 0))) ∈ FL := by decide +kernel
def stP : List (List Nat) := [[65, 66, 67, 68, 69, 70, 71, 72, 73, 74, 75, 76, 77, 78, 79, 80, 81, 82, 83, 84, 85, 86, 87, 88, 89, 90, 91, 92, 93, 94, 95, 96, 97, 98, 99, 100, 101, 102, 103, 104, 105, 106, 107, 108, 109, 110, 111, 112, 113, 114, 115, 116, 117, 118, 119, 120, 121, 122, 123, 124, 125, 126, 127, 128, 129, 130, 131, 132, 133, 134, 135, 136, 137, 138, 139, 140, 141, 142, 143, 144, 145, 146, 147, 148, 149, 150, 151, 152], [49, 50, 51, 52, 53, 54, 55, 56, 57, 58, 59, 60], [158, 159, 160, 161, 162, 163, 164, 165, 166, 167, 168, 169, 170, 171, 172, 173, 174, 175, 176, 177, 178, 179, 180, 181, 182, 183, 184, 185, 186, 187, 188, 189, 190, 191, 192, 193, 194, 195, 196, 197, 198, 199, 200, 201, 202, 203, 204, 205, 206, 207, 208, 209, 210, 211, 212, 213, 214, 215, 216, 217, 218, 219, 220, 221, 222, 223, 224, 225, 226, 227, 228, 229, 230, 231, 232, 233, 234, 235, 236, 237, 238, 239, 240, 241, 242, 243, 244, 245, 246]]
def stW (i j : Nat) : Jvm.Cond := Jvm.Cond.eq (.elem (.field (tmS i) "java/lang/String" "value" "[B") (.int (Int32.ofNat j))) (.int ((txB.getD i []).getD j 0))
theorem st_el_0_0 : ∀ j, j < 30 → FL[(stP.getD 0 []).getD (0 + j) 0]? = some (stW 0 (0 + j)) := by decide +kernel
theorem st_el_0_30 : ∀ j, j < 30 → FL[(stP.getD 0 []).getD (30 + j) 0]? = some (stW 0 (30 + j)) := by decide +kernel
theorem st_el_0_60 : ∀ j, j < 28 → FL[(stP.getD 0 []).getD (60 + j) 0]? = some (stW 0 (60 + j)) := by decide +kernel
theorem st_el_1_0 : ∀ j, j < 12 → FL[(stP.getD 1 []).getD (0 + j) 0]? = some (stW 1 (0 + j)) := by decide +kernel
theorem st_el_2_0 : ∀ j, j < 30 → FL[(stP.getD 2 []).getD (0 + j) 0]? = some (stW 2 (0 + j)) := by decide +kernel
theorem st_el_2_30 : ∀ j, j < 30 → FL[(stP.getD 2 []).getD (30 + j) 0]? = some (stW 2 (30 + j)) := by decide +kernel
theorem st_el_2_60 : ∀ j, j < 29 → FL[(stP.getD 2 []).getD (60 + j) 0]? = some (stW 2 (60 + j)) := by decide +kernel
theorem st_el : ∀ i, i < 3 → ∀ j, j < txLen.getD i 0 → stW i j ∈ FL := by
  intro i hi j hj
  have : i = 0 ∨ i = 1 ∨ i = 2 := by omega
  have e0 : txLen.getD 0 0 = 88 := by decide +kernel
  have e1 : txLen.getD 1 0 = 12 := by decide +kernel
  have e2 : txLen.getD 2 0 = 89 := by decide +kernel
  rcases this with rfl | rfl | rfl
  · by_cases h0 : j < 30
    · have := st_el_0_0 (j - 0) (by omega)
      rw [show 0 + (j - 0) = j by omega] at this
      exact List.mem_of_getElem? this
    by_cases h30 : j < 60
    · have := st_el_0_30 (j - 30) (by omega)
      rw [show 30 + (j - 30) = j by omega] at this
      exact List.mem_of_getElem? this
    have := st_el_0_60 (j - 60) (by omega)
    rw [show 60 + (j - 60) = j by omega] at this
    exact List.mem_of_getElem? this
  · have := st_el_1_0 (j - 0) (by omega)
    rw [show 0 + (j - 0) = j by omega] at this
    exact List.mem_of_getElem? this
  · by_cases h0 : j < 30
    · have := st_el_2_0 (j - 0) (by omega)
      rw [show 0 + (j - 0) = j by omega] at this
      exact List.mem_of_getElem? this
    by_cases h30 : j < 60
    · have := st_el_2_30 (j - 30) (by omega)
      rw [show 30 + (j - 30) = j by omega] at this
      exact List.mem_of_getElem? this
    have := st_el_2_60 (j - 60) (by omega)
    rw [show 60 + (j - 60) = j by omega] at this
    exact List.mem_of_getElem? this
theorem st_ne : ∀ i, i < 3 → ∀ j, j < 3 → i ≠ j → Jvm.Cond.not (Jvm.Cond.eq (tmS i) (tmS j)) ∈ FL ∨ Jvm.Cond.not (Jvm.Cond.eq (tmS j) (tmS i)) ∈ FL := by decide +kernel
theorem st_eq : Jvm.Cond.eq (.string "HookOver$Tokens" 59) (.string "HookOverModel" 118) ∈ FL := by decide +kernel
theorem st_cs : Jvm.Cond.eq (.static "java/lang/String" "COMPACT_STRINGS" "Z") (.int 1) ∈ FL := by decide +kernel
theorem st_sf : Jvm.Cond.isRef (.static "jdk/internal/util/Preconditions" "SIOOBE_FORMATTER" "Ljava/util/function/BiFunction;") ∈ FL := by decide +kernel
theorem h0_low (L : Nat) (xs : Nat → Int32) : Low L xs (h0 L xs) := by
  refine ⟨by simp [h0], rfl, rfl, rfl, rfl, rfl, rfl, rfl, fun j => ?_, fun a ha => ?_⟩
  · show Int32.ofInt (xs j).toInt = xs j
    exact Int32.ofInt_toInt _
  · have : a = 0 ∨ a = 1 ∨ a = 2 := by omega
    rcases this with rfl | rfl | rfl
    · exact ⟨rfl, fun _ => rfl⟩
    · exact ⟨rfl, fun _ => rfl⟩
    · exact ⟨rfl, fun _ => rfl⟩
theorem law_ok : (mB 305 = code ∧ mR 305 = ret ∧ mX 305 = 4) ∧ (mY 305).cls = R_law ∧ mK 305 = 0 := ⟨⟨rfl, rfl, rfl⟩, rfl, rfl⟩

set_option maxHeartbeats 4000000 in
theorem law_glue (hchk : ∀ md, md < 306 → chkM md = true)
    (hStr : ∀ (l : Launch) (bs L : Nat) (xs : Nat → Int32) (ad : Nat → Nat) (cA : Nat → ClassId) (D : va_G) (p : Program) (e : Env) (R : Room) (s : State) (m : MethodId) (args : Array Value) (below : List Frame) (meth : Method) (c : Code) (Q : State → Prop) (md n0 d : Nat), StrRow p l e R s m args below meth c Q bs L xs ad cA D md n0 d)
    (hPure : ∀ (L : Nat) (xs : Nat → Int32), L ≤ 3072 → Pure1 L xs)
    {p : Program} {e : Env} {s : State} {m : MethodId} {below : List Frame} {meth : Method} {c : Code} (l : Launch) {b L : Nat} {xs : Nat → Int32} (hL : L ≤ 3072) (C0 : lw_At p s m meth c b L xs) : W p l e room_1 s m #[Value.ref b] below meth c s.heap [] 0 0 (lw_Z below #[Value.ref b] s) (entryFrame m ([Value.ref b] : List Value).toArray 4) := by
  obtain ⟨hx, hb, hr, hml, hown, hts, hX, hbl, hlocks, hgv⟩ := C0
  have hfl : ∀ w ∈ FL, w.before #[Value.ref b] s = true := flat_of_before _ hgv
  have htsT : ∀ w ∈ TBL, w.before #[Value.ref b] s = true := fun w hw => hts w (List.mem_filter.mp hw).1
  have htb : ∀ (i : Nat) (w : Jvm.Cond), tables_1[i]? = some w → w.before #[Value.ref b] s = true := fun i w h => hts w (List.mem_append_right _ (List.mem_of_getElem? h))
  obtain ⟨adK, adV, hvk, had⟩ := vk_Sof (N := 3) (tm := tmS) (len := txLen) (byt := txB) (A := A0 s.heap.size) (args := #[Value.ref b]) (s := s) (by decide +kernel) (fun i hi => hfl _ (st_ex i hi)) (fun i hi => hfl _ (st_co i hi)) (fun i hi => hfl _ (st_ar i hi)) (fun i hi => hfl _ (st_le i hi)) (fun i hi j hj => hfl _ (st_el i hi j hj)) (fun i j hi hj hij => (st_ne i hi j hj hij).imp (hfl _) (hfl _)) (fun a ha h => by have h' : s.heap.size ≤ a := h; omega)
  have hkn : ∀ ci : Nat, ∃ q : ClassId × (Nat → Nat), ci < 12 → u_Kn s (clsR ci) (clsT ci) (nfl ci) q.1 q.2 := by
    intro ci
    by_cases hci : ci < 12
    · obtain ⟨cC, iS, h⟩ := u_known htsT (cl_in ci hci) (htsT _ (TBL_of _ (cl_ins ci hci) rfl))
      exact ⟨(cC, iS), fun _ => h⟩
    · exact ⟨(0, fun _ => 0), fun h => absurd h hci⟩
  obtain ⟨fD, hfD⟩ := Classical.axiomOfChoice hkn
  have hca : ∀ kd : Nat, ∃ q : ClassId, 20 ≤ kd → kd < 27 → ArrOfT s q (aty kd) ∧ va_RA s q (aty kd) := by
    intro kd
    by_cases hk : 20 ≤ kd ∧ kd < 27
    · have : kd = 20 ∨ kd = 21 ∨ kd = 22 ∨ kd = 23 ∨ kd = 24 ∨ kd = 25 ∨ kd = 26 := by omega
      rcases this with rfl | rfl | rfl | rfl | rfl | rfl | rfl
      · obtain ⟨cB, kB, comp, h1, h2, h3⟩ := Cond.arrayClass_spec (htb 95 (.arrayClass .int) (by decide +kernel))
        exact ⟨cB, fun _ _ => ⟨fun n z => ⟨fun k h => (by cases h), kB, h2, comp, h3⟩, h1⟩⟩
      · obtain ⟨cB, kB, comp, h1, h2, h3⟩ := Cond.arrayClass_spec (htb 273 (.arrayClass .long) (by decide +kernel))
        exact ⟨cB, fun _ _ => ⟨fun n z => ⟨fun k h => (by cases h), kB, h2, comp, h3⟩, h1⟩⟩
      · obtain ⟨cB, kB, comp, h1, h2, h3⟩ := Cond.arrayClass_spec (htb 75 (.arrayClass .byte) (by decide +kernel))
        exact ⟨cB, fun _ _ => ⟨fun n z => ⟨fun k h => (by cases h), kB, h2, comp, h3⟩, h1⟩⟩
      · obtain ⟨cB, kB, comp, h1, h2, h3⟩ := Cond.arrayClass_spec (htb 312 (.arrayClass .boolean) (by decide +kernel))
        exact ⟨cB, fun _ _ => ⟨fun n z => ⟨fun k h => (by cases h), kB, h2, comp, h3⟩, h1⟩⟩
      · obtain ⟨comp, cB, kB, h1, -, h2, h3, h4⟩ := Cond.arrayOver_spec (htb 254 (.arrayOver (.object "HookOver$Tray")) (by decide +kernel))
        exact ⟨cB, fun _ _ => ⟨fun n z => ⟨fun k h => (by cases h), kB, h2, comp, h3⟩, kB, comp, h2, h3, h1, h4⟩⟩
      · obtain ⟨comp, cB, kB, h1, -, h2, h3, h4⟩ := Cond.arrayOver_spec (htb 274 (.arrayOver (.object "HookOver$Window")) (by decide +kernel))
        exact ⟨cB, fun _ _ => ⟨fun n z => ⟨fun k h => (by cases h), kB, h2, comp, h3⟩, kB, comp, h2, h3, h1, h4⟩⟩
      · obtain ⟨comp, cB, kB, h1, -, h2, h3, h4⟩ := Cond.arrayOver_spec (htb 275 (.arrayOver (.object "HookOver$Hanging")) (by decide +kernel))
        exact ⟨cB, fun _ _ => ⟨fun n z => ⟨fun k h => (by cases h), kB, h2, comp, h3⟩, kB, comp, h2, h3, h1, h4⟩⟩
    · exact ⟨0, fun h1 h2 => absurd ⟨h1, h2⟩ hk⟩
  obtain ⟨cA, hcA⟩ := Classical.axiomOfChoice hca
  obtain ⟨ad, hadE⟩ : ∃ ad : Nat → Nat, ad = fun i => if i = 1 then b else if i = 2 then adK 0 else if i = 3 then adK 1 else if i = 4 then adK 2 else s.heap.size + (i - 6) := ⟨_, rfl⟩
  have a1 : ad 1 = b := by rw [hadE]; rfl
  have aK : ∀ i, i < 3 → ad (i + 2) = adK i := by
    intro i hi
    have : i = 0 ∨ i = 1 ∨ i = 2 := by omega
    rcases this with rfl | rfl | rfl <;> (rw [hadE]; rfl)
  have a6 : ∀ i, 6 ≤ i → ad i = s.heap.size + (i - 6) := fun i hi => by
    rw [hadE]
    show (if i = 1 then b else if i = 2 then adK 0 else if i = 3 then adK 1 else if i = 4 then adK 2 else s.heap.size + (i - 6)) = _
    rw [if_neg (by omega), if_neg (by omega), if_neg (by omega), if_neg (by omega)]
  have hst : Stt s.heap.size L xs ad cA (fun ci => (fD ci).1, fun ci => (fD ci).2) 6 s := by
    refine ⟨a6, Nat.le_refl 6, by omega, ⟨fun ci q hq => ?_, fun k q hq => by simp at hq⟩, hcA, ⟨va_AO.of (htb 254 _ (by decide +kernel)), va_AO.of (htb 274 _ (by decide +kernel)), va_AO.of (htb 275 _ (by decide +kernel))⟩, ⟨va_Nw.of rfl (htb 935 (.methodLinkNest "HookOver$Joinings" 60 yRow "HookOver") (by decide +kernel)), va_Nw.of rfl (htb 1162 (.methodLinkNest "HookOver$Watcher" 78 yRow "HookOver") (by decide +kernel))⟩, ⟨by rw [a1]; exact hX, by rw [a1]; exact hbl⟩, ⟨⟨adV, fun i hi => by have e := aK i hi; simp only [e]; exact hvk.1 i hi, fun i j hi hj hij => hvk.2 i j hi hj (by rw [← aK i hi, ← aK j hj]; exact hij)⟩, va_Zof (htb 465 (.laysStatic "java/lang/String" "COMPACT_STRINGS" "Z") (by decide +kernel)) (htb 15 (.initialized "java/lang/String") (by decide +kernel)) (va_eqt (hfl _ st_cs)) (fun a ha h => by have h' : s.heap.size ≤ a := h; omega), va_Zqof (htb 504 (.laysStatic "jdk/internal/util/Preconditions" "SIOOBE_FORMATTER" "Ljava/util/function/BiFunction;") (by decide +kernel)) (htb 18 (.initialized "jdk/internal/util/Preconditions") (by decide +kernel)) (hfl _ st_sf) (fun a ha h => by have h' : s.heap.size ≤ a := h; omega)⟩, ?_, ?_, ?_, ?_⟩
    · have hci : ci < 12 := (List.getElem?_eq_some_iff.mp hq).1
      rw [cl_at ci hci] at hq
      cases hq
      exact hfD ci hci
    · exact vk_R.of (htb 542 (.stringRef "HookOver$Tokens" 67 T2) (by decide +kernel)) (by rw [aK 0 (by omega)]; exact had 0 (by omega))
    · exact vk_R.of (htb 451 (.stringRef "HookOver$Tokens" 59 T3) (by decide +kernel)) (by rw [aK 1 (by omega)]; exact had 1 (by omega))
    · exact vk_R.of (htb 1390 (.stringRef "HookOverModel" 80 T4) (by decide +kernel)) (by rw [aK 2 (by omega)]; exact had 2 (by omega))
    · exact vk_R.of (htb 1396 (.stringRef "HookOverModel" 118 T3) (by decide +kernel)) (by rw [aK 1 (by omega)]; exact va_eqR (hfl _ st_eq) (had 1 (by omega)))
  have hA : Act p room_1 s m #[Value.ref b] meth c s.heap.size L xs ad cA (fun ci => (fD ci).1, fun ci => (fD ci).2) 305 6 200 :=
    ⟨by omega, hx, hb, hr, hml, hown, htsT, hlocks, (fun q => absurd q (by decide +kernel)), hst, (show 200 + 20 ≤ 2048 by omega), (show 60 * (200 + 1) + 1000 ≤ 84000 by omega)⟩
  obtain ⟨h', hE, hc1, hc2⟩ := hPure L xs hL
  obtain ⟨n, hn⟩ := EX_to hE
  have hRet : RetW p l e room_1 s m #[Value.ref b] below meth c (lw_Z below #[Value.ref b] s) s.heap.size L xs ad cA (fun ci => (fD ci).1, fun ci => (fD ci).2) 305 6 (slt (h0 L xs)) (.inl 1, h') := by
    intro lsv H locs cells slots pc hR1 hS1 hc hs
    refine ⟨fun z hz hd hrr => ?_, (fun z hz => by cases hz), (fun hd hrr => absurd hrr (by decide +kernel))⟩
    cases hz
    refine va_forget (fun q hq => hS1.2.2 q hq) ?_
    refine W.widen (k := 600000) (n := 7302250) (by dsimp only at hc; omega) (by dsimp only at hs; omega) ?_
    exact lw_ret hx hb hr hlocks hd
  have hW := sim hchk (hStr l s.heap.size L xs ad cA (fun ci => (fD ci).1, fun ci => (fD ci).2)) n p e room_1 s m #[Value.ref b] below meth c (lw_Z below #[Value.ref b] s) 305 6 (slt (h0 L xs)) 200 0 [(0, .inr (.inr 1))] [] (h0 L xs) (.inl 1, h') hn hA ⟨hc1, hc2⟩ hRet
  have hl := lv_entry ([.ref b]) (n := 4) (Nat.le_of_ble_eq_true rfl)
  have hl2 : lv_has ((lg_sl ([.ref b]) ++ List.replicate (4 - (lg_sl ([.ref b])).length) Slot.unset).toArray) (mX 305) (([(0, .inr (.inr 1))] : AL).map (rl ad)) := by
    have : ([(0, .inr (.inr 1))] : AL).map (rl ad) = lv_args 0 [Value.ref b] := by
      show [(0, rvR ad 1)] = [(0, Value.ref b)]
      rw [rvR_pos (by omega), a1]
    rw [this]
    exact hl
  have hW2 := hW _ s.heap [] 0 0 ⟨fun k q hq => by
      obtain ⟨hk, -⟩ := wsH_get hq
      have hk2 : k + 6 < 6 := hk
      omega, h0_low L xs, fun i h1 h2 => by simp [h0] at h2; omega⟩ va_S.rf hl2 rfl (by omega)
  rw [lg_entry_eq]
  exact hW2
