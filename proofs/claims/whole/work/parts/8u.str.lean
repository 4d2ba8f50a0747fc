/-! THE STRINGS' OWN METHODS, walked over the three texts: StrRow -/
theorem tx_len : ∀ j, j < 3 → txLen.getD j 0 = (txL.getD j []).length := by decide +kernel
theorem tx_small : ∀ j, j < 3 → 0 < txLen.getD j 0 ∧ txLen.getD j 0 < 100 := by decide +kernel
theorem tx_b : ∀ j, j < 3 → ∀ i, i < txLen.getD j 0 → ((txB.getD j []).getD i 0 &&& 255 = nI ((txL.getD j []).getD i 0).toNat ∧ ((txL.getD j []).getD i 0).toNat < 256 ∧ 0 ≤ (txL.getD j []).getD i 0 ∧ ((txB.getD j []).getD i 0).toInt8.toInt32 = (txB.getD j []).getD i 0) := by decide +kernel
theorem tx_ch {j i : Nat} (hj : j < 3) (hi : i < txLen.getD j 0) : (txB.getD j []).getD i 0 &&& 255 = Int32.ofInt ((txL.getD j []).getD i 0) := by
  obtain ⟨h1, h2, h3, h4⟩ := tx_b j hj i hi
  rw [h1]
  show Int32.ofNat _ = _
  rw [← Int32.ofInt_eq_ofNat, Int.toNat_of_nonneg h3]
theorem tx_eq {j i q : Nat} (hj : j < 3) (hi : i < txLen.getD j 0) (hq : q < 256) : (txB.getD j []).getD i 0 = (nI q).toInt8.toInt32 ↔ (txL.getD j []).getD i 0 = (q : Int) := by
  obtain ⟨h1, h2, h3, h4⟩ := tx_b j hj i hi
  rw [sc_eq h4 hq, h1, nI_eq (by omega) (by omega)]
  omega
def SJ (bs : Nat) (ad adV : Nat → Nat) (s : State) : Prop := vk_S 3 txLen txB (fun j => ad (j + 2)) adV (A0 bs) s s.heap ∧ va_Z "java/lang/String" "COMPACT_STRINGS" "Z" (.int 1) (A0 bs) s s.heap ∧ va_Zq "jdk/internal/util/Preconditions" "SIOOBE_FORMATTER" "Ljava/util/function/BiFunction;" (A0 bs) s s.heap
theorem SJ.to {bs : Nat} {ad adV : Nat → Nat} {s U : State} {H : Heap} {locs : List Loc} (h : SJ bs ad adV s) (hS : va_S (A0 bs) s.heap H locs) (hU : U.heap = H) (hW : s.WarmedH U.vm) : SJ bs ad adV U := by
  have hal := hW.alike
  obtain ⟨a, b, c⟩ := h
  refine ⟨?_, ?_, ?_⟩
  · rw [hU]; exact vk_S.moved hal (a.kept hS.2.1)
  · rw [hU]; exact va_Z.moved hal (b.kept hS.2.1)
  · rw [hU]; exact va_Zq.moved hal (c.kept hS.2.1)
theorem SJ.call {bs : Nat} {ad adV : Nat → Nat} {U : State} {g : JFrame} {mk : MethodId} {a : Array Value} (h : SJ bs ad adV U) : SJ bs ad adV (U.calling g mk a) := by
  have hal : U.vm.Alike (U.calling g mk a).vm := Vm.Alike.refl U.vm
  exact ⟨vk_S.moved hal h.1, va_Z.moved hal h.2.1, va_Zq.moved hal h.2.2⟩
theorem SJ.blind {bs : Nat} {ad adV : Nat → Nat} {as : List Value} : FrameBlind (va_Pc as (SJ bs ad adV)) := fun _ _ _ _ q => ⟨q.1, q.2.call⟩
/-- a contract: the method answers v, and the heap stands as it was -/
def MtJ (l : Launch) (bs : Nat) (ad adV : Nat → Nat) (fr lo : Nat) (y : MethodName) (bc : ByteArray) (maxL : Nat) (ret : Option FieldType) (as : List Value) (v : Option Value) : Prop :=
  Met l y (Jvm.Cond.code y bc maxL ret :: TBL) { frames := fr, cells := 0, slots := 0, locals := lo } (va_Pc as (SJ bs ad adV)) (fun _ st oc t => oc = .returned v ∧ t.heap = st.heap) 0 0 (fun _ => False)
def JX (p : Program) (s : State) (m : MethodId) (args : Array Value) (c : Code) (bs : Nat) (ad adV : Nat → Nat) (own : String) (bc : ByteArray) (nL : Nat) : Prop := CallFix p m c bc nL s args TBL own ∧ SJ bs ad adV s
def WJ (p : Program) (l : Launch) (e : Env) (fr lo : Nat) (s : State) (m : MethodId) (args : Array Value) (below : List Frame) (meth : Method) (c : Code) (Q : State → Prop) (pc : Nat) (lsv : Array Slot) (st : List Value) : Prop :=
  W p l e { frames := fr, cells := 0, slots := 0, locals := lo } s m args below meth c s.heap [] 0 0 Q (F0 m pc lsv st)
def Wk (l : Launch) (bs : Nat) (ad adV : Nat → Nat) (fr lo : Nat) (own : String) (bc : ByteArray) (nL : Nat) (as : List Value) (z : Int32) : Prop :=
  ∀ (p : Program) (e : Env) (s : State) (m : MethodId) (below : List Frame) (meth : Method) (c : Code) (Q : State → Prop) (lsv : Array Slot), JX p s m as.toArray c bs ad adV own bc nL → lv_has lsv nL (lv_args 0 as) →
    (∀ (ls : Array Slot) (pc : Nat), decode bc pc = .ok (.ireturn, 1) → WJ p l e fr lo s m as.toArray below meth c Q pc ls [.int z]) → WJ p l e fr lo s m as.toArray below meth c Q 0 lsv []
theorem MtJ.mk {l : Launch} {bs : Nat} {ad adV : Nat → Nat} {fr lo : Nat} {y : MethodName} {bc : ByteArray} {maxL : Nat} {ty : FieldType} {as : List Value} {z : Int32} (hy : plainName y.cls = true) (hlen : (lg_sl as).length ≤ maxL) (hn : narrow ty (.int z) = .int z) (hk : Wk l bs ad adV fr lo y.cls bc maxL as z) : MtJ l bs ad adV fr lo y bc maxL (some ty) as (some (.int z)) := by
  unfold MtJ
  refine Met.ofW (cc := bc) (maxL := maxL) (ret := some ty) hy rfl ?_
  intro p e s m args below meth c s₁ B hml hP
  obtain ⟨rfl, hSJ⟩ := hP
  have hts : ∀ w ∈ TBL, w.before as.toArray s = true := fun w hw => atoms_spec (ws := Jvm.Cond.code y bc maxL (some ty) :: TBL) B.pre w (List.mem_cons_of_mem _ hw)
  have hown : s.vm.findClass y.cls = some m.cls := findClass_of_methodNamed B.named
  rw [lg_entry_eq]
  exact hk p e s m below meth c _ _ ⟨⟨B.exec, B.bytes, hml, hown, hts⟩, hSJ⟩ (lv_entry as hlen) (fun ls pc hd => W.zret (ty := ty) B.exec B.bytes B.returns hn (fun t ht _ => ⟨rfl, ht⟩) (fun q hq => by cases hq) hd)
section JDK
variable {p : Program} {l : Launch} {e : Env} {R : Room} {s : State} {m : MethodId} {args : Array Value} {below : List Frame} {meth : Method} {c : Code} {Q : State → Prop} {H : Heap} {locs : List Loc} {cells slots pc : Nat} {lsv : Array Slot} {rest : List Value}
variable {bs : Nat} {ad adV : Nat → Nat} {own : String} {bc yc : ByteArray} {nL maxL index fr lo j : Nat} {y : MethodName} {ret : Option FieldType} {As : List Value}
theorem jd_call {v : Option Value} {st0 : List Value}
    (hr : va_Run p l e R s m args below meth c H locs cells slots 0 0 (F0 m pc lsv st0) rest (fun st oc t => oc = .returned v ∧ t.heap = st.heap) (fun _ => False))
    (k : W p l e R s m args below meth c H locs cells slots Q (F0 m (pc + 3) lsv (v.toList ++ rest))) : W p l e R s m args below meth c H locs cells slots Q (F0 m pc lsv st0) := by
  intro T hT X
  obtain ⟨v', st₀, t, T', L', h0, X', hL, e1, e2, ⟨hv, hh⟩, st⟩ := hr T hT X
  have hv := Outcome.returned.inj hv
  subst hv
  have hn : L' = [] := by
    cases L' with
    | nil => rfl
    | cons q r => exact (hL q List.mem_cons_self).elim
  subst hn
  rw [List.append_nil] at X'
  obtain ⟨t2, a1, b1⟩ := k T' (by rw [e1, hh, h0]) X'
  exact ⟨t2, st t2 a1, b1⟩
theorem good_j (hw : Jvm.Cond.code y yc maxL ret ∈ TBL) : GoodIn TBL (Jvm.Cond.code y yc maxL ret :: TBL) := fun w h => (List.mem_cons.mp h).elim (fun e => e ▸ TBL_good _ hw) (TBL_good w)
theorem jcV {v : Value} (hJ : JX p s m args c bs ad adV own bc nL) (hS : va_S (A0 bs) s.heap H locs) (hj : j < 3) (hM : MtJ l bs ad adV fr lo y yc maxL ret (.ref (ad (j + 2)) :: As) (some v)) (n : Nat) (hn : As.length = n) (hsz : lsv.size = nL) (hcl : y.cls = "java/lang/String")
    (hco : Jvm.Cond.code y yc maxL ret ∈ TBL) (hlk : Jvm.Cond.methodLink own index y ∈ TBL) (hins : Jvm.Cond.instanceMethod y ∈ TBL) (hsel : Jvm.Cond.selects "java/lang/String" y y ∈ TBL) (hd : (parseMethodDescriptor y.desc).map (fun d => d.parameters.length) = some n)
    (hR : fr + 1 ≤ R.frames ∧ 8 + (maxL + 11) + lo ≤ R.locals) (hcat : (rest.map fun v => v.category).sum ≤ 8) (hc : cells ≤ R.cells) (hs : slots ≤ R.slots) (hdg : decode bc pc = .ok (.invokevirtual index, 3))
    (k : W p l e R s m args below meth c H locs cells slots Q (F0 m (pc + 3) lsv (v :: rest))) : W p l e R s m args below meth c H locs cells slots Q (F0 m pc lsv (As.reverse ++ .ref (ad (j + 2)) :: rest)) := by
  obtain ⟨hX, hSJ⟩ := hJ
  have hts := hX.2.2.2.2
  exact jd_call (v := some v) (va_runV hX hM ⟨callB_of n hts (good_j hco) rfl rfl rfl (by rw [hcl]; exact hts _ jw_15) (hts _ hlk) ⟨by rw [hcl]; decide, by rw [hcl]; decide, hd⟩ hR, hts _ hins, hts _ hsel⟩ ⟨SJ.blind, vk_recv hSJ.1 hj hS, fun U hU hW => ⟨rfl, hSJ.to hS hU hW⟩⟩ rfl hn hsz rfl (lv_room hcat) hdg ⟨hc, hs⟩) k
theorem jcS {v : Option Value} (hJ : JX p s m args c bs ad adV own bc nL) (hS : va_S (A0 bs) s.heap H locs) (hM : MtJ l bs ad adV fr lo y yc maxL ret As v) (n : Nat) (hn : As.length = n) (hsz : lsv.size = nL)
    (hco : Jvm.Cond.code y yc maxL ret ∈ TBL) (hini : Jvm.Cond.initialized y.cls ∈ TBL) (hlk : Jvm.Cond.methodLink own index y ∈ TBL) (hst : Jvm.Cond.static y ∈ TBL) (hd : y.cls ≠ "java/lang/invoke/MethodHandle" ∧ y.cls ≠ "java/lang/invoke/VarHandle" ∧ (parseMethodDescriptor y.desc).map (fun d => d.parameters.length) = some n)
    (hR : fr + 1 ≤ R.frames ∧ 8 + (maxL + 11) + lo ≤ R.locals) (hcat : (rest.map fun v => v.category).sum ≤ 8) (hc : cells ≤ R.cells) (hs : slots ≤ R.slots) (hdg : decode bc pc = .ok (.invokestatic index, 3))
    (k : W p l e R s m args below meth c H locs cells slots Q (F0 m (pc + 3) lsv (v.toList ++ rest))) : W p l e R s m args below meth c H locs cells slots Q (F0 m pc lsv (As.reverse ++ rest)) := by
  obtain ⟨hX, hSJ⟩ := hJ
  have hts := hX.2.2.2.2
  exact jd_call (v := v) (va_runS hX hM ⟨callB_of n hts (good_j hco) rfl rfl rfl (hts _ hini) (hts _ hlk) hd hR, hts _ hst⟩ ⟨SJ.blind, fun U hU hW => ⟨rfl, hSJ.to hS hU hW⟩⟩ rfl hn hsz rfl (lv_room hcat) hdg ⟨hc, hs⟩) k
end JDK
section JDKW
variable {l : Launch} {bs : Nat} {ad adV : Nat → Nat} {j : Nat}
theorem wk_cod (hj : j < 3) : Wk l bs ad adV 2 100 "java/lang/String" cJ0_coder_7d493 1 [.ref (ad (j + 2))] 0 := by
  intro p e s m below meth c Q lsv ⟨⟨hx, hb, hml, ho, hts⟩, hvk, hz, hq⟩ hl hr
  unfold WJ at hr ⊢
  refine va_gets hx hb hz va_S.rf ho (hts _ jw_464) (fun _ h => h) dJ0_coder_7d493_0 ?_
  refine lv_if_eq hx hb dJ0_coder_7d493_3 (tgt := 13) rfl (fun h => absurd h (by decide)) (fun _ => ?_)
  refine lv_aload_n hx hb dJ0_coder_7d493_6 rfl (lv_at hl 0 rfl) ?_
  refine vk_getf hx hb (hvk.1 j hj).2.1 va_S.rf ho (hts _ jw_1849) (fun _ h => h) dJ0_coder_7d493_7 ?_
  refine lv_goto hx hb dJ0_coder_7d493_10 (tgt := 14) rfl ?_
  exact hr _ _ dJ0_coder_7d493_14
theorem mt_cod (hj : j < 3) : MtJ l bs ad adV 2 100 yjCod cJ0_coder_7d493 1 (some .byte) [.ref (ad (j + 2))] (some (.int 0)) :=
  MtJ.mk (by decide +kernel) (Nat.le_of_ble_eq_true rfl) (by decide +kernel) (wk_cod hj)
theorem wk_lat (hj : j < 3) : Wk l bs ad adV 2 100 "java/lang/String" cJ0_isLatin1_aae02 1 [.ref (ad (j + 2))] 1 := by
  intro p e s m below meth c Q lsv ⟨⟨hx, hb, hml, ho, hts⟩, hvk, hz, hq⟩ hl hr
  unfold WJ at hr ⊢
  refine va_gets hx hb hz va_S.rf ho (hts _ jw_464) (fun _ h => h) dJ0_isLatin1_aae02_0 ?_
  refine lv_if_eq hx hb dJ0_isLatin1_aae02_3 (tgt := 17) rfl (fun h => absurd h (by decide)) (fun _ => ?_)
  refine lv_aload_n hx hb dJ0_isLatin1_aae02_6 rfl (lv_at hl 0 rfl) ?_
  refine vk_getf hx hb (hvk.1 j hj).2.1 va_S.rf ho (hts _ jw_1849) (fun _ h => h) dJ0_isLatin1_aae02_7 ?_
  refine lv_if_ne hx hb dJ0_isLatin1_aae02_10 (tgt := 17) rfl (fun h => absurd rfl h) (fun _ => ?_)
  refine lv_iconst hx hb dJ0_isLatin1_aae02_13 (v := 1) (by decide) ?_
  refine lv_goto hx hb dJ0_isLatin1_aae02_14 (tgt := 18) rfl ?_
  exact hr _ _ dJ0_isLatin1_aae02_18
theorem mt_lat (hj : j < 3) : MtJ l bs ad adV 2 100 yjLat cJ0_isLatin1_aae02 1 (some .boolean) [.ref (ad (j + 2))] (some (.int 1)) :=
  MtJ.mk (by decide +kernel) (Nat.le_of_ble_eq_true rfl) (by decide +kernel) (wk_lat hj)
theorem wk_len (hj : j < 3) : Wk l bs ad adV 4 200 "java/lang/String" cJ0_length_8abf5 1 [.ref (ad (j + 2))] (nI (txLen.getD j 0)) := by
  intro p e s m below meth c Q lsv hJ hl hr
  obtain ⟨⟨hx, hb, hml, ho, hts⟩, hvk, hz, hq⟩ := id hJ
  unfold WJ at hr ⊢
  have hsm := tx_small j hj
  refine lv_aload_n hx hb dJ0_length_8abf5_0 rfl (lv_at hl 0 rfl) ?_
  refine vk_getf hx hb (hvk.1 j hj).2.2.1 va_S.rf ho (hts _ jw_1850) (fun _ h => h) dJ0_length_8abf5_1 ?_
  refine va_tlen hx hb (hvk.1 j hj).2.2.2 va_S.rf rfl dJ0_length_8abf5_4 ?_
  refine lv_aload_n hx hb dJ0_length_8abf5_5 rfl (lv_at hl 0 rfl) ?_
  refine jcV (As := []) hJ va_S.rf hj (mt_cod hj) 0 rfl hl.1 rfl jw_473 jw_470 jw_471 jw_472 (by decide +kernel) ⟨by decide, by decide⟩ (Nat.le_of_ble_eq_true rfl) (Nat.le_refl _) (Nat.le_refl _) dJ0_length_8abf5_6 ?_
  refine lv_ishr hx hb dJ0_length_8abf5_9 ?_
  rw [show Int32.ofNat (txLen.getD j 0) >>> ((0 : Int32) &&& 31) = nI (txLen.getD j 0) from sc_shr0 (by omega)]
  exact hr _ _ dJ0_length_8abf5_10
theorem mt_len (hj : j < 3) : MtJ l bs ad adV 4 200 yjLen cJ0_length_8abf5 1 (some .int) [.ref (ad (j + 2))] (some (.int (nI (txLen.getD j 0)))) :=
  MtJ.mk (by decide +kernel) (Nat.le_of_ble_eq_true rfl) rfl (wk_len hj)
theorem wk_pre {k n : Nat} {fv : Value} (hk : k < n) (hn : n < 100) : Wk l bs ad adV 2 100 "jdk/internal/util/Preconditions" cJ3_checkIndex_8e157 3 [.int (nI k), .int (nI n), fv] (nI k) := by
  intro p e s m below meth c Q lsv ⟨⟨hx, hb, hml, ho, hts⟩, hvk, hz, hq⟩ hl hr
  unfold WJ at hr ⊢
  refine lv_iload_n hx hb dJ3_checkIndex_8e157_0 rfl (lv_at hl 0 rfl) ?_
  refine lv_if_lt hx hb dJ3_checkIndex_8e157_1 (tgt := 9) rfl (fun h => absurd h (nI_pos (by omega))) (fun _ => ?_)
  refine lv_iload_n hx hb dJ3_checkIndex_8e157_4 rfl (lv_at hl 0 rfl) ?_
  refine lv_iload_n hx hb dJ3_checkIndex_8e157_5 rfl (lv_at hl 1 rfl) ?_
  refine lv_icmp_lt hx hb dJ3_checkIndex_8e157_6 (tgt := 16) rfl (fun _ => ?_) (fun h => absurd (nI_lt hk (by omega)) h)
  refine lv_iload_n hx hb dJ3_checkIndex_8e157_16 rfl (lv_at hl 0 rfl) ?_
  exact hr _ _ dJ3_checkIndex_8e157_17
theorem mt_pre {k n : Nat} {fv : Value} (hk : k < n) (hn : n < 100) (hfv : fv = .null ∨ ∃ t, fv = .ref t) : MtJ l bs ad adV 2 100 yjPre cJ3_checkIndex_8e157 3 (some .int) [.int (nI k), .int (nI n), fv] (some (.int (nI k))) :=
  MtJ.mk (by decide +kernel) (by rcases hfv with rfl | ⟨t, rfl⟩ <;> exact Nat.le_of_ble_eq_true rfl) rfl (wk_pre hk hn)
theorem mt_chk {k n : Nat} (hk : k < n) (hn : n < 100) : MtJ l bs ad adV 4 200 yjChk cJ0_checkIndex_df160 2 none [.int (nI k), .int (nI n)] none := by
  unfold MtJ
  refine Met.ofW (cc := cJ0_checkIndex_df160) (maxL := 2) (ret := none) (by decide +kernel) rfl ?_
  intro p e s m args below meth c s₁ B hml hP
  obtain ⟨rfl, hSJ⟩ := hP
  have hts : ∀ w ∈ TBL, w.before ([.int (nI k), .int (nI n)] : List Value).toArray s = true := fun w hw => atoms_spec (ws := Jvm.Cond.code yjChk cJ0_checkIndex_df160 2 none :: TBL) B.pre w (List.mem_cons_of_mem _ hw)
  have ho : s.vm.findClass "java/lang/String" = some m.cls := findClass_of_methodNamed B.named
  have hx := B.exec
  have hb := B.bytes
  have hJ : JX p s m ([.int (nI k), .int (nI n)] : List Value).toArray c bs ad adV "java/lang/String" cJ0_checkIndex_df160 2 := ⟨⟨hx, hb, hml, ho, hts⟩, hSJ⟩
  have hl := lv_entry ([.int (nI k), .int (nI n)] : List Value) (n := 2) (Nat.le_of_ble_eq_true rfl)
  rw [lg_entry_eq]
  generalize ((lg_sl ([.int (nI k), .int (nI n)] : List Value) ++ List.replicate (2 - (lg_sl ([.int (nI k), .int (nI n)] : List Value)).length) Slot.unset).toArray) = lsv at hl ⊢
  obtain ⟨fv, hfv, hq⟩ : ∃ fv : Value, (fv = .null ∨ ∃ t, fv = .ref t) ∧ va_Z "jdk/internal/util/Preconditions" "SIOOBE_FORMATTER" "Ljava/util/function/BiFunction;" fv (A0 bs) s s.heap := by
    rcases hSJ.2.2 with h | ⟨t, h⟩
    · exact ⟨_, Or.inl rfl, h⟩
    · exact ⟨_, Or.inr ⟨t, rfl⟩, h⟩
  refine lv_iload_n hx hb dJ0_checkIndex_df160_0 rfl (lv_at hl 0 rfl) ?_
  refine lv_iload_n hx hb dJ0_checkIndex_df160_1 rfl (lv_at hl 1 rfl) ?_
  refine va_gets hx hb hq va_S.rf ho (hts _ jw_503) (fun _ h => h) dJ0_checkIndex_df160_2 ?_
  refine jcS (As := [.int (nI k), .int (nI n), fv]) (rest := []) hJ va_S.rf (mt_pre hk hn hfv) 3 rfl hl.1 jw_556 jw_18 jw_554 jw_555 ⟨by decide, by decide, by decide +kernel⟩ ⟨by decide, by decide⟩ (by decide) (Nat.le_refl _) (Nat.le_refl _) dJ0_checkIndex_df160_5 ?_
  refine lv_pop hx hb dJ0_checkIndex_df160_8 rfl ?_
  exact W.vret B.exec B.bytes B.returns (fun t ht _ => ⟨rfl, ht⟩) (fun q hq => by cases hq) dJ0_checkIndex_df160_9
theorem wk_lch {k : Nat} (hj : j < 3) (hk : k < txLen.getD j 0) : Wk l bs ad adV 6 300 "java/lang/StringLatin1" cJ1_charAt_3b067 2 [.ref (adV j), .int (nI k)] ((txB.getD j []).getD k 0 &&& 255) := by
  intro p e s m below meth c Q lsv hJ hl hr
  obtain ⟨⟨hx, hb, hml, ho, hts⟩, hvk, hz, hq⟩ := id hJ
  unfold WJ at hr ⊢
  have hsm := tx_small j hj
  refine lv_iload_n hx hb dJ1_charAt_3b067_0 rfl (lv_at hl 1 rfl) ?_
  refine lv_aload_n hx hb dJ1_charAt_3b067_1 rfl (lv_at hl 0 rfl) ?_
  refine va_tlen hx hb (hvk.1 j hj).2.2.2 va_S.rf rfl dJ1_charAt_3b067_2 ?_
  refine jcS (As := [.int (nI k), .int (nI (txLen.getD j 0))]) (rest := []) hJ va_S.rf (mt_chk hk (by omega)) 2 rfl hl.1 jw_553 jw_15 jw_551 jw_552 ⟨by decide, by decide, by decide +kernel⟩ ⟨by decide, by decide⟩ (by decide) (Nat.le_refl _) (Nat.le_refl _) dJ1_charAt_3b067_3 ?_
  refine lv_aload_n hx hb dJ1_charAt_3b067_6 rfl (lv_at hl 0 rfl) ?_
  refine lv_iload_n hx hb dJ1_charAt_3b067_7 rfl (lv_at hl 1 rfl) ?_
  refine va_tb hx hb (hvk.1 j hj).2.2.2 va_S.rf (vp_in_nI hk (by omega)) (v := .int ((txB.getD j []).getD k 0)) (by rw [nI_clamp (by omega)]) dJ1_charAt_3b067_8 ?_
  refine lv_sipush hx hb dJ1_charAt_3b067_9 (v := 255) (by decide) ?_
  refine lv_iand hx hb dJ1_charAt_3b067_12 ?_
  refine lv_i2c hx hb dJ1_charAt_3b067_13 (sc_c2 _) ?_
  exact hr _ _ dJ1_charAt_3b067_14
theorem mt_lch {k : Nat} (hj : j < 3) (hk : k < txLen.getD j 0) : MtJ l bs ad adV 6 300 yjLch cJ1_charAt_3b067 2 (some .char) [.ref (adV j), .int (nI k)] (some (.int ((txB.getD j []).getD k 0 &&& 255))) :=
  MtJ.mk (by decide +kernel) (Nat.le_of_ble_eq_true rfl) (sc_nar _) (wk_lch hj hk)
theorem wk_cha {k : Nat} (hj : j < 3) (hk : k < txLen.getD j 0) : Wk l bs ad adV 8 400 "java/lang/String" cJ0_charAt_5068e 2 [.ref (ad (j + 2)), .int (nI k)] ((txB.getD j []).getD k 0 &&& 255) := by
  intro p e s m below meth c Q lsv hJ hl hr
  obtain ⟨⟨hx, hb, hml, ho, hts⟩, hvk, hz, hq⟩ := id hJ
  unfold WJ at hr ⊢
  refine lv_aload_n hx hb dJ0_charAt_5068e_0 rfl (lv_at hl 0 rfl) ?_
  refine jcV (As := []) hJ va_S.rf hj (mt_lat hj) 0 rfl hl.1 rfl jw_463 jw_460 jw_461 jw_462 (by decide +kernel) ⟨by decide, by decide⟩ (by decide) (Nat.le_refl _) (Nat.le_refl _) dJ0_charAt_5068e_1 ?_
  refine lv_if_eq hx hb dJ0_charAt_5068e_4 (tgt := 16) rfl (fun h => absurd h (by decide)) (fun _ => ?_)
  refine lv_aload_n hx hb dJ0_charAt_5068e_7 rfl (lv_at hl 0 rfl) ?_
  refine vk_getf hx hb (hvk.1 j hj).2.2.1 va_S.rf ho (hts _ jw_1850) (fun _ h => h) dJ0_charAt_5068e_8 ?_
  refine lv_iload_n hx hb dJ0_charAt_5068e_11 rfl (lv_at hl 1 rfl) ?_
  refine jcS (As := [.ref (adV j), .int (nI k)]) (rest := []) hJ va_S.rf (mt_lch hj hk) 2 rfl hl.1 jw_550 jw_16 jw_548 jw_549 ⟨by decide, by decide, by decide +kernel⟩ ⟨by decide, by decide⟩ (by decide) (Nat.le_refl _) (Nat.le_refl _) dJ0_charAt_5068e_12 ?_
  exact hr _ _ dJ0_charAt_5068e_15
theorem mt_cha {k : Nat} (hj : j < 3) (hk : k < txLen.getD j 0) : MtJ l bs ad adV 8 400 yjCha cJ0_charAt_5068e 2 (some .char) [.ref (ad (j + 2)), .int (nI k)] (some (.int ((txB.getD j []).getD k 0 &&& 255))) :=
  MtJ.mk (by decide +kernel) (Nat.le_of_ble_eq_true rfl) (sc_nar _) (wk_cha hj hk)
theorem wk_enc {q : Nat} (hq : q < 256) : Wk l bs ad adV 2 100 "java/lang/StringLatin1" cJ1_canEncode_9a6ad 1 [.int (nI q)] 1 := by
  intro p e s m below meth c Q lsv ⟨⟨hx, hb, hml, ho, hts⟩, hvk, hz, _⟩ hl hr
  unfold WJ at hr ⊢
  refine lv_iload_n hx hb dJ1_canEncode_9a6ad_0 rfl (lv_at hl 0 rfl) ?_
  refine lv_if_lt hx hb dJ1_canEncode_9a6ad_1 (tgt := 15) rfl (fun h => absurd h (nI_pos (by omega))) (fun _ => ?_)
  refine lv_iload_n hx hb dJ1_canEncode_9a6ad_4 rfl (lv_at hl 0 rfl) ?_
  refine lv_sipush hx hb dJ1_canEncode_9a6ad_5 (v := nI 255) (by decide) ?_
  refine lv_icmp_gt hx hb dJ1_canEncode_9a6ad_8 (tgt := 15) rfl (fun h => absurd h (nI_nlt (by omega) (by omega))) (fun _ => ?_)
  refine lv_iconst hx hb dJ1_canEncode_9a6ad_11 (v := 1) (by decide) ?_
  refine lv_goto hx hb dJ1_canEncode_9a6ad_12 (tgt := 16) rfl ?_
  exact hr _ _ dJ1_canEncode_9a6ad_16
theorem mt_enc {q : Nat} (hq : q < 256) : MtJ l bs ad adV 2 100 yjEnc cJ1_canEncode_9a6ad 1 (some .boolean) [.int (nI q)] (some (.int 1)) :=
  MtJ.mk (by decide +kernel) (Nat.le_of_ble_eq_true rfl) (by decide +kernel) (wk_enc hq)
theorem ic_loop {p : Program} {e : Env} {fr lo : Nat} {s : State} {m : MethodId} {args : Array Value} {below : List Frame} {meth : Method} {c : Code} {Q : State → Prop} {q : Nat} (hJ : JX p s m args c bs ad adV "java/lang/StringLatin1" cJ1_indexOfChar_4cfef 6) (hj : j < 3) (hq : q < 256)
    (hr : ∀ (ls : Array Slot) (pc : Nat), decode cJ1_indexOfChar_4cfef pc = .ok (.ireturn, 1) → WJ p l e fr lo s m args below meth c Q pc ls [.int (Int32.ofInt (sIxF q (txL.getD j []) 0))]) :
    ∀ (r : List Int) (i : Nat), (txL.getD j []).drop i = r → i ≤ txLen.getD j 0 → sIxF q (txL.getD j []) 0 = sIxF q r i → ∀ lsv : Array Slot, lv_has lsv 6 [(0, .ref (adV j)), (3, .int (nI (txLen.getD j 0))), (4, .int (nI q).toInt8.toInt32), (5, .int (nI i))] → WJ p l e fr lo s m args below meth c Q 7 lsv [] := by
  obtain ⟨⟨hx, hb, hml, ho, hts⟩, hvk, hz, -⟩ := id hJ
  have hsm := tx_small j hj
  have hln := tx_len j hj
  unfold WJ at hr ⊢
  intro r
  induction r with
  | nil =>
    intro i hd hi he lsv hl
    have hle := List.drop_eq_nil_iff.mp hd
    refine lv_iload hx hb dJ1_indexOfChar_4cfef_7 (lv_at hl 3 rfl) ?_
    refine lv_iload_n hx hb dJ1_indexOfChar_4cfef_9 rfl (lv_at hl 1 rfl) ?_
    refine lv_icmp_ge hx hb dJ1_indexOfChar_4cfef_10 (tgt := 31) rfl (fun _ => ?_) (fun h => absurd (nI_le (by omega) (by omega)) h)
    refine lv_iconst hx hb dJ1_indexOfChar_4cfef_31 (v := Int32.ofInt (-1)) rfl ?_
    have h := hr lsv 32 dJ1_indexOfChar_4cfef_32
    rw [he] at h
    exact h
  | cons b r ih =>
    intro i hd hi he lsv hl
    have hlt : i < (txL.getD j []).length := by
      refine Nat.lt_of_not_le fun h => ?_
      rw [List.drop_eq_nil_of_le h] at hd
      cases hd
    have hb1 : (txL.getD j []).getD i 0 = b := by
      rw [List.drop_eq_getElem_cons hlt] at hd
      rw [List.getD_eq_getElem?_getD, List.getElem?_eq_getElem hlt]
      exact (List.cons.inj hd).1
    have hd2 : (txL.getD j []).drop (i + 1) = r := by
      rw [List.drop_eq_getElem_cons hlt] at hd
      exact (List.cons.inj hd).2
    have hlt2 : i < txLen.getD j 0 := by omega
    refine lv_iload hx hb dJ1_indexOfChar_4cfef_7 (lv_at hl 3 rfl) ?_
    refine lv_iload_n hx hb dJ1_indexOfChar_4cfef_9 rfl (lv_at hl 1 rfl) ?_
    refine lv_icmp_ge hx hb dJ1_indexOfChar_4cfef_10 (tgt := 31) rfl (fun h => absurd h (nI_ge hlt2 (by omega))) (fun _ => ?_)
    refine lv_aload_n hx hb dJ1_indexOfChar_4cfef_13 rfl (lv_at hl 0 rfl) ?_
    refine lv_iload hx hb dJ1_indexOfChar_4cfef_14 (lv_at hl 3 rfl) ?_
    refine va_tb hx hb (hvk.1 j hj).2.2.2 va_S.rf (vp_in_nI hlt2 (by omega)) (v := .int ((txB.getD j []).getD i 0)) (by rw [nI_clamp (by omega)]) dJ1_indexOfChar_4cfef_16 ?_
    refine lv_iload hx hb dJ1_indexOfChar_4cfef_17 (lv_at hl 2 rfl) ?_
    refine lv_icmp_ne hx hb dJ1_indexOfChar_4cfef_19 (tgt := 25) rfl (fun h => ?_) (fun h => ?_)
    · have hne : ¬ b = (q : Int) := fun h2 => h ((tx_eq hj hlt2 hq).mpr (hb1.trans h2))
      refine lv_iinc hx hb dJ1_indexOfChar_4cfef_25 hl (k := 3) rfl (v := nI (i + 1)) (nI_succ i).symm (by decide) (lv' := [(5, .int (nI (i + 1))), (0, .ref (adV j)), (3, .int (nI (txLen.getD j 0))), (4, .int (nI q).toInt8.toInt32)]) rfl (fun ls' hl' => ?_)
      refine lv_goto hx hb dJ1_indexOfChar_4cfef_28 (tgt := 7) rfl ?_
      refine ih (i + 1) hd2 (by omega) ?_ ls' (lv_sub hl' [1, 2, 3, 0] rfl)
      rw [he, sIxF, if_neg hne]
    · have heq : b = (q : Int) := hb1.symm.trans ((tx_eq hj hlt2 hq).mp h)
      refine lv_iload hx hb dJ1_indexOfChar_4cfef_22 (lv_at hl 3 rfl) ?_
      have h3 := hr lsv 24 dJ1_indexOfChar_4cfef_24
      rw [he, sIxF, if_pos heq, show Int32.ofInt (i : Int) = nI i from Int32.ofInt_eq_ofNat] at h3
      exact h3
theorem wk_lic {q : Nat} (hj : j < 3) (hq : q < 256) : Wk l bs ad adV 2 100 "java/lang/StringLatin1" cJ1_indexOfChar_4cfef 6 [.ref (adV j), .int (nI q), .int (nI 0), .int (nI (txLen.getD j 0))] (Int32.ofInt (sIxF q (txL.getD j []) 0)) := by
  intro p e s m below meth c Q lsv hJ hl hr
  obtain ⟨⟨hx, hb, hml, ho, hts⟩, hvk, hz, -⟩ := id hJ
  unfold WJ
  refine lv_iload_n hx hb dJ1_indexOfChar_4cfef_0 rfl (lv_at hl 1 rfl) ?_
  refine lv_i2b hx hb dJ1_indexOfChar_4cfef_1 rfl ?_
  refine lv_istore hx hb dJ1_indexOfChar_4cfef_2 hl (by decide) (lv' := [(4, .int (nI q).toInt8.toInt32), (0, .ref (adV j)), (1, .int (nI q)), (2, .int (nI 0)), (3, .int (nI (txLen.getD j 0)))]) rfl (fun ls1 hl1 => ?_)
  refine lv_iload_n hx hb dJ1_indexOfChar_4cfef_4 rfl (lv_at hl1 3 rfl) ?_
  refine lv_istore hx hb dJ1_indexOfChar_4cfef_5 hl1 (by decide) (lv' := [(5, .int (nI 0)), (4, .int (nI q).toInt8.toInt32), (0, .ref (adV j)), (1, .int (nI q)), (2, .int (nI 0)), (3, .int (nI (txLen.getD j 0)))]) rfl (fun ls2 hl2 => ?_)
  exact ic_loop hJ hj hq hr (txL.getD j []) 0 rfl (Nat.zero_le _) rfl ls2 (lv_sub hl2 [2, 5, 1, 0] rfl)
theorem mt_lic {q : Nat} (hj : j < 3) (hq : q < 256) : MtJ l bs ad adV 2 100 yjLic cJ1_indexOfChar_4cfef 6 (some .int) [.ref (adV j), .int (nI q), .int (nI 0), .int (nI (txLen.getD j 0))] (some (.int (Int32.ofInt (sIxF q (txL.getD j []) 0)))) :=
  MtJ.mk (by decide +kernel) (Nat.le_of_ble_eq_true rfl) rfl (wk_lic hj hq)
theorem wk_lix {q : Nat} (hj : j < 3) (hq : q < 256) : Wk l bs ad adV 4 200 "java/lang/StringLatin1" cJ1_indexOf_4cfef 4 [.ref (adV j), .int (nI q), .int (nI 0), .int (nI (txLen.getD j 0))] (Int32.ofInt (sIxF q (txL.getD j []) 0)) := by
  intro p e s m below meth c Q lsv hJ hl hr
  obtain ⟨⟨hx, hb, hml, ho, hts⟩, hvk, hz, -⟩ := id hJ
  unfold WJ at hr ⊢
  have hsm := tx_small j hj
  refine lv_iload_n hx hb dJ1_indexOf_4cfef_0 rfl (lv_at hl 1 rfl) ?_
  refine jcS (As := [.int (nI q)]) (rest := []) hJ va_S.rf (mt_enc hq) 1 rfl hl.1 jw_479 jw_16 jw_477 jw_478 ⟨by decide, by decide, by decide +kernel⟩ ⟨by decide, by decide⟩ (by decide) (Nat.le_refl _) (Nat.le_refl _) dJ1_indexOf_4cfef_1 ?_
  refine lv_if_ne hx hb dJ1_indexOf_4cfef_4 (tgt := 9) rfl (fun _ => ?_) (fun h => absurd h (by decide))
  refine lv_iload_n hx hb dJ1_indexOf_4cfef_9 rfl (lv_at hl 2 rfl) ?_
  refine lv_iconst hx hb dJ1_indexOf_4cfef_10 (v := nI 0) (by decide) ?_
  refine va_mmax hx hb (hml.trans hl.1.symm) ho (hts _ jw_480) (hts _ jw_442) (hts _ jw_14) (hts _ jw_443) (by decide) (by decide) (Nat.le_refl _) (Nat.le_refl _) dJ1_indexOf_4cfef_11 ?_
  rw [ite_self]
  refine lv_istore_n hx hb dJ1_indexOf_4cfef_14 rfl hl (by decide) (lv' := [(2, .int (nI 0)), (0, .ref (adV j)), (1, .int (nI q)), (3, .int (nI (txLen.getD j 0)))]) rfl (fun ls1 hl1 => ?_)
  refine lv_iload_n hx hb dJ1_indexOf_4cfef_15 rfl (lv_at hl1 3 rfl) ?_
  refine lv_aload_n hx hb dJ1_indexOf_4cfef_16 rfl (lv_at hl1 1 rfl) ?_
  refine va_tlen hx hb (hvk.1 j hj).2.2.2 va_S.rf (v := nI (txLen.getD j 0)) rfl dJ1_indexOf_4cfef_17 ?_
  refine va_mmin hx hb (hml.trans hl1.1.symm) ho (hts _ jw_481) (hts _ jw_439) (hts _ jw_14) (hts _ jw_440) (by decide) (by decide) (Nat.le_refl _) (Nat.le_refl _) dJ1_indexOf_4cfef_18 ?_
  rw [ite_self]
  refine lv_istore_n hx hb dJ1_indexOf_4cfef_21 rfl hl1 (by decide) (lv' := [(3, .int (nI (txLen.getD j 0))), (2, .int (nI 0)), (0, .ref (adV j)), (1, .int (nI q))]) rfl (fun ls2 hl2 => ?_)
  refine lv_iload_n hx hb dJ1_indexOf_4cfef_22 rfl (lv_at hl2 1 rfl) ?_
  refine lv_iload_n hx hb dJ1_indexOf_4cfef_23 rfl (lv_at hl2 0 rfl) ?_
  refine lv_icmp_lt hx hb dJ1_indexOf_4cfef_24 (tgt := 29) rfl (fun _ => ?_) (fun h => absurd (nI_lt (by omega) (by omega)) h)
  refine lv_aload_n hx hb dJ1_indexOf_4cfef_29 rfl (lv_at hl2 2 rfl) ?_
  refine lv_iload_n hx hb dJ1_indexOf_4cfef_30 rfl (lv_at hl2 3 rfl) ?_
  refine lv_iload_n hx hb dJ1_indexOf_4cfef_31 rfl (lv_at hl2 1 rfl) ?_
  refine lv_iload_n hx hb dJ1_indexOf_4cfef_32 rfl (lv_at hl2 0 rfl) ?_
  refine jcS (As := [.ref (adV j), .int (nI q), .int (nI 0), .int (nI (txLen.getD j 0))]) (rest := []) hJ va_S.rf (mt_lic hj hq) 4 rfl hl2.1 jw_484 jw_16 jw_482 jw_483 ⟨by decide, by decide, by decide +kernel⟩ ⟨by decide, by decide⟩ (by decide) (Nat.le_refl _) (Nat.le_refl _) dJ1_indexOf_4cfef_33 ?_
  exact hr _ _ dJ1_indexOf_4cfef_36
theorem mt_lix {q : Nat} (hj : j < 3) (hq : q < 256) : MtJ l bs ad adV 4 200 yjLix cJ1_indexOf_4cfef 4 (some .int) [.ref (adV j), .int (nI q), .int (nI 0), .int (nI (txLen.getD j 0))] (some (.int (Int32.ofInt (sIxF q (txL.getD j []) 0)))) :=
  MtJ.mk (by decide +kernel) (Nat.le_of_ble_eq_true rfl) rfl (wk_lix hj hq)
theorem wk_ix2 {q : Nat} (hj : j < 3) (hq : q < 256) : Wk l bs ad adV 6 300 "java/lang/String" cJ0_indexOf_7cf53 3 [.ref (ad (j + 2)), .int (nI q), .int (nI 0)] (Int32.ofInt (sIxF q (txL.getD j []) 0)) := by
  intro p e s m below meth c Q lsv hJ hl hr
  obtain ⟨⟨hx, hb, hml, ho, hts⟩, hvk, hz, -⟩ := id hJ
  unfold WJ at hr ⊢
  refine lv_aload_n hx hb dJ0_indexOf_7cf53_0 rfl (lv_at hl 0 rfl) ?_
  refine jcV (As := []) hJ va_S.rf hj (mt_lat hj) 0 rfl hl.1 rfl jw_463 jw_460 jw_461 jw_462 (by decide +kernel) ⟨by decide, by decide⟩ (by decide) (Nat.le_refl _) (Nat.le_refl _) dJ0_indexOf_7cf53_1 ?_
  refine lv_if_eq hx hb dJ0_indexOf_7cf53_4 (tgt := 23) rfl (fun h => absurd h (by decide)) (fun _ => ?_)
  refine lv_aload_n hx hb dJ0_indexOf_7cf53_7 rfl (lv_at hl 0 rfl) ?_
  refine vk_getf hx hb (hvk.1 j hj).2.2.1 va_S.rf ho (hts _ jw_1850) (fun _ h => h) dJ0_indexOf_7cf53_8 ?_
  refine lv_iload_n hx hb dJ0_indexOf_7cf53_11 rfl (lv_at hl 1 rfl) ?_
  refine lv_iload_n hx hb dJ0_indexOf_7cf53_12 rfl (lv_at hl 2 rfl) ?_
  refine lv_aload_n hx hb dJ0_indexOf_7cf53_13 rfl (lv_at hl 0 rfl) ?_
  refine jcV (As := []) hJ va_S.rf hj (mt_len hj) 0 rfl hl.1 rfl jw_469 jw_466 jw_467 jw_468 (by decide +kernel) ⟨by decide, by decide⟩ (Nat.le_of_ble_eq_true rfl) (Nat.le_refl _) (Nat.le_refl _) dJ0_indexOf_7cf53_14 ?_
  refine jcS (As := [.ref (adV j), .int (nI q), .int (nI 0), .int (nI (txLen.getD j 0))]) (rest := []) hJ va_S.rf (mt_lix hj hq) 4 rfl hl.1 jw_476 jw_16 jw_474 jw_475 ⟨by decide, by decide, by decide +kernel⟩ ⟨by decide, by decide⟩ (by decide) (Nat.le_refl _) (Nat.le_refl _) dJ0_indexOf_7cf53_17 ?_
  refine lv_goto hx hb dJ0_indexOf_7cf53_20 (tgt := 36) rfl ?_
  exact hr _ _ dJ0_indexOf_7cf53_36
theorem mt_ix2 {q : Nat} (hj : j < 3) (hq : q < 256) : MtJ l bs ad adV 6 300 yjIx2 cJ0_indexOf_7cf53 3 (some .int) [.ref (ad (j + 2)), .int (nI q), .int (nI 0)] (some (.int (Int32.ofInt (sIxF q (txL.getD j []) 0)))) :=
  MtJ.mk (by decide +kernel) (Nat.le_of_ble_eq_true rfl) rfl (wk_ix2 hj hq)
theorem wk_ix1 {q : Nat} (hj : j < 3) (hq : q < 256) : Wk l bs ad adV 8 400 "java/lang/String" cJ0_indexOf_0f7a4 2 [.ref (ad (j + 2)), .int (nI q)] (Int32.ofInt (sIxF q (txL.getD j []) 0)) := by
  intro p e s m below meth c Q lsv hJ hl hr
  obtain ⟨⟨hx, hb, hml, ho, hts⟩, hvk, hz, -⟩ := id hJ
  unfold WJ at hr ⊢
  refine lv_aload_n hx hb dJ0_indexOf_0f7a4_0 rfl (lv_at hl 0 rfl) ?_
  refine lv_iload_n hx hb dJ0_indexOf_0f7a4_1 rfl (lv_at hl 1 rfl) ?_
  refine lv_iconst hx hb dJ0_indexOf_0f7a4_2 (v := nI 0) (by decide) ?_
  refine jcV (As := [.int (nI q), .int (nI 0)]) (rest := []) hJ va_S.rf hj (mt_ix2 hj hq) 2 rfl hl.1 rfl jw_459 jw_456 jw_457 jw_458 (by decide +kernel) ⟨by decide, by decide⟩ (by decide) (Nat.le_refl _) (Nat.le_refl _) dJ0_indexOf_0f7a4_3 ?_
  exact hr _ _ dJ0_indexOf_0f7a4_6
theorem mt_ix1 {q : Nat} (hj : j < 3) (hq : q < 256) : MtJ l bs ad adV 8 400 yjIx1 cJ0_indexOf_0f7a4 2 (some .int) [.ref (ad (j + 2)), .int (nI q)] (some (.int (Int32.ofInt (sIxF q (txL.getD j []) 0)))) :=
  MtJ.mk (by decide +kernel) (Nat.le_of_ble_eq_true rfl) rfl (wk_ix1 hj hq)
end JDKW
theorem strRow (l : Launch) (bs L : Nat) (xs : Nat → Int32) (ad : Nat → Nat) (cA : Nat → ClassId) (D : va_G) (p : Program) (e : Env) (R : Room) (s : State) (m : MethodId) (args : Array Value) (below : List Frame) (meth : Method) (c : Code) (Q : State → Prop) (md n0 d : Nat) : StrRow p l e R s m args below meth c Q bs L xs ad cA D md n0 d := by
  intro hA lsv H locs cells slots pc i j rest hj hS hsz hcat hc hs hdg
  obtain ⟨hmd, hx, hb, hrt, hml, hown, hts, hlk, hin, hst, hfr, hlo⟩ := hA
  obtain ⟨-, -, -, -, -, -, -, -, ⟨⟨adV, k1⟩, kz, kq⟩, -⟩ := hst
  have hJ : JX p s m args c bs ad adV (mY md).cls (mB md) (mX md) := ⟨⟨hx, hb, hml, hown, hts⟩, k1, kz, kq⟩
  refine ⟨fun hl k => ?_, fun q hq hl k => ?_, fun q hq hl k => ?_⟩
  · rw [← tx_len j hj] at k
    exact jcV (As := []) (y := yjLen) hJ hS hj (mt_len hj) 0 rfl hsz rfl jw_469 hl jw_467 jw_468 (by decide +kernel) ⟨by omega, by omega⟩ hcat hc hs hdg k
  · rw [← tx_len j hj] at hq
    rw [← tx_ch hj hq] at k
    exact jcV (As := [.int (nI q)]) (y := yjCha) hJ hS hj (mt_cha hj hq) 1 rfl hsz rfl jw_547 hl jw_545 jw_546 (by decide +kernel) ⟨by omega, by omega⟩ hcat hc hs hdg k
  · exact jcV (As := [.int (nI q)]) (y := yjIx1) hJ hS hj (mt_ix1 hj hq) 1 rfl hsz rfl jw_455 hl jw_453 jw_454 (by decide +kernel) ⟨by omega, by omega⟩ hcat hc hs hdg k
