/-! what is kept of the rows; both sides beside each other -/
def snR (S : Int → Int) (j : Int) : Int → Int := fun k => if 59 ≤ k ∧ k < 73 then S (74 + 14 * j + (k - 59)) else S k
def hisG (S : Int → Int) : Prop := ∀ j, 0 ≤ j → j < S 73 → Gd (snR S j)
def imG (S G : Int → Int) : Prop := ∀ i : Nat, i < 2 → (G i = 0 ∨ G i = 1) ∧ (G i = 1 → Gd (imR S i) ∧ LawOk (imR S i))
def PI (S G T rs rm nb : Int → Int) (n : Int) : Prop := (Gd S ∧ LawOk S) ∧ ((0 ≤ S 73 ∧ S 73 ≤ 10) ∧ hisG S) ∧ imG S G ∧ (TG rs rm nb ∧ tOk T ∧ (0 ≤ n ∧ n ≤ 900))
theorem imR_as {S S' : Int → Int} (a : As S S') {i : Int} (hi : 0 ≤ i) : imR S' i = imR S i := by
  funext k
  unfold imR
  by_cases z : 0 ≤ k ∧ k < 1115
  · rw [if_pos z, if_pos z]; exact a _ (by omega)
  · rw [if_neg z, if_neg z]
theorem imG.as {S S' G : Int → Int} (g : imG S G) (a : As S S') : imG S' G := fun i hi => by
  rw [imR_as a (by omega)]
  exact g i hi
theorem PI.deed {S S1 G T rs rm nb : Int → Int} {n : Int} (p : PI S G T rs rm nb n) (g1 : Gd S1) (a : Ah S S1) : PI (ntS S S1) G T rs rm nb n := by
  obtain ⟨⟨g, lo⟩, ⟨h73, hg⟩, im, rest⟩ := p
  have e73 : S1 73 = S 73 := a 73 (by omega)
  have e73' : 0 ≤ S1 73 ∧ S1 73 ≤ 10 := by omega
  have as : As S (ntS S S1) := fun k hk => by rw [ntS_o e73' (by omega)]; exact a k (by omega)
  have n73 : ntS S S1 73 = if S 73 = 10 then 10 else S 73 + 1 := by
    unfold ntS
    rw [e73]
    by_cases c : S 73 = 10
    · rw [if_pos c, if_pos rfl, if_pos c]
    · rw [if_neg c, if_pos rfl, if_neg c]
  refine ⟨⟨g1.cg (fun k k1 k2 _ _ => ntS_o e73' (by omega)), as.ag.lo lo⟩, ⟨by rw [n73]; split <;> omega, fun j j0 j1 => ?_⟩, im.as as, rest⟩
  rw [n73] at j1
  by_cases c : S 73 = 10
  · rw [if_pos c] at j1
    by_cases cj : j = 9
    · refine g.cg (fun k k1 k2 _ _ => ?_)
      unfold snR
      by_cases ck : 59 ≤ k ∧ k < 73
      · rw [if_pos ck]
        unfold ntS
        rw [e73, if_pos c, if_neg (by omega), if_neg (by omega), if_pos (by omega), show 59 + (74 + 14 * j + (k - 59) - 200) = k by omega]
      · rw [if_neg ck, ntS_o e73' (by omega)]; exact a k (by omega)
    · refine (hg (j + 1) (by omega) (by omega)).cg (fun k k1 k2 _ _ => ?_)
      unfold snR
      by_cases ck : 59 ≤ k ∧ k < 73
      · rw [if_pos ck, if_pos ck]
        unfold ntS
        rw [e73, if_pos c, if_neg (by omega), if_pos (by omega), a _ (by omega)]
        congr 1
        omega
      · rw [if_neg ck, if_neg ck, ntS_o e73' (by omega)]; exact a k (by omega)
  · rw [if_neg c] at j1
    by_cases cj : j = S 73
    · refine g.cg (fun k k1 k2 _ _ => ?_)
      unfold snR
      by_cases ck : 59 ≤ k ∧ k < 73
      · rw [if_pos ck]
        unfold ntS
        rw [e73, if_neg c, if_neg (by omega), if_pos (by omega), show 59 + (74 + 14 * j + (k - 59) - 74 - 14 * S 73) = k by omega]
      · rw [if_neg ck, ntS_o e73' (by omega)]; exact a k (by omega)
    · refine (hg j (by omega) (by omega)).cg (fun k k1 k2 _ _ => ?_)
      unfold snR
      by_cases ck : 59 ≤ k ∧ k < 73
      · rw [if_pos ck, if_pos ck]
        unfold ntS
        rw [e73, if_neg c, if_neg (by omega), if_neg (by omega), a _ (by omega)]
      · rw [if_neg ck, if_neg ck, ntS_o e73' (by omega)]; exact a k (by omega)
theorem PI.undo {S G T rs rm nb : Int → Int} {n x : Int} (p : PI S G T rs rm nb n) : PI (rowUndo S x) G T rs rm nb n := by
  unfold rowUndo
  by_cases c : 1 ≤ x ∧ x ≤ 10 ∧ x ≤ S 73
  · rw [if_pos c]
    obtain ⟨⟨g, lo⟩, ⟨h73, hg⟩, im, rest⟩ := p
    have o : ∀ k, k < 59 ∨ 73 < k → unS S x k = S k := fun k hk => by unfold unS; rw [if_neg (by omega), if_neg (by omega)]
    have e73 : unS S x 73 = S 73 - x := by unfold unS; rw [if_pos rfl]
    have as : As S (unS S x) := fun k hk => o k (by omega)
    refine ⟨⟨(hg (S 73 - x) (by omega) (by omega)).cg (fun k k1 k2 _ _ => ?_), as.ag.lo lo⟩, ⟨by rw [e73]; omega, fun j j0 j1 => ?_⟩, im.as as, rest⟩
    · unfold snR unS
      rw [if_neg (by omega)]
    · rw [e73] at j1
      refine (hg j j0 (by omega)).cg (fun k k1 k2 _ _ => ?_)
      unfold snR
      by_cases ck : 59 ≤ k ∧ k < 73
      · rw [if_pos ck, if_pos ck, o _ (by omega)]
      · rw [if_neg ck, if_neg ck, o _ (by omega)]
  · rw [if_neg c]; exact p
theorem PI.join {S G T rs rm nb : Int → Int} {n x y : Int} (p : PI S G T rs rm nb n) : PI (rowJoin S x y) G T rs rm nb n := by
  unfold rowJoin
  by_cases c : whyM S x y = 0
  · rw [if_pos c]
    have w := whyM_0 p.1.1 c
    have ga := p.1.1.a
    exact p.deed (Gd_join p.1.1 c) (joinS_ah S (by omega))
  · rw [if_neg c]; exact p
theorem PI.off {S G T rs rm nb : Int → Int} {n x : Int} (p : PI S G T rs rm nb n) : PI (rowOff S x) G T rs rm nb n := by
  unfold rowOff
  by_cases c : offM S x = 0
  · rw [if_pos c]
    have ga := p.1.1.a
    have w0 : 0 ≤ x ∧ x < S 1 := by
      unfold offM at c
      split at c
      · omega
      · omega
    exact p.deed (Gd_off p.1.1 c) (offS_ah S (by omega))
  · rw [if_neg c]; exact p
theorem PI.perf {S G T rs rm nb : Int → Int} {n t : Int} (p : PI S G T rs rm nb n) : PI (rowPerf S rs rm nb t) G T rs rm nb n := by
  unfold rowPerf
  split
  · exact p
  · split
    · obtain ⟨r1, r2, -⟩ := runD_ok (fun k => nb (40 * t + k)) (rm t).toNat 0 S p.1.1
      exact p.deed r1 r2
    · exact p
theorem PI.day {S G T rs rm nb : Int → Int} {n x k : Int} (p : PI S G T rs rm nb n) : PI (rowDay S x k) G T rs rm nb n := by
  have ga := p.1.1.a
  have gb := p.1.1.b
  unfold rowDay
  split
  · exact p
  · split
    · exact p
    · rename_i c
      split
      · obtain ⟨r1, r2, -⟩ := dayD_ok k.toNat x S 0 p.1.1 (by omega) (by omega)
        exact p.deed r1 r2
      · exact p
theorem PI.spr {S G T rs rm nb : Int → Int} {n : Int} (p : PI S G T rs rm nb n) : PI (rowSpr S) G T rs rm nb n := by
  unfold rowSpr
  split
  · exact p.deed (Gd_spr p.1.1) (spS_ah p.1.1)
  · exact p
theorem snR_aw {S S' : Int → Int} (a : ∀ k, 0 ≤ k → k < 1115 → S' k = S k) {j : Int} (hj : 0 ≤ j ∧ j < 10) (g : Gd (snR S j)) : Gd (snR S' j) := g.cg (fun k k1 k2 _ _ => by
  unfold snR
  by_cases ck : 59 ≤ k ∧ k < 73
  · rw [if_pos ck, if_pos ck, a _ (by omega) (by omega)]
  · rw [if_neg ck, if_neg ck, a _ (by omega) (by omega)])
theorem PI.im {S G T rs rm nb : Int → Int} {n i : Int} (p : PI S G T rs rm nb n) (hi : 0 ≤ i ∧ i ≤ 1) : PI (imS S i) (up G i 1) T rs rm nb n := by
  obtain ⟨⟨g, lo⟩, ⟨h73, hg⟩, im, rest⟩ := p
  have aw := imS_aw (S := S) hi
  have av : Av S (imS S i) := fun k _ k1 _ => aw k k1
  refine ⟨⟨g.aw av, lo.aw av⟩, ⟨by rw [aw 73 (by omega)]; exact h73, fun j j0 j1 => ?_⟩, fun j hj => ?_, rest⟩
  · rw [aw 73 (by omega)] at j1
    exact snR_aw (fun k _ k1 => aw k k1) (by omega) (hg j j0 j1)
  · by_cases c : (j : Int) = i
    · rw [← c]
      rw [← c] at hi
      rw [up_same]
      exact ⟨Or.inr rfl, fun _ => ⟨g.aw (imR_im hi), lo.aw (imR_im hi)⟩⟩
    · rw [up_ne c, imR_o hi (by omega) c]
      exact im j hj
theorem PI.re {S G T rs rm nb : Int → Int} {n i : Int} (p : PI S G T rs rm nb n) : PI (rowRe S G i) G T rs rm nb n := by
  unfold rowRe
  by_cases hi : 0 ≤ i ∧ i ≤ 1
  · rw [if_neg (fun z => z hi)]
    by_cases c : G i = 0
    · rw [if_pos c]; exact p
    · rw [if_neg c]
      obtain ⟨⟨g, lo⟩, ⟨h73, hg⟩, im, rest⟩ := p
      obtain ⟨i', rfl⟩ := Int.eq_ofNat_of_zero_le hi.1
      obtain ⟨q1, q2⟩ := im i' (by omega)
      obtain ⟨gi, li⟩ := q2 (by omega)
      have z : reS S i' 73 = 0 := by unfold reS; rw [if_pos rfl]
      refine ⟨⟨gi.aw reS_im, li.aw reS_im⟩, ⟨by omega, fun j j0 j1 => by omega⟩, fun j hj => ?_, rest⟩
      rw [imR_re (by omega)]
      exact im j hj
  · rw [if_pos hi]; exact p
theorem PI.win {S G T rs rm nb R : Int → Int} {n k : Int} (p : PI S G T rs rm nb n) (hk : 0 ≤ k ∧ k ≤ n) : PI (wnR S (wdP T k 901 (sk T k 0) (plR R))) G T rs rm nb 0 := by
  obtain ⟨⟨g, lo⟩, ⟨h73, hg⟩, im, tg, to, hn⟩ := p
  cases hq : wdP T k 901 (sk T k 0) (plR R) with
  | inl e => exact ⟨⟨g, lo⟩, ⟨h73, hg⟩, im, tg, to, by omega⟩
  | inr q =>
    have sr := sk_rng (T := T) (n := k) (p := 0) (by omega)
    have pg : PG q.2 := wd_keep (n := k) (by omega) 901 (sk T k 0) (plR R) (by omega) (by omega) (PG_plR R) q hq
    show PI (winS S q.2) G T rs rm nb 0
    have z : winS S q.2 73 = 0 := by unfold winS; rw [if_pos (by omega)]; exact pg.2.2.2.1.2.2
    refine ⟨⟨pg.1.aw winS_av, pg.2.1.aw winS_av⟩, ⟨by omega, fun j j0 j1 => by omega⟩, fun j hj => ?_, tg, to, by omega⟩
    rw [imR_win (by omega)]
    exact im j hj
theorem PI.feed {S G T rs rm nb : Int → Int} {n : Int} (p : PI S G T rs rm nb n) (W : Int → Int) : PI S G (if 880 < n then T else fdT T W n 20) rs rm nb (if 880 < n then n else n + 20) := by
  obtain ⟨p1, p2, p3, tg, to, hn⟩ := p
  refine ⟨p1, p2, p3, tg, ?_, ?_⟩
  · split
    · exact to
    · exact fdT_ok to
  · split <;> omega
theorem PI.num {S G T rs rm nb : Int → Int} {n t s k : Int} (p : PI S G T rs rm nb n) (c : okNum t s k) : PI S G T (up rs t s) (up rm t k) (zn nb t k) n := by
  obtain ⟨p1, p2, p3, tg, to, hn⟩ := p
  obtain ⟨ct, cs, ck⟩ := c
  refine ⟨p1, p2, p3, ⟨fun z z0 z1 => ?_, fun j => ?_⟩, to, hn⟩
  · have := tg.1 z z0 z1
    unfold up
    split <;> omega
  · have := tg.2 j
    unfold zn
    split <;> omega
theorem PI.nb {S G T rs rm nb nb' : Int → Int} {n : Int} (p : PI S G T rs rm nb n) (h : ∀ k, -9223372036854775808 ≤ nb' k ∧ nb' k ≤ 9223372036854775807) : PI S G T rs rm nb' n := by
  obtain ⟨p1, p2, p3, tg, to, hn⟩ := p
  exact ⟨p1, p2, p3, ⟨tg.1, h⟩, to, hn⟩
theorem PI.wr {S G T rs rm nb : Int → Int} {n t i v : Int} (p : PI S G T rs rm nb n) (rv : -9223372036854775808 ≤ v ∧ v ≤ 9223372036854775807) : PI S G T rs rm (nbWrite rs rm nb t i v) n := p.nb (fun k => by
  have := p.2.2.2.1.2 k
  unfold nbWrite
  split
  · exact this
  · split
    · exact this
    · unfold up
      split
      · exact cutV_rng rv
      · exact this)
theorem PI.cp {S G T rs rm nb : Int → Int} {n t : Int} (p : PI S G T rs rm nb n) : PI S G T rs rm (nbCopy S rs rm nb t) n := p.nb (fun k => by
  have := p.2.2.2.1.2 k
  unfold nbCopy
  split
  · exact this
  · unfold cpV
    split
    · have := seenM_rng p.1.1 (k - 40 * t)
      exact cutV_rng (by omega)
    · exact this)
/-! class calls leave the model, model calls the class -/
theorem MB.fc {h h' : Hp} {S G T rs rm nb : Int → Int} {n fk fp : Int} (m : MB h S G T rs rm nb n fk fp) (f : Fc h h') : MB h' S G T rs rm nb n fk fp := by
  obtain ⟨⟨m1, m1'⟩, m2, m3, m4, m5⟩ := m
  have i : ∀ a k, 72 ≤ a → hI h' a k = hI h a k := fun a k ha => (f.2 a (Or.inr ha) k).1
  have l : ∀ a k, 72 ≤ a → hL h' a k = hL h a k := fun a k ha => (f.2 a (Or.inr ha) k).2.1
  have r : ∀ k, hR h' 72 k = hR h 72 k := fun k => (f.2 72 (Or.inr (by omega)) k).2.2
  have kk : ∀ a, sK h' a = sK h a := sK_eq f.1
  have nn : ∀ a, sN h' a = sN h a := sN_eq f.1
  refine ⟨⟨⟨by rw [kk]; exact m1.1, ?_, ?_, ?_⟩, fun k => by rw [i _ _ (by omega)]; exact m1' k⟩, fun k => by rw [i _ _ (by omega)]; exact m2 k, fun k => by rw [i _ _ (by omega)]; exact m3 k, by rw [i _ _ (by omega), i _ _ (by omega), i _ _ (by omega)]; exact m4, fun k => by rw [i _ _ (by omega)]; exact m5.1 k, fun k => by rw [i _ _ (by omega)]; exact m5.2.1 k, fun k => by rw [l _ _ (by omega)]; exact m5.2.2 k⟩
  · have q := m1.2.1
    unfold MRr at q ⊢
    simp only [r]
    exact q
  · have q := m1.2.2.1
    unfold MRk at q ⊢
    simp only [kk]
    exact q
  · have q := m1.2.2.2
    unfold MRn at q ⊢
    simp only [nn]
    exact q
theorem CB.fm {h h' : Hp} {w : Nat} {S G T rs rm nb : Int → Int} {n fk fp : Int} (c : CB h w S G T rs rm nb n fk fp) {p : Nat → Nat → Prop} (f : Fr p h h') (hp : ∀ a k, p a k → 72 ≤ a) : CB h' w S G T rs rm nb n fk fp := by
  obtain ⟨⟨c1, c2, c3, c4, c5, c6⟩, ⟨b1, b2, b3, b4, b5⟩, ci⟩ := c
  have wd := c1.wd
  have np : ∀ a k, a < 72 → ¬ p a k := fun a k ha z => by have := hp a k z; omega
  refine ⟨⟨c1.fr f, c2.fr f (fun a k a0 a1 => np _ _ (by omega)), c3.fr f (fun k => np _ _ (by omega)), c4.fr f (fun k => np _ _ (by omega)) (fun k => np _ _ (by omega)), c5.fr f (fun k => np _ _ (by omega)) (fun k => np _ _ (by omega)), c6.fr f (fun a k z => by have := hp a k z; omega)⟩, ⟨b1.fr f (fun a k a0 a1 => np _ _ (by omega)), fun k hk => by rw [f.I (np _ _ (by omega))]; exact b2 k hk, by rw [f.I (np 6 1 (by omega)), f.I (np 6 3 (by omega)), f.I (np 6 4 (by omega))]; exact b3, by rw [f.I (np _ _ (by omega))]; exact b4, b5.fr f (fun a k z => by have := hp a k z; omega)⟩, fun i hi => ?_⟩
  obtain ⟨i1, i2⟩ := ci i hi
  refine ⟨by rw [f.I (np _ _ (by omega))]; exact i1, fun z => ?_⟩
  obtain ⟨j1, j2, j3⟩ := i2 z
  exact ⟨j1.fr f (fun a k a0 a1 => np _ _ (by omega)), j2.fr f (fun k => np _ _ (by omega)), j3.fr f (fun k => np _ _ (by omega)) (fun k => np _ _ (by omega))⟩
