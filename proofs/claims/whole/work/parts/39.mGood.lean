/-! frames; the model's cells; good rows -/
theorem nc0 : ((0 : Nat) : Int) = 0 := rfl
theorem nc1 : ((1 : Nat) : Int) = 1 := rfl
theorem nc2 : ((2 : Nat) : Int) = 2 := rfl
theorem nc3 : ((3 : Nat) : Int) = 3 := rfl
theorem nc4 : ((4 : Nat) : Int) = 4 := rfl
theorem nc5 : ((5 : Nat) : Int) = 5 := rfl
theorem nc6 : ((6 : Nat) : Int) = 6 := rfl
theorem nc7 : ((7 : Nat) : Int) = 7 := rfl
theorem nc8 : ((8 : Nat) : Int) = 8 := rfl
theorem nc9 : ((9 : Nat) : Int) = 9 := rfl
theorem nc10 : ((10 : Nat) : Int) = 10 := rfl
theorem nc11 : ((11 : Nat) : Int) = 11 := rfl
theorem nc12 : ((12 : Nat) : Int) = 12 := rfl
theorem nc13 : ((13 : Nat) : Int) = 13 := rfl
theorem nc14 : ((14 : Nat) : Int) = 14 := rfl
theorem nc15 : ((15 : Nat) : Int) = 15 := rfl
theorem nc16 : ((16 : Nat) : Int) = 16 := rfl
theorem nc17 : ((17 : Nat) : Int) = 17 := rfl
theorem nc18 : ((18 : Nat) : Int) = 18 := rfl
theorem nc19 : ((19 : Nat) : Int) = 19 := rfl
theorem nc20 : ((20 : Nat) : Int) = 20 := rfl
theorem nc21 : ((21 : Nat) : Int) = 21 := rfl
theorem nc22 : ((22 : Nat) : Int) = 22 := rfl
theorem nc23 : ((23 : Nat) : Int) = 23 := rfl
theorem nc35 : ((35 : Nat) : Int) = 35 := rfl
theorem nc47 : ((47 : Nat) : Int) = 47 := rfl
theorem nc59 : ((59 : Nat) : Int) = 59 := rfl
theorem nc60 : ((60 : Nat) : Int) = 60 := rfl
theorem nc61 : ((61 : Nat) : Int) = 61 := rfl
theorem nc73 : ((73 : Nat) : Int) = 73 := rfl
theorem nc74 : ((74 : Nat) : Int) = 74 := rfl
theorem nc214 : ((214 : Nat) : Int) = 214 := rfl
theorem nc215 : ((215 : Nat) : Int) = 215 := rfl
theorem nc1115 : ((1115 : Nat) : Int) = 1115 := rfl
theorem nc2230 : ((2230 : Nat) : Int) = 2230 := rfl
theorem nc3345 : ((3345 : Nat) : Int) = 3345 := rfl
theorem wr_bt (z k : Int) : wr (bt z k) = bt z k := by rcases bt_01 z k with e | e <;> rw [e] <;> rfl
/-- nothing has changed but slots of p; references stand -/
def Fr (p : Nat → Nat → Prop) (h h' : Hp) : Prop := h'.1 = h.1 ∧ (∀ a k, ¬ p a k → hI h' a k = hI h a k) ∧ (∀ a k, ¬ p a k → hL h' a k = hL h a k) ∧ ∀ a k, hR h' a k = hR h a k
theorem Fr.rf {p : Nat → Nat → Prop} {h : Hp} : Fr p h h := ⟨rfl, fun _ _ _ => rfl, fun _ _ _ => rfl, fun _ _ => rfl⟩
theorem Fr.tr {p : Nat → Nat → Prop} {h h' h'' : Hp} (f : Fr p h h') (g : Fr p h' h'') : Fr p h h'' := ⟨g.1.trans f.1, fun a k ha => (g.2.1 a k ha).trans (f.2.1 a k ha), fun a k ha => (g.2.2.1 a k ha).trans (f.2.2.1 a k ha), fun a k => (g.2.2.2 a k).trans (f.2.2.2 a k)⟩
theorem Fr.mo {p q : Nat → Nat → Prop} {h h' : Hp} (f : Fr p h h') (hpq : ∀ a k, p a k → q a k) : Fr q h h' := ⟨f.1, fun a k ha => f.2.1 a k (fun c => ha (hpq a k c)), fun a k ha => f.2.2.1 a k (fun c => ha (hpq a k c)), f.2.2.2⟩
theorem Fr.I {p : Nat → Nat → Prop} {h h' : Hp} (f : Fr p h h') {a k : Nat} (ha : ¬ p a k) : hI h' a k = hI h a k := f.2.1 a k ha
theorem Fr.L {p : Nat → Nat → Prop} {h h' : Hp} (f : Fr p h h') {a k : Nat} (ha : ¬ p a k) : hL h' a k = hL h a k := f.2.2.1 a k ha
theorem Fr.R {p : Nat → Nat → Prop} {h h' : Hp} (f : Fr p h h') (a k : Nat) : hR h' a k = hR h a k := f.2.2.2 a k
theorem Fr.K {p : Nat → Nat → Prop} {h h' : Hp} (f : Fr p h h') (a : Nat) : sK h' a = sK h a := sK_eq f.1 a
theorem Fr.N {p : Nat → Nat → Prop} {h h' : Hp} (f : Fr p h h') (a : Nat) : sN h' a = sN h a := sN_eq f.1 a
theorem Fr.pI {p : Nat → Nat → Prop} {h h' : Hp} (f : Fr p h h') {a k : Nat} {v : Int} (ha : p a k) : Fr p h (pI h' a k v) := f.tr ⟨rfl, fun b j hb => by rw [hI_pI, if_neg (fun c : b = a ∧ j = k => hb (by rw [c.1, c.2]; exact ha))], fun _ _ _ => rfl, fun _ _ => rfl⟩
theorem Fr.pL {p : Nat → Nat → Prop} {h h' : Hp} (f : Fr p h h') {a k : Nat} {v : Int} (ha : p a k) : Fr p h (pL h' a k v) := f.tr ⟨rfl, fun _ _ _ => rfl, fun b j hb => by rw [hL_pL, if_neg (fun c : b = a ∧ j = k => hb (by rw [c.1, c.2]; exact ha))], fun _ _ => rfl⟩
/-- a row with one number changed -/
def up (S : Int → Int) (z v : Int) : Int → Int := fun j => if j = z then v else S j
theorem up_same (S : Int → Int) (z v : Int) : up S z v z = v := if_pos rfl
theorem up_ne {S : Int → Int} {z v j : Int} (h : ¬ j = z) : up S z v j = S j := if_neg h
/-- the model's cells are where they are -/
def MRr (h : Hp) : Prop := hR h 72 1 = 73 ∧ hR h 72 2 = 74 ∧ hR h 72 3 = 75 ∧ hR h 72 4 = 76 ∧ hR h 72 15 = 77 ∧ hR h 72 16 = 78 ∧ hR h 72 19 = 79 ∧ hR h 72 23 = 80 ∧ hR h 72 24 = 81 ∧ hR h 72 25 = 82 ∧ hR h 72 26 = 83 ∧ hR h 72 29 = 84 ∧ hR h 72 30 = 85 ∧ hR h 72 31 = 86 ∧ hR h 72 33 = 87 ∧ hR h 72 34 = 88 ∧ hR h 72 35 = 89
def MRk (h : Hp) : Prop := sK h 73 = 20 ∧ sK h 74 = 23 ∧ sK h 75 = 20 ∧ sK h 76 = 20 ∧ sK h 77 = 20 ∧ sK h 78 = 20 ∧ sK h 79 = 21 ∧ sK h 80 = 20 ∧ sK h 81 = 20 ∧ sK h 82 = 20 ∧ sK h 83 = 20 ∧ sK h 84 = 20 ∧ sK h 85 = 20 ∧ sK h 86 = 20 ∧ sK h 87 = 20 ∧ sK h 88 = 20 ∧ sK h 89 = 21
def MRn (h : Hp) : Prop := sN h 73 = 3345 ∧ sN h 74 = 2 ∧ sN h 75 = 900 ∧ sN h 76 = 1115 ∧ sN h 77 = 900 ∧ sN h 78 = 14 ∧ sN h 79 = 2197 ∧ sN h 80 = 12 ∧ sN h 81 = 169 ∧ sN h 82 = 2197 ∧ sN h 83 = 2197 ∧ sN h 84 = 441 ∧ sN h 85 = 8 ∧ sN h 86 = 8 ∧ sN h 87 = 4 ∧ sN h 88 = 4 ∧ sN h 89 = 160
def MR (h : Hp) : Prop := sK h 72 = 11 ∧ MRr h ∧ MRk h ∧ MRn h
theorem MR.k {h : Hp} (m : MR h) : sK h 72 = 11 := m.1
theorem MR.r1 {h : Hp} (m : MR h) : hR h 72 1 = 73 := m.2.1.1
theorem MR.r2 {h : Hp} (m : MR h) : hR h 72 2 = 74 := m.2.1.2.1
theorem MR.r3 {h : Hp} (m : MR h) : hR h 72 3 = 75 := m.2.1.2.2.1
theorem MR.r4 {h : Hp} (m : MR h) : hR h 72 4 = 76 := m.2.1.2.2.2.1
theorem MR.r15 {h : Hp} (m : MR h) : hR h 72 15 = 77 := m.2.1.2.2.2.2.1
theorem MR.r16 {h : Hp} (m : MR h) : hR h 72 16 = 78 := m.2.1.2.2.2.2.2.1
theorem MR.r19 {h : Hp} (m : MR h) : hR h 72 19 = 79 := m.2.1.2.2.2.2.2.2.1
theorem MR.r23 {h : Hp} (m : MR h) : hR h 72 23 = 80 := m.2.1.2.2.2.2.2.2.2.1
theorem MR.r24 {h : Hp} (m : MR h) : hR h 72 24 = 81 := m.2.1.2.2.2.2.2.2.2.2.1
theorem MR.r25 {h : Hp} (m : MR h) : hR h 72 25 = 82 := m.2.1.2.2.2.2.2.2.2.2.2.1
theorem MR.r26 {h : Hp} (m : MR h) : hR h 72 26 = 83 := m.2.1.2.2.2.2.2.2.2.2.2.2.1
theorem MR.r29 {h : Hp} (m : MR h) : hR h 72 29 = 84 := m.2.1.2.2.2.2.2.2.2.2.2.2.2.1
theorem MR.r30 {h : Hp} (m : MR h) : hR h 72 30 = 85 := m.2.1.2.2.2.2.2.2.2.2.2.2.2.2.1
theorem MR.r31 {h : Hp} (m : MR h) : hR h 72 31 = 86 := m.2.1.2.2.2.2.2.2.2.2.2.2.2.2.2.1
theorem MR.r33 {h : Hp} (m : MR h) : hR h 72 33 = 87 := m.2.1.2.2.2.2.2.2.2.2.2.2.2.2.2.2.1
theorem MR.r34 {h : Hp} (m : MR h) : hR h 72 34 = 88 := m.2.1.2.2.2.2.2.2.2.2.2.2.2.2.2.2.2.1
theorem MR.r35 {h : Hp} (m : MR h) : hR h 72 35 = 89 := m.2.1.2.2.2.2.2.2.2.2.2.2.2.2.2.2.2.2
theorem MR.k73 {h : Hp} (m : MR h) : sK h 73 = 20 := m.2.2.1.1
theorem MR.k74 {h : Hp} (m : MR h) : sK h 74 = 23 := m.2.2.1.2.1
theorem MR.k75 {h : Hp} (m : MR h) : sK h 75 = 20 := m.2.2.1.2.2.1
theorem MR.k76 {h : Hp} (m : MR h) : sK h 76 = 20 := m.2.2.1.2.2.2.1
theorem MR.k77 {h : Hp} (m : MR h) : sK h 77 = 20 := m.2.2.1.2.2.2.2.1
theorem MR.k78 {h : Hp} (m : MR h) : sK h 78 = 20 := m.2.2.1.2.2.2.2.2.1
theorem MR.k79 {h : Hp} (m : MR h) : sK h 79 = 21 := m.2.2.1.2.2.2.2.2.2.1
theorem MR.k80 {h : Hp} (m : MR h) : sK h 80 = 20 := m.2.2.1.2.2.2.2.2.2.2.1
theorem MR.k81 {h : Hp} (m : MR h) : sK h 81 = 20 := m.2.2.1.2.2.2.2.2.2.2.2.1
theorem MR.k82 {h : Hp} (m : MR h) : sK h 82 = 20 := m.2.2.1.2.2.2.2.2.2.2.2.2.1
theorem MR.k83 {h : Hp} (m : MR h) : sK h 83 = 20 := m.2.2.1.2.2.2.2.2.2.2.2.2.2.1
theorem MR.k84 {h : Hp} (m : MR h) : sK h 84 = 20 := m.2.2.1.2.2.2.2.2.2.2.2.2.2.2.1
theorem MR.k85 {h : Hp} (m : MR h) : sK h 85 = 20 := m.2.2.1.2.2.2.2.2.2.2.2.2.2.2.2.1
theorem MR.k86 {h : Hp} (m : MR h) : sK h 86 = 20 := m.2.2.1.2.2.2.2.2.2.2.2.2.2.2.2.2.1
theorem MR.k87 {h : Hp} (m : MR h) : sK h 87 = 20 := m.2.2.1.2.2.2.2.2.2.2.2.2.2.2.2.2.2.1
theorem MR.k88 {h : Hp} (m : MR h) : sK h 88 = 20 := m.2.2.1.2.2.2.2.2.2.2.2.2.2.2.2.2.2.2.1
theorem MR.k89 {h : Hp} (m : MR h) : sK h 89 = 21 := m.2.2.1.2.2.2.2.2.2.2.2.2.2.2.2.2.2.2.2
theorem MR.n73 {h : Hp} (m : MR h) : sN h 73 = 3345 := m.2.2.2.1
theorem MR.n74 {h : Hp} (m : MR h) : sN h 74 = 2 := m.2.2.2.2.1
theorem MR.n75 {h : Hp} (m : MR h) : sN h 75 = 900 := m.2.2.2.2.2.1
theorem MR.n76 {h : Hp} (m : MR h) : sN h 76 = 1115 := m.2.2.2.2.2.2.1
theorem MR.n77 {h : Hp} (m : MR h) : sN h 77 = 900 := m.2.2.2.2.2.2.2.1
theorem MR.n78 {h : Hp} (m : MR h) : sN h 78 = 14 := m.2.2.2.2.2.2.2.2.1
theorem MR.n79 {h : Hp} (m : MR h) : sN h 79 = 2197 := m.2.2.2.2.2.2.2.2.2.1
theorem MR.n80 {h : Hp} (m : MR h) : sN h 80 = 12 := m.2.2.2.2.2.2.2.2.2.2.1
theorem MR.n81 {h : Hp} (m : MR h) : sN h 81 = 169 := m.2.2.2.2.2.2.2.2.2.2.2.1
theorem MR.n82 {h : Hp} (m : MR h) : sN h 82 = 2197 := m.2.2.2.2.2.2.2.2.2.2.2.2.1
theorem MR.n83 {h : Hp} (m : MR h) : sN h 83 = 2197 := m.2.2.2.2.2.2.2.2.2.2.2.2.2.1
theorem MR.n84 {h : Hp} (m : MR h) : sN h 84 = 441 := m.2.2.2.2.2.2.2.2.2.2.2.2.2.2.1
theorem MR.n85 {h : Hp} (m : MR h) : sN h 85 = 8 := m.2.2.2.2.2.2.2.2.2.2.2.2.2.2.2.1
theorem MR.n86 {h : Hp} (m : MR h) : sN h 86 = 8 := m.2.2.2.2.2.2.2.2.2.2.2.2.2.2.2.2.1
theorem MR.n87 {h : Hp} (m : MR h) : sN h 87 = 4 := m.2.2.2.2.2.2.2.2.2.2.2.2.2.2.2.2.2.1
theorem MR.n88 {h : Hp} (m : MR h) : sN h 88 = 4 := m.2.2.2.2.2.2.2.2.2.2.2.2.2.2.2.2.2.2.1
theorem MR.n89 {h : Hp} (m : MR h) : sN h 89 = 160 := m.2.2.2.2.2.2.2.2.2.2.2.2.2.2.2.2.2.2.2
theorem MR.mv {h h' : Hp} (m : MR h) (hs : h'.1 = h.1) (hr : ∀ k, hR h' 72 k = hR h 72 k) : MR h' := by
  unfold MR MRr MRk MRn at *
  simp only [sK_eq hs, sN_eq hs, hr]
  exact m
theorem MR.fr {h h' : Hp} (m : MR h) {p : Nat → Nat → Prop} (f : Fr p h h') : MR h' := m.mv f.1 (fun k => f.R 72 k)
theorem MR.pI {h : Hp} (m : MR h) (a k : Nat) (v : Int) : MR (pI h a k v) := m.mv rfl (fun _ => rfl)
theorem MR.pL {h : Hp} (m : MR h) (a k : Nat) (v : Int) : MR (pL h a k v) := m.mv rfl (fun _ => rfl)
/-- the model's window row is S -/
def MS (h : Hp) (S : Int → Int) : Prop := MR h ∧ ∀ k : Nat, hI h 73 k = S k
theorem MS.rs {h : Hp} {S : Int → Int} (m : MS h S) : RS h 73 S := ⟨m.1.k73, by rw [m.1.n73]; omega, by rw [m.1.n73]; omega, m.2⟩
theorem MS.fr {h h' : Hp} {S : Int → Int} (m : MS h S) {p : Nat → Nat → Prop} (f : Fr p h h') (hp : ∀ k, ¬ p 73 k) : MS h' S := ⟨m.1.fr f, fun k => (f.I (hp k)).trans (m.2 k)⟩
/-! good rows -/
def GdW (S : Int → Int) : Prop :=
  (0 ≤ S 1 ∧ S 1 ≤ 12) ∧ (0 ≤ S 2 ∧ S 2 ≤ 12) ∧ (0 ≤ S 3 ∧ S 3 ≤ 9) ∧ (0 ≤ S 4 ∧ S 4 ≤ 99) ∧ (1 ≤ S 5 ∧ S 5 ≤ 99) ∧ (S 6 = 0 ∨ (2 ≤ S 6 ∧ S 6 ≤ 6)) ∧ (0 ≤ S 7 ∧ S 7 ≤ 9) ∧ (0 ≤ S 8 ∧ S 8 ≤ 999) ∧ (0 ≤ S 10 ∧ S 10 < 4096) ∧
  (∀ i, 0 ≤ i → i < 12 → 0 ≤ S (11 + i) ∧ S (11 + i) ≤ 99) ∧ (∀ i, 0 ≤ i → i < 12 → 0 ≤ S (23 + i) ∧ S (23 + i) ≤ 99) ∧ (∀ i, 0 ≤ i → i < 12 → 0 ≤ S (35 + i) ∧ S (35 + i) ≤ 99) ∧ (∀ i, 0 ≤ i → i < 12 → 0 ≤ S (47 + i) ∧ S (47 + i) ≤ 99) ∧ (∀ r, S 2 ≤ r → r < 32 → bt (S 10) r = 0)
def GdH (S : Int → Int) : Prop :=
  (0 ≤ S 59 ∧ S 59 ≤ 11 ∧ (S 59 = 0 ∨ S 59 < S 2)) ∧ (∀ i, 0 ≤ i → i < 12 → -1 ≤ S (61 + i) ∧ S (61 + i) < S 2 ∧ (S 1 ≤ i → S (61 + i) = -1)) ∧ (∀ i j, 0 ≤ i → i < j → j < S 1 → ¬ S (61 + i) = -1 → ¬ S (61 + j) = -1 → S (61 + i) < S (61 + j))
def Gd (S : Int → Int) : Prop := GdW S ∧ GdH S
theorem Gd.a {S : Int → Int} (g : Gd S) : 0 ≤ S 1 ∧ S 1 ≤ 12 := g.1.1
theorem Gd.b {S : Int → Int} (g : Gd S) : 0 ≤ S 2 ∧ S 2 ≤ 12 := g.1.2.1
theorem Gd.rg {S : Int → Int} (g : Gd S) {i : Int} (h0 : 0 ≤ i) (h1 : i < 12) : -1 ≤ S (61 + i) ∧ S (61 + i) < S 2 ∧ (S 1 ≤ i → S (61 + i) = -1) := g.2.2.1 i h0 h1
theorem Gd.rg' {S : Int → Int} (g : Gd S) : ∀ i, 0 ≤ i → i < 12 → -1 ≤ S (61 + i) ∧ S (61 + i) ≤ 11 := fun i h0 h1 => by have := g.rg h0 h1; have := g.b; omega
theorem GdW.sag {S : Int → Int} (g : GdW S) {x r y s : Int} (h1 : 0 ≤ x) (h2 : y ≤ 12) (h3 : 0 ≤ r) (h4 : s ≤ 12) : -1200 ≤ sagM S x r y s ∧ sagM S x r y s ≤ 1200 := by
  have a := sm_rng (f := fun k => S (11 + k)) (N := y) (lo := 0) (hi := 99) (by omega) (by omega) x (fun j q1 q2 => g.2.2.2.2.2.2.2.2.2.1 j (by omega) (by omega))
  have b := sm_rng (f := fun k => S (23 + k)) (N := s) (lo := 0) (hi := 99) (by omega) (by omega) r (fun j q1 q2 => g.2.2.2.2.2.2.2.2.2.2.1 j (by omega) (by omega))
  unfold sagM
  omega
