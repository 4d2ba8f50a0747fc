/-! the class's cells -/
def CRr (h : Hp) : Prop := hR h 6 0 = 7 ∧ hR h 6 2 = 8 ∧ hR h 6 7 = 26 ∧ hR h 6 8 = 28 ∧ hR h 6 9 = 30 ∧ hR h 6 10 = 32 ∧ hR h 6 11 = 41 ∧ hR h 6 12 = 42 ∧ hR h 6 13 = 43 ∧ hR h 6 14 = 60 ∧ hR h 6 15 = 64 ∧ hR h 6 16 = 68 ∧ hR h 6 17 = 70 ∧ hR h 6 18 = 71 ∧ hR h 8 0 = 9 ∧ hR h 8 1 = 11 ∧ hR h 11 0 = 12 ∧ hR h 11 1 = 13 ∧ hR h 60 0 = 61 ∧ hR h 60 1 = 62 ∧ hR h 60 4 = 63 ∧ hR h 64 0 = 65 ∧ hR h 64 3 = 66 ∧ hR h 64 4 = 67 ∧ hR h 68 0 = 69 ∧ hR h 41 0 = 44 ∧ hR h 41 1 = 52 ∧ hR h 42 0 = 50 ∧ hR h 42 1 = 58
def CRk (h : Hp) : Prop := sK h 6 = 10 ∧ sK h 7 = 22 ∧ sK h 8 = 5 ∧ sK h 9 = 6 ∧ sK h 11 = 3 ∧ sK h 12 = 20 ∧ sK h 13 = 20 ∧ sK h 32 = 24 ∧ sK h 41 = 25 ∧ sK h 42 = 26 ∧ sK h 43 = 23 ∧ sK h 60 = 2 ∧ sK h 61 = 20 ∧ sK h 62 = 20 ∧ sK h 63 = 20 ∧ sK h 64 = 4 ∧ sK h 65 = 20 ∧ sK h 66 = 20 ∧ sK h 67 = 20 ∧ sK h 68 = 8 ∧ sK h 69 = 20 ∧ sK h 70 = 20 ∧ sK h 71 = 20
def CRn (h : Hp) : Prop := sN h 6 = 19 ∧ sN h 7 = 900 ∧ sN h 8 = 2 ∧ sN h 9 = 8 ∧ sN h 11 = 4 ∧ sN h 12 = 900 ∧ sN h 13 = 64 ∧ sN h 32 = 4 ∧ sN h 41 = 2 ∧ sN h 42 = 2 ∧ sN h 43 = 2 ∧ sN h 60 = 8 ∧ sN h 61 = 1728 ∧ sN h 62 = 13 ∧ sN h 63 = 12 ∧ sN h 64 = 5 ∧ sN h 65 = 12 ∧ sN h 66 = 144 ∧ sN h 67 = 13 ∧ sN h 68 = 3 ∧ sN h 69 = 144 ∧ sN h 70 = 3456 ∧ sN h 71 = 8
/-- a tray at q: its places lie behind it -/
def TrAt (h : Hp) (q : Nat) : Prop := sK h q = 7 ∧ hR h q 0 = q + 1 ∧ sK h (q + 1) = 21 ∧ sN h (q + 1) = 40
/-- the class is where it is; w: the window told -/
def CR (h : Hp) (w : Nat) : Prop := (w = 14 ∨ w = 20) ∧ (hR h 6 5 = w ∧ hR h 6 6 = 34 - w) ∧ CRr h ∧ CRk h ∧ CRn h ∧ (∀ t, t < 4 → hR h 32 t = 33 + 2 * t ∧ TrAt h (33 + 2 * t)) ∧ (WinAt h 14 ∧ WinAt h 20 ∧ WinAt h 44 ∧ WinAt h 52) ∧ (HangAt h 26 ∧ HangAt h 28 ∧ HangAt h 50 ∧ HangAt h 58) ∧ HisAt h
theorem CR.wd {h : Hp} {w : Nat} (c : CR h w) : w = 14 ∨ w = 20 := c.1
theorem CR.r5 {h : Hp} {w : Nat} (c : CR h w) : hR h 6 5 = w := c.2.1.1
theorem CR.r6 {h : Hp} {w : Nat} (c : CR h w) : hR h 6 6 = 34 - w := c.2.1.2
theorem CR.r0 {h : Hp} {w : Nat} (c : CR h w) : hR h 6 0 = 7 := c.2.2.1.1
theorem CR.r2 {h : Hp} {w : Nat} (c : CR h w) : hR h 6 2 = 8 := c.2.2.1.2.1
theorem CR.r7 {h : Hp} {w : Nat} (c : CR h w) : hR h 6 7 = 26 := c.2.2.1.2.2.1
theorem CR.r8 {h : Hp} {w : Nat} (c : CR h w) : hR h 6 8 = 28 := c.2.2.1.2.2.2.1
theorem CR.r9 {h : Hp} {w : Nat} (c : CR h w) : hR h 6 9 = 30 := c.2.2.1.2.2.2.2.1
theorem CR.r10 {h : Hp} {w : Nat} (c : CR h w) : hR h 6 10 = 32 := c.2.2.1.2.2.2.2.2.1
theorem CR.r11 {h : Hp} {w : Nat} (c : CR h w) : hR h 6 11 = 41 := c.2.2.1.2.2.2.2.2.2.1
theorem CR.r12 {h : Hp} {w : Nat} (c : CR h w) : hR h 6 12 = 42 := c.2.2.1.2.2.2.2.2.2.2.1
theorem CR.r13 {h : Hp} {w : Nat} (c : CR h w) : hR h 6 13 = 43 := c.2.2.1.2.2.2.2.2.2.2.2.1
theorem CR.r14 {h : Hp} {w : Nat} (c : CR h w) : hR h 6 14 = 60 := c.2.2.1.2.2.2.2.2.2.2.2.2.1
theorem CR.r15 {h : Hp} {w : Nat} (c : CR h w) : hR h 6 15 = 64 := c.2.2.1.2.2.2.2.2.2.2.2.2.2.1
theorem CR.r16 {h : Hp} {w : Nat} (c : CR h w) : hR h 6 16 = 68 := c.2.2.1.2.2.2.2.2.2.2.2.2.2.2.1
theorem CR.r17 {h : Hp} {w : Nat} (c : CR h w) : hR h 6 17 = 70 := c.2.2.1.2.2.2.2.2.2.2.2.2.2.2.2.1
theorem CR.r18 {h : Hp} {w : Nat} (c : CR h w) : hR h 6 18 = 71 := c.2.2.1.2.2.2.2.2.2.2.2.2.2.2.2.2.1
theorem CR.r8_0 {h : Hp} {w : Nat} (c : CR h w) : hR h 8 0 = 9 := c.2.2.1.2.2.2.2.2.2.2.2.2.2.2.2.2.2.1
theorem CR.r8_1 {h : Hp} {w : Nat} (c : CR h w) : hR h 8 1 = 11 := c.2.2.1.2.2.2.2.2.2.2.2.2.2.2.2.2.2.2.1
theorem CR.r11_0 {h : Hp} {w : Nat} (c : CR h w) : hR h 11 0 = 12 := c.2.2.1.2.2.2.2.2.2.2.2.2.2.2.2.2.2.2.2.1
theorem CR.r11_1 {h : Hp} {w : Nat} (c : CR h w) : hR h 11 1 = 13 := c.2.2.1.2.2.2.2.2.2.2.2.2.2.2.2.2.2.2.2.2.1
theorem CR.r60_0 {h : Hp} {w : Nat} (c : CR h w) : hR h 60 0 = 61 := c.2.2.1.2.2.2.2.2.2.2.2.2.2.2.2.2.2.2.2.2.2.1
theorem CR.r60_1 {h : Hp} {w : Nat} (c : CR h w) : hR h 60 1 = 62 := c.2.2.1.2.2.2.2.2.2.2.2.2.2.2.2.2.2.2.2.2.2.2.1
theorem CR.r60_4 {h : Hp} {w : Nat} (c : CR h w) : hR h 60 4 = 63 := c.2.2.1.2.2.2.2.2.2.2.2.2.2.2.2.2.2.2.2.2.2.2.2.1
theorem CR.r64_0 {h : Hp} {w : Nat} (c : CR h w) : hR h 64 0 = 65 := c.2.2.1.2.2.2.2.2.2.2.2.2.2.2.2.2.2.2.2.2.2.2.2.2.1
theorem CR.r64_3 {h : Hp} {w : Nat} (c : CR h w) : hR h 64 3 = 66 := c.2.2.1.2.2.2.2.2.2.2.2.2.2.2.2.2.2.2.2.2.2.2.2.2.2.1
theorem CR.r64_4 {h : Hp} {w : Nat} (c : CR h w) : hR h 64 4 = 67 := c.2.2.1.2.2.2.2.2.2.2.2.2.2.2.2.2.2.2.2.2.2.2.2.2.2.2.1
theorem CR.r68_0 {h : Hp} {w : Nat} (c : CR h w) : hR h 68 0 = 69 := c.2.2.1.2.2.2.2.2.2.2.2.2.2.2.2.2.2.2.2.2.2.2.2.2.2.2.2.1
theorem CR.r41_0 {h : Hp} {w : Nat} (c : CR h w) : hR h 41 0 = 44 := c.2.2.1.2.2.2.2.2.2.2.2.2.2.2.2.2.2.2.2.2.2.2.2.2.2.2.2.2.1
theorem CR.r41_1 {h : Hp} {w : Nat} (c : CR h w) : hR h 41 1 = 52 := c.2.2.1.2.2.2.2.2.2.2.2.2.2.2.2.2.2.2.2.2.2.2.2.2.2.2.2.2.2.1
theorem CR.r42_0 {h : Hp} {w : Nat} (c : CR h w) : hR h 42 0 = 50 := c.2.2.1.2.2.2.2.2.2.2.2.2.2.2.2.2.2.2.2.2.2.2.2.2.2.2.2.2.2.2.1
theorem CR.r42_1 {h : Hp} {w : Nat} (c : CR h w) : hR h 42 1 = 58 := c.2.2.1.2.2.2.2.2.2.2.2.2.2.2.2.2.2.2.2.2.2.2.2.2.2.2.2.2.2.2.2
theorem CR.k6 {h : Hp} {w : Nat} (c : CR h w) : sK h 6 = 10 := c.2.2.2.1.1
theorem CR.k7 {h : Hp} {w : Nat} (c : CR h w) : sK h 7 = 22 := c.2.2.2.1.2.1
theorem CR.k8 {h : Hp} {w : Nat} (c : CR h w) : sK h 8 = 5 := c.2.2.2.1.2.2.1
theorem CR.k9 {h : Hp} {w : Nat} (c : CR h w) : sK h 9 = 6 := c.2.2.2.1.2.2.2.1
theorem CR.k11 {h : Hp} {w : Nat} (c : CR h w) : sK h 11 = 3 := c.2.2.2.1.2.2.2.2.1
theorem CR.k12 {h : Hp} {w : Nat} (c : CR h w) : sK h 12 = 20 := c.2.2.2.1.2.2.2.2.2.1
theorem CR.k13 {h : Hp} {w : Nat} (c : CR h w) : sK h 13 = 20 := c.2.2.2.1.2.2.2.2.2.2.1
theorem CR.k32 {h : Hp} {w : Nat} (c : CR h w) : sK h 32 = 24 := c.2.2.2.1.2.2.2.2.2.2.2.1
theorem CR.k41 {h : Hp} {w : Nat} (c : CR h w) : sK h 41 = 25 := c.2.2.2.1.2.2.2.2.2.2.2.2.1
theorem CR.k42 {h : Hp} {w : Nat} (c : CR h w) : sK h 42 = 26 := c.2.2.2.1.2.2.2.2.2.2.2.2.2.1
theorem CR.k43 {h : Hp} {w : Nat} (c : CR h w) : sK h 43 = 23 := c.2.2.2.1.2.2.2.2.2.2.2.2.2.2.1
theorem CR.k60 {h : Hp} {w : Nat} (c : CR h w) : sK h 60 = 2 := c.2.2.2.1.2.2.2.2.2.2.2.2.2.2.2.1
theorem CR.k61 {h : Hp} {w : Nat} (c : CR h w) : sK h 61 = 20 := c.2.2.2.1.2.2.2.2.2.2.2.2.2.2.2.2.1
theorem CR.k62 {h : Hp} {w : Nat} (c : CR h w) : sK h 62 = 20 := c.2.2.2.1.2.2.2.2.2.2.2.2.2.2.2.2.2.1
theorem CR.k63 {h : Hp} {w : Nat} (c : CR h w) : sK h 63 = 20 := c.2.2.2.1.2.2.2.2.2.2.2.2.2.2.2.2.2.2.1
theorem CR.k64 {h : Hp} {w : Nat} (c : CR h w) : sK h 64 = 4 := c.2.2.2.1.2.2.2.2.2.2.2.2.2.2.2.2.2.2.2.1
theorem CR.k65 {h : Hp} {w : Nat} (c : CR h w) : sK h 65 = 20 := c.2.2.2.1.2.2.2.2.2.2.2.2.2.2.2.2.2.2.2.2.1
theorem CR.k66 {h : Hp} {w : Nat} (c : CR h w) : sK h 66 = 20 := c.2.2.2.1.2.2.2.2.2.2.2.2.2.2.2.2.2.2.2.2.2.1
theorem CR.k67 {h : Hp} {w : Nat} (c : CR h w) : sK h 67 = 20 := c.2.2.2.1.2.2.2.2.2.2.2.2.2.2.2.2.2.2.2.2.2.2.1
theorem CR.k68 {h : Hp} {w : Nat} (c : CR h w) : sK h 68 = 8 := c.2.2.2.1.2.2.2.2.2.2.2.2.2.2.2.2.2.2.2.2.2.2.2.1
theorem CR.k69 {h : Hp} {w : Nat} (c : CR h w) : sK h 69 = 20 := c.2.2.2.1.2.2.2.2.2.2.2.2.2.2.2.2.2.2.2.2.2.2.2.2.1
theorem CR.k70 {h : Hp} {w : Nat} (c : CR h w) : sK h 70 = 20 := c.2.2.2.1.2.2.2.2.2.2.2.2.2.2.2.2.2.2.2.2.2.2.2.2.2.1
theorem CR.k71 {h : Hp} {w : Nat} (c : CR h w) : sK h 71 = 20 := c.2.2.2.1.2.2.2.2.2.2.2.2.2.2.2.2.2.2.2.2.2.2.2.2.2.2
theorem CR.n6 {h : Hp} {w : Nat} (c : CR h w) : sN h 6 = 19 := c.2.2.2.2.1.1
theorem CR.n7 {h : Hp} {w : Nat} (c : CR h w) : sN h 7 = 900 := c.2.2.2.2.1.2.1
theorem CR.n8 {h : Hp} {w : Nat} (c : CR h w) : sN h 8 = 2 := c.2.2.2.2.1.2.2.1
theorem CR.n9 {h : Hp} {w : Nat} (c : CR h w) : sN h 9 = 8 := c.2.2.2.2.1.2.2.2.1
theorem CR.n11 {h : Hp} {w : Nat} (c : CR h w) : sN h 11 = 4 := c.2.2.2.2.1.2.2.2.2.1
theorem CR.n12 {h : Hp} {w : Nat} (c : CR h w) : sN h 12 = 900 := c.2.2.2.2.1.2.2.2.2.2.1
theorem CR.n13 {h : Hp} {w : Nat} (c : CR h w) : sN h 13 = 64 := c.2.2.2.2.1.2.2.2.2.2.2.1
theorem CR.n32 {h : Hp} {w : Nat} (c : CR h w) : sN h 32 = 4 := c.2.2.2.2.1.2.2.2.2.2.2.2.1
theorem CR.n41 {h : Hp} {w : Nat} (c : CR h w) : sN h 41 = 2 := c.2.2.2.2.1.2.2.2.2.2.2.2.2.1
theorem CR.n42 {h : Hp} {w : Nat} (c : CR h w) : sN h 42 = 2 := c.2.2.2.2.1.2.2.2.2.2.2.2.2.2.1
theorem CR.n43 {h : Hp} {w : Nat} (c : CR h w) : sN h 43 = 2 := c.2.2.2.2.1.2.2.2.2.2.2.2.2.2.2.1
theorem CR.n60 {h : Hp} {w : Nat} (c : CR h w) : sN h 60 = 8 := c.2.2.2.2.1.2.2.2.2.2.2.2.2.2.2.2.1
theorem CR.n61 {h : Hp} {w : Nat} (c : CR h w) : sN h 61 = 1728 := c.2.2.2.2.1.2.2.2.2.2.2.2.2.2.2.2.2.1
theorem CR.n62 {h : Hp} {w : Nat} (c : CR h w) : sN h 62 = 13 := c.2.2.2.2.1.2.2.2.2.2.2.2.2.2.2.2.2.2.1
theorem CR.n63 {h : Hp} {w : Nat} (c : CR h w) : sN h 63 = 12 := c.2.2.2.2.1.2.2.2.2.2.2.2.2.2.2.2.2.2.2.1
theorem CR.n64 {h : Hp} {w : Nat} (c : CR h w) : sN h 64 = 5 := c.2.2.2.2.1.2.2.2.2.2.2.2.2.2.2.2.2.2.2.2.1
theorem CR.n65 {h : Hp} {w : Nat} (c : CR h w) : sN h 65 = 12 := c.2.2.2.2.1.2.2.2.2.2.2.2.2.2.2.2.2.2.2.2.2.1
theorem CR.n66 {h : Hp} {w : Nat} (c : CR h w) : sN h 66 = 144 := c.2.2.2.2.1.2.2.2.2.2.2.2.2.2.2.2.2.2.2.2.2.2.1
theorem CR.n67 {h : Hp} {w : Nat} (c : CR h w) : sN h 67 = 13 := c.2.2.2.2.1.2.2.2.2.2.2.2.2.2.2.2.2.2.2.2.2.2.2.1
theorem CR.n68 {h : Hp} {w : Nat} (c : CR h w) : sN h 68 = 3 := c.2.2.2.2.1.2.2.2.2.2.2.2.2.2.2.2.2.2.2.2.2.2.2.2.1
theorem CR.n69 {h : Hp} {w : Nat} (c : CR h w) : sN h 69 = 144 := c.2.2.2.2.1.2.2.2.2.2.2.2.2.2.2.2.2.2.2.2.2.2.2.2.2.1
theorem CR.n70 {h : Hp} {w : Nat} (c : CR h w) : sN h 70 = 3456 := c.2.2.2.2.1.2.2.2.2.2.2.2.2.2.2.2.2.2.2.2.2.2.2.2.2.2.1
theorem CR.n71 {h : Hp} {w : Nat} (c : CR h w) : sN h 71 = 8 := c.2.2.2.2.1.2.2.2.2.2.2.2.2.2.2.2.2.2.2.2.2.2.2.2.2.2.2
theorem CR.tr {h : Hp} {w : Nat} (c : CR h w) {t : Nat} (ht : t < 4) : hR h 32 t = 33 + 2 * t := (c.2.2.2.2.2.1 t ht).1
theorem CR.tk {h : Hp} {w : Nat} (c : CR h w) {t : Nat} (ht : t < 4) : TrAt h (33 + 2 * t) := (c.2.2.2.2.2.1 t ht).2
theorem CR.w14 {h : Hp} {w : Nat} (c : CR h w) : WinAt h 14 := c.2.2.2.2.2.2.1.1
theorem CR.w20 {h : Hp} {w : Nat} (c : CR h w) : WinAt h 20 := c.2.2.2.2.2.2.1.2.1
theorem CR.w44 {h : Hp} {w : Nat} (c : CR h w) : WinAt h 44 := c.2.2.2.2.2.2.1.2.2.1
theorem CR.w52 {h : Hp} {w : Nat} (c : CR h w) : WinAt h 52 := c.2.2.2.2.2.2.1.2.2.2
theorem CR.a26 {h : Hp} {w : Nat} (c : CR h w) : HangAt h 26 := c.2.2.2.2.2.2.2.1.1
theorem CR.a28 {h : Hp} {w : Nat} (c : CR h w) : HangAt h 28 := c.2.2.2.2.2.2.2.1.2.1
theorem CR.a50 {h : Hp} {w : Nat} (c : CR h w) : HangAt h 50 := c.2.2.2.2.2.2.2.1.2.2.1
theorem CR.a58 {h : Hp} {w : Nat} (c : CR h w) : HangAt h 58 := c.2.2.2.2.2.2.2.1.2.2.2
theorem CR.his {h : Hp} {w : Nat} (c : CR h w) : HisAt h := c.2.2.2.2.2.2.2.2
theorem CR.ww {h : Hp} {w : Nat} (c : CR h w) : WinAt h w := by
  rcases c.wd with e | e
  · rw [e]; exact c.w14
  · rw [e]; exact c.w20
theorem CR.fr {h h' : Hp} {w : Nat} (c : CR h w) {p : Nat → Nat → Prop} (f : Fr p h h') : CR h' w := by
  obtain ⟨c1, c2, c3, c4, c5, c6, c7, c8, c9⟩ := c
  refine ⟨c1, ?_, ?_, ?_, ?_, fun t ht => ?_, ⟨c7.1.fr f, c7.2.1.fr f, c7.2.2.1.fr f, c7.2.2.2.fr f⟩, ⟨c8.1.fr f, c8.2.1.fr f, c8.2.2.1.fr f, c8.2.2.2.fr f⟩, c9.fr f⟩
  · simp only [f.R]; exact c2
  · unfold CRr at *; simp only [f.R]; exact c3
  · unfold CRk at *; simp only [f.K]; exact c4
  · unfold CRn at *; simp only [f.N]; exact c5
  · obtain ⟨q1, q2⟩ := c6 t ht
    refine ⟨by rw [f.R]; exact q1, ?_⟩
    unfold TrAt at *
    simp only [f.R, f.K, f.N]
    exact q2
/-! trays: sorts (-1: missing), how many, numbers (40 a tray) -/
def TV (h : Hp) (rs rm nb : Int → Int) : Prop := (∀ t : Nat, t < 4 → (rs t = -1 → hI h (33 + 2 * t) 2 = -1) ∧ (¬ rs t = -1 → hI h (33 + 2 * t) 2 = rm t ∧ hI h (33 + 2 * t) 1 = rs t ∧ (∀ k : Nat, (k : Int) < rm t → hL h (34 + 2 * t) k = nb (40 * t + k))))
def TG (rs rm nb : Int → Int) : Prop := (∀ t, 0 ≤ t → t < 4 → -1 ≤ rs t ∧ rs t ≤ 3 ∧ 0 ≤ rm t ∧ rm t ≤ 40) ∧ (∀ k, -9223372036854775808 ≤ nb k ∧ nb k ≤ 9223372036854775807)
def MT (h : Hp) (rs rm nb : Int → Int) : Prop := (∀ k : Nat, hI h 87 k = rs k) ∧ (∀ k : Nat, hI h 88 k = rm k) ∧ (∀ k : Nat, hL h 89 k = nb k)
/-- why a tray can't be taken -/
def noT (rs : Int → Int) (t : Int) : Int := if ¬ (0 ≤ t ∧ t < 4) then -2 else if rs t = -1 then -6 else 0
theorem m_noTray {d : Nat} {h : Hp} {rs rm nb : Int → Int} (hm : MR h) (mt : MT h rs rm nb) (tg : TG rs rm nb) {t : Int} (rt : -2147483648 ≤ t ∧ t ≤ 2147483647) : cal (d+2) m_Mod_noTray [.inr (.inr (72)), .inl (t)] (h) = some (.inl (noT rs t), h) := by
  show EX (d+1) m_Mod_noTray 0 [(0, .inr (.inr (72))), (1, .inl (t))] [] (h) = _
  unfold noT
  by_cases c : 0 ≤ t ∧ t < 4
  · have g := tg.1 t c.1 c.2
    simp (disch := omega) only [Mod_noTray_0, Mod_noTray_9, Mod_noTray_12, Mod_noTray_17, Mod_noTray_27, Mod_noTray_32, Mod_noTray_33, wr_id, ix_id, okx, if_pos, if_neg, Int.toNat_of_nonneg, bak_v, bak_n, wr_b01, wr_bt, b01_or, b01_0, b01_1, lc_lt0, lc_gt0, lc_eq0, wl_wr, wr_wr, wl_id, true_and, and_true, true_or, or_true, not_true_eq_false, not_false_eq_true, nc0, nc1, nc2, nc3, nc4, nc5, nc6, nc7, nc8, nc9, nc10, nc11, nc12, nc13, nc14, nc15, nc16, nc17, nc18, nc19, nc20, nc21, nc22, nc23, nc35, nc47, nc59, nc60, nc61, nc73, nc74, nc214, nc215, nc1115, nc2230, nc3345, if_true, if_false, Int.reduceToNat, hm.k, hm.r1, hm.r2, hm.r3, hm.r4, hm.r15, hm.r16, hm.r19, hm.r23, hm.r24, hm.r25, hm.r26, hm.r29, hm.r30, hm.r31, hm.r33, hm.r34, hm.r35, hm.k73, hm.k74, hm.k75, hm.k76, hm.k77, hm.k78, hm.k79, hm.k80, hm.k81, hm.k82, hm.k83, hm.k84, hm.k85, hm.k86, hm.k87, hm.k88, hm.k89, hm.n73, hm.n74, hm.n75, hm.n76, hm.n77, hm.n78, hm.n79, hm.n80, hm.n81, hm.n82, hm.n83, hm.n84, hm.n85, hm.n86, hm.n87, hm.n88, hm.n89, m_within, mt.1]
    by_cases e : rs t = -1 <;> simp [e]
  · simp (disch := omega) only [Mod_noTray_0, Mod_noTray_9, Mod_noTray_12, Mod_noTray_17, Mod_noTray_27, Mod_noTray_32, Mod_noTray_33, wr_id, ix_id, okx, if_pos, if_neg, Int.toNat_of_nonneg, bak_v, bak_n, wr_b01, wr_bt, b01_or, b01_0, b01_1, lc_lt0, lc_gt0, lc_eq0, wl_wr, wr_wr, wl_id, true_and, and_true, true_or, or_true, not_true_eq_false, not_false_eq_true, nc0, nc1, nc2, nc3, nc4, nc5, nc6, nc7, nc8, nc9, nc10, nc11, nc12, nc13, nc14, nc15, nc16, nc17, nc18, nc19, nc20, nc21, nc22, nc23, nc35, nc47, nc59, nc60, nc61, nc73, nc74, nc214, nc215, nc1115, nc2230, nc3345, if_true, if_false, Int.reduceToNat, hm.k, hm.r1, hm.r2, hm.r3, hm.r4, hm.r15, hm.r16, hm.r19, hm.r23, hm.r24, hm.r25, hm.r26, hm.r29, hm.r30, hm.r31, hm.r33, hm.r34, hm.r35, hm.k73, hm.k74, hm.k75, hm.k76, hm.k77, hm.k78, hm.k79, hm.k80, hm.k81, hm.k82, hm.k83, hm.k84, hm.k85, hm.k86, hm.k87, hm.k88, hm.k89, hm.n73, hm.n74, hm.n75, hm.n76, hm.n77, hm.n78, hm.n79, hm.n80, hm.n81, hm.n82, hm.n83, hm.n84, hm.n85, hm.n86, hm.n87, hm.n88, hm.n89, m_within]
theorem c_isTray {d : Nat} {h : Hp} {t : Int} (rt : -2147483648 ≤ t ∧ t ≤ 2147483647) : cal (d+1) m_Hook_isTray [.inl (t)] (h) = some (.inl (b01 (0 ≤ t ∧ t < 4)), h) := by
  show EX (d) m_Hook_isTray 0 [(0, .inl (t))] [] (h) = _
  simp (disch := omega) only [Hook_isTray_0, Hook_isTray_4, Hook_isTray_9, Hook_isTray_13, Hook_isTray_14, wr_id, ix_id, okx, if_pos, if_neg, Int.toNat_of_nonneg, bak_v, bak_n, wr_b01, wr_bt, b01_or, b01_0, b01_1, lc_lt0, lc_gt0, lc_eq0, wl_wr, wr_wr, wl_id, true_and, and_true, true_or, or_true, not_true_eq_false, not_false_eq_true, nc0, nc1, nc2, nc3, nc4, nc5, nc6, nc7, nc8, nc9, nc10, nc11, nc12, nc13, nc14, nc15, nc16, nc17, nc18, nc19, nc20, nc21, nc22, nc23, nc35, nc47, nc59, nc60, nc61, nc73, nc74, nc214, nc215, nc1115, nc2230, nc3345, if_true, if_false, Int.reduceToNat, b01]
  by_cases h1 : t < 0 <;> by_cases h2 : t < 4 <;> simp [h1, h2] <;> omega
theorem c_isMissing {d w : Nat} {h : Hp} {rs rm nb : Int → Int} (hc : CR h w) (tv : TV h rs rm nb) (tg : TG rs rm nb) {t : Nat} (ht : t < 4) : cal (d+1) m_Tray_isMissing [.inr (.inr (33 + 2 * t))] (h) = some (.inl (b01 (rs t = -1)), h) := by
  show EX (d) m_Tray_isMissing 0 [(0, .inr (.inr (33 + 2 * t)))] [] (h) = _
  have tk := hc.tk ht
  have g := tg.1 t (by omega) (by omega)
  have v := tv t ht
  by_cases e : rs t = -1
  · simp (disch := omega) only [Tray_isMissing_0, Tray_isMissing_8, Tray_isMissing_12, Tray_isMissing_13, wr_id, ix_id, okx, if_pos, if_neg, Int.toNat_of_nonneg, bak_v, bak_n, wr_b01, wr_bt, b01_or, b01_0, b01_1, lc_lt0, lc_gt0, lc_eq0, wl_wr, wr_wr, wl_id, true_and, and_true, true_or, or_true, not_true_eq_false, not_false_eq_true, nc0, nc1, nc2, nc3, nc4, nc5, nc6, nc7, nc8, nc9, nc10, nc11, nc12, nc13, nc14, nc15, nc16, nc17, nc18, nc19, nc20, nc21, nc22, nc23, nc35, nc47, nc59, nc60, nc61, nc73, nc74, nc214, nc215, nc1115, nc2230, nc3345, if_true, if_false, Int.reduceToNat, tk.1, v.1 e, b01, e]
  · have v2 := (v.2 e).1
    simp (disch := omega) only [Tray_isMissing_0, Tray_isMissing_8, Tray_isMissing_12, Tray_isMissing_13, wr_id, ix_id, okx, if_pos, if_neg, Int.toNat_of_nonneg, bak_v, bak_n, wr_b01, wr_bt, b01_or, b01_0, b01_1, lc_lt0, lc_gt0, lc_eq0, wl_wr, wr_wr, wl_id, true_and, and_true, true_or, or_true, not_true_eq_false, not_false_eq_true, nc0, nc1, nc2, nc3, nc4, nc5, nc6, nc7, nc8, nc9, nc10, nc11, nc12, nc13, nc14, nc15, nc16, nc17, nc18, nc19, nc20, nc21, nc22, nc23, nc35, nc47, nc59, nc60, nc61, nc73, nc74, nc214, nc215, nc1115, nc2230, nc3345, if_true, if_false, Int.reduceToNat, tk.1, v2, b01]
theorem c_trayCode {d w : Nat} {h : Hp} {rs rm nb : Int → Int} (hc : CR h w) (tv : TV h rs rm nb) (tg : TG rs rm nb) {t : Int} (rt : -2147483648 ≤ t ∧ t ≤ 2147483647) : cal (d+2) m_Hook_trayCode [.inr (.inr (6)), .inl (t)] (h) = some (.inl (noT rs t), h) := by
  show EX (d+1) m_Hook_trayCode 0 [(0, .inr (.inr (6))), (1, .inl (t))] [] (h) = _
  unfold noT
  by_cases c : 0 ≤ t ∧ t < 4
  · have tk := hc.tk (t := t.toNat) (by omega)
    have e1 := c_isMissing (d := d) hc tv tg (t := t.toNat) (by omega)
    have e2 := hc.tr (t := t.toNat) (by omega)
    rw [Int.toNat_of_nonneg c.1] at e1
    simp (disch := omega) only [Hook_trayCode_0, Hook_trayCode_4, Hook_trayCode_7, Hook_trayCode_10, Hook_trayCode_19, Hook_trayCode_22, Hook_trayCode_27, Hook_trayCode_28, wr_id, ix_id, okx, if_pos, if_neg, Int.toNat_of_nonneg, bak_v, bak_n, wr_b01, wr_bt, b01_or, b01_0, b01_1, lc_lt0, lc_gt0, lc_eq0, wl_wr, wr_wr, wl_id, true_and, and_true, true_or, or_true, not_true_eq_false, not_false_eq_true, nc0, nc1, nc2, nc3, nc4, nc5, nc6, nc7, nc8, nc9, nc10, nc11, nc12, nc13, nc14, nc15, nc16, nc17, nc18, nc19, nc20, nc21, nc22, nc23, nc35, nc47, nc59, nc60, nc61, nc73, nc74, nc214, nc215, nc1115, nc2230, nc3345, if_true, if_false, Int.reduceToNat, c_isTray, hc.k6, hc.r10, hc.k32, hc.n32, e2, tk.1, e1, nc4]
    by_cases e : rs t = -1 <;> simp [e]
  · simp (disch := omega) only [Hook_trayCode_0, Hook_trayCode_4, Hook_trayCode_7, Hook_trayCode_10, Hook_trayCode_19, Hook_trayCode_22, Hook_trayCode_27, Hook_trayCode_28, wr_id, ix_id, okx, if_pos, if_neg, Int.toNat_of_nonneg, bak_v, bak_n, wr_b01, wr_bt, b01_or, b01_0, b01_1, lc_lt0, lc_gt0, lc_eq0, wl_wr, wr_wr, wl_id, true_and, and_true, true_or, or_true, not_true_eq_false, not_false_eq_true, nc0, nc1, nc2, nc3, nc4, nc5, nc6, nc7, nc8, nc9, nc10, nc11, nc12, nc13, nc14, nc15, nc16, nc17, nc18, nc19, nc20, nc21, nc22, nc23, nc35, nc47, nc59, nc60, nc61, nc73, nc74, nc214, nc215, nc1115, nc2230, nc3345, if_true, if_false, Int.reduceToNat, c_isTray]
/-- a number cut to its sort -/
def cutV (s v : Int) : Int := if s = 0 then wr (bI2b v) else if s = 1 then wr (bI2s v) else if s = 2 then wr v else v
theorem cutV_rng {s v : Int} (hv : -9223372036854775808 ≤ v ∧ v ≤ 9223372036854775807) : -9223372036854775808 ≤ cutV s v ∧ cutV s v ≤ 9223372036854775807 := by
  have h1 := wr_rng (bI2b v)
  have h2 := wr_rng (bI2s v)
  have h3 := wr_rng v
  unfold cutV
  repeat' split
  all_goals omega
theorem m_cut {d : Nat} {h : Hp} {s v : Int} (hs : 0 ≤ s ∧ s ≤ 3) : cal (d+1) m_Mod_cut [.inr (.inl (v)), .inl (s)] (h) = some (.inr (.inl (cutV s v)), h) := by
  show EX (d) m_Mod_cut 0 [(0, .inr (.inl (v))), (2, .inl (s))] [] (h) = _
  simp (disch := omega) only [Mod_cut_0, Mod_cut_4, Mod_cut_11, Mod_cut_16, Mod_cut_23, Mod_cut_28, Mod_cut_34, Mod_cut_35, wr_id, cutV]
  repeat' split
  all_goals rfl
theorem c_cut {d q : Nat} {h : Hp} {s v : Int} (hq : sK h q = 7) (h1 : hI h q 1 = s) (hs : 0 ≤ s ∧ s ≤ 3) : cal (d+1) m_Tray_cut [.inr (.inr (q)), .inr (.inl (v))] (h) = some (.inr (.inl (cutV s v)), h) := by
  show EX (d) m_Tray_cut 0 [(0, .inr (.inr (q))), (1, .inr (.inl (v)))] [] (h) = _
  simp (disch := omega) only [Tray_cut_0, Tray_cut_32, Tray_cut_37, Tray_cut_42, Tray_cut_46, wr_id, cutV, hq, h1, if_true]
  repeat' split
  all_goals rfl
theorem c_at {d w : Nat} {h : Hp} {rs rm nb : Int → Int} (hc : CR h w) (tv : TV h rs rm nb) (tg : TG rs rm nb) {t : Nat} (ht : t < 4) (hm : ¬ rs t = -1) {i : Int} (hi : 0 ≤ i ∧ i < rm t) : cal (d+1) m_Tray_at [.inr (.inr (33 + 2 * t)), .inl (i)] (h) = some (.inr (.inl (nb (40 * t + i))), h) := by
  show EX (d) m_Tray_at 0 [(0, .inr (.inr (33 + 2 * t))), (1, .inl (i))] [] (h) = _
  have tk := hc.tk ht
  have g := tg.1 t (by omega) (by omega)
  have v := (tv t ht).2 hm
  have v3 := v.2.2 i.toNat (by omega)
  rw [Int.toNat_of_nonneg hi.1] at v3
  have e : 33 + 2 * t + 1 = 34 + 2 * t := by omega
  unfold TrAt at tk
  rw [e] at tk
  simp (disch := omega) only [Tray_at_0, Tray_at_4, Tray_at_12, Tray_at_21, Tray_at_22, wr_id, ix_id, okx, if_pos, if_neg, Int.toNat_of_nonneg, bak_v, bak_n, wr_b01, wr_bt, b01_or, b01_0, b01_1, lc_lt0, lc_gt0, lc_eq0, wl_wr, wr_wr, wl_id, true_and, and_true, true_or, or_true, not_true_eq_false, not_false_eq_true, nc0, nc1, nc2, nc3, nc4, nc5, nc6, nc7, nc8, nc9, nc10, nc11, nc12, nc13, nc14, nc15, nc16, nc17, nc18, nc19, nc20, nc21, nc22, nc23, nc35, nc47, nc59, nc60, nc61, nc73, nc74, nc214, nc215, nc1115, nc2230, nc3345, if_true, if_false, Int.reduceToNat, tk.1, tk.2.1, tk.2.2.1, tk.2.2.2, v.1, v3]

