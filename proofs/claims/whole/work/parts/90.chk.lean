/-! the whole code is checked -/
set_option maxRecDepth 100000 in
theorem chk_0 : ∀ k, k < 14 → chkM (0 + k) = true := by decide +kernel
set_option maxRecDepth 100000 in
theorem chk_14 : ∀ k, k < 14 → chkM (14 + k) = true := by decide +kernel
set_option maxRecDepth 100000 in
theorem chk_28 : ∀ k, k < 14 → chkM (28 + k) = true := by decide +kernel
set_option maxRecDepth 100000 in
theorem chk_42 : ∀ k, k < 14 → chkM (42 + k) = true := by decide +kernel
set_option maxRecDepth 100000 in
theorem chk_56 : ∀ k, k < 14 → chkM (56 + k) = true := by decide +kernel
set_option maxRecDepth 100000 in
theorem chk_70 : ∀ k, k < 14 → chkM (70 + k) = true := by decide +kernel
set_option maxRecDepth 100000 in
theorem chk_84 : ∀ k, k < 14 → chkM (84 + k) = true := by decide +kernel
set_option maxRecDepth 100000 in
theorem chk_98 : ∀ k, k < 14 → chkM (98 + k) = true := by decide +kernel
set_option maxRecDepth 100000 in
theorem chk_112 : ∀ k, k < 14 → chkM (112 + k) = true := by decide +kernel
set_option maxRecDepth 100000 in
theorem chk_126 : ∀ k, k < 14 → chkM (126 + k) = true := by decide +kernel
set_option maxRecDepth 100000 in
theorem chk_140 : ∀ k, k < 14 → chkM (140 + k) = true := by decide +kernel
set_option maxRecDepth 100000 in
theorem chk_154 : ∀ k, k < 14 → chkM (154 + k) = true := by decide +kernel
set_option maxRecDepth 100000 in
theorem chk_168 : ∀ k, k < 14 → chkM (168 + k) = true := by decide +kernel
set_option maxRecDepth 100000 in
theorem chk_182 : ∀ k, k < 14 → chkM (182 + k) = true := by decide +kernel
set_option maxRecDepth 100000 in
theorem chk_196 : ∀ k, k < 14 → chkM (196 + k) = true := by decide +kernel
set_option maxRecDepth 100000 in
theorem chk_210 : ∀ k, k < 14 → chkM (210 + k) = true := by decide +kernel
set_option maxRecDepth 100000 in
theorem chk_224 : ∀ k, k < 14 → chkM (224 + k) = true := by decide +kernel
set_option maxRecDepth 100000 in
theorem chk_238 : ∀ k, k < 14 → chkM (238 + k) = true := by decide +kernel
set_option maxRecDepth 100000 in
theorem chk_252 : ∀ k, k < 14 → chkM (252 + k) = true := by decide +kernel
set_option maxRecDepth 100000 in
theorem chk_266 : ∀ k, k < 14 → chkM (266 + k) = true := by decide +kernel
set_option maxRecDepth 100000 in
theorem chk_280 : ∀ k, k < 14 → chkM (280 + k) = true := by decide +kernel
theorem chk_r {lo n : Nat} (h : ∀ k, k < n → chkM (lo + k) = true) : ∀ md, lo ≤ md → md < lo + n → chkM md = true := fun md h1 h2 => by have := h (md - lo) (by omega); rwa [show lo + (md - lo) = md by omega] at this
