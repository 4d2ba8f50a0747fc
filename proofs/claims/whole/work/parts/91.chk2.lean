set_option maxRecDepth 100000 in
theorem chk_294 : ∀ k, k < 4 → chkM (294 + k) = true := by decide +kernel
set_option maxRecDepth 100000 in
theorem chk_298 : ∀ k, k < 4 → chkM (298 + k) = true := by decide +kernel
set_option maxRecDepth 100000 in
theorem chk_302 : ∀ k, k < 3 → chkM (302 + k) = true := by decide +kernel
set_option maxRecDepth 100000 in
theorem chkl_0 : (((codeOf 305).drop 0).take 10).all (fun q => chkL 305 q.1 q.2.1 q.2.2.1) = true := by decide +kernel
set_option maxRecDepth 100000 in
theorem chkl_10 : (((codeOf 305).drop 10).take 10).all (fun q => chkL 305 q.1 q.2.1 q.2.2.1) = true := by decide +kernel
set_option maxRecDepth 100000 in
theorem chkl_20 : (((codeOf 305).drop 20).take 10).all (fun q => chkL 305 q.1 q.2.1 q.2.2.1) = true := by decide +kernel
set_option maxRecDepth 100000 in
theorem chkl_30 : (((codeOf 305).drop 30).take 10).all (fun q => chkL 305 q.1 q.2.1 q.2.2.1) = true := by decide +kernel
set_option maxRecDepth 100000 in
theorem chkl_40 : (((codeOf 305).drop 40).take 10).all (fun q => chkL 305 q.1 q.2.1 q.2.2.1) = true := by decide +kernel
set_option maxRecDepth 100000 in
theorem chkl_50 : (((codeOf 305).drop 50).take 10).all (fun q => chkL 305 q.1 q.2.1 q.2.2.1) = true := by decide +kernel
set_option maxRecDepth 100000 in
theorem chkl_60 : (((codeOf 305).drop 60).take 10).all (fun q => chkL 305 q.1 q.2.1 q.2.2.1) = true := by decide +kernel
set_option maxRecDepth 100000 in
theorem chkl_70 : (((codeOf 305).drop 70).take 10).all (fun q => chkL 305 q.1 q.2.1 q.2.2.1) = true := by decide +kernel
set_option maxRecDepth 100000 in
theorem chkl_80 : (((codeOf 305).drop 80).take 10).all (fun q => chkL 305 q.1 q.2.1 q.2.2.1) = true := by decide +kernel
set_option maxRecDepth 100000 in
theorem chkl_90 : (((codeOf 305).drop 90).take 10).all (fun q => chkL 305 q.1 q.2.1 q.2.2.1) = true := by decide +kernel
set_option maxRecDepth 100000 in
theorem chkl_100 : (((codeOf 305).drop 100).take 10).all (fun q => chkL 305 q.1 q.2.1 q.2.2.1) = true := by decide +kernel
set_option maxRecDepth 100000 in
theorem chkl_110 : (((codeOf 305).drop 110).take 10).all (fun q => chkL 305 q.1 q.2.1 q.2.2.1) = true := by decide +kernel
set_option maxRecDepth 100000 in
theorem chkl_120 : (((codeOf 305).drop 120).take 10).all (fun q => chkL 305 q.1 q.2.1 q.2.2.1) = true := by decide +kernel
set_option maxRecDepth 100000 in
theorem chkl_130 : (((codeOf 305).drop 130).take 10).all (fun q => chkL 305 q.1 q.2.1 q.2.2.1) = true := by decide +kernel
set_option maxRecDepth 100000 in
theorem chkl_140 : (((codeOf 305).drop 140).take 10).all (fun q => chkL 305 q.1 q.2.1 q.2.2.1) = true := by decide +kernel
set_option maxRecDepth 100000 in
theorem chkl_150 : (((codeOf 305).drop 150).take 10).all (fun q => chkL 305 q.1 q.2.1 q.2.2.1) = true := by decide +kernel
theorem chkl_e : (codeOf 305).drop 160 = [] := by rfl
theorem chkl_s {l : List (Nat × AB)} {f : Nat × AB → Bool} {k : Nat} (h1 : ((l.drop k).take 10).all f = true) (h2 : (l.drop (k + 10)).all f = true) : (l.drop k).all f = true := by
  have h := List.take_append_drop 10 (l.drop k)
  rw [← h, List.all_append, h1, List.drop_drop, h2]
  rfl
theorem chk_305 : ∀ k, k < 1 → chkM (305 + k) = true := fun k hk => (show k = 0 by omega) ▸ ((chkl_s (k := 0) chkl_0 (chkl_s (k := 10) chkl_10 (chkl_s (k := 20) chkl_20 (chkl_s (k := 30) chkl_30 (chkl_s (k := 40) chkl_40 (chkl_s (k := 50) chkl_50 (chkl_s (k := 60) chkl_60 (chkl_s (k := 70) chkl_70 (chkl_s (k := 80) chkl_80 (chkl_s (k := 90) chkl_90 (chkl_s (k := 100) chkl_100 (chkl_s (k := 110) chkl_110 (chkl_s (k := 120) chkl_120 (chkl_s (k := 130) chkl_130 (chkl_s (k := 140) chkl_140 (chkl_s (k := 150) chkl_150 (by rw [chkl_e]; rfl))))))))))))))))) : ((codeOf 305).drop 0).all (fun q => chkL 305 q.1 q.2.1 q.2.2.1) = true)
theorem chk_all : ∀ md, md < 306 → chkM md = true := fun md h => (rc_2 (b := 168) (rc_2 (b := 84) (rc_2 (b := 42) (rc_2 (b := 14) (chk_r chk_0) (rc_2 (b := 28) (chk_r chk_14) (chk_r chk_28))) (rc_2 (b := 56) (chk_r chk_42) (rc_2 (b := 70) (chk_r chk_56) (chk_r chk_70)))) (rc_2 (b := 126) (rc_2 (b := 98) (chk_r chk_84) (rc_2 (b := 112) (chk_r chk_98) (chk_r chk_112))) (rc_2 (b := 140) (chk_r chk_126) (rc_2 (b := 154) (chk_r chk_140) (chk_r chk_154))))) (rc_2 (b := 252) (rc_2 (b := 210) (rc_2 (b := 182) (chk_r chk_168) (rc_2 (b := 196) (chk_r chk_182) (chk_r chk_196))) (rc_2 (b := 224) (chk_r chk_210) (rc_2 (b := 238) (chk_r chk_224) (chk_r chk_238)))) (rc_2 (b := 294) (rc_2 (b := 266) (chk_r chk_252) (rc_2 (b := 280) (chk_r chk_266) (chk_r chk_280))) (rc_2 (b := 302) (rc_2 (b := 298) (chk_r chk_294) (chk_r chk_298)) (rc_2 (b := 305) (chk_r chk_302) (chk_r chk_305)))))) md (Nat.zero_le md) h
