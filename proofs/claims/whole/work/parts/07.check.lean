/-! The tables' words that the code needs, and the check of the code against the class files -/
def TBL : List Jvm.Cond := lw_tbl.filter goodWord
theorem TBL_of {w : Jvm.Cond} (i : Nat) (h : tables_1[i]? = some w) (hg : goodWord w = true) : w ∈ TBL :=
  List.mem_filter.mpr ⟨List.mem_append_right _ (List.mem_of_getElem? h), hg⟩
theorem TBL_sel {w : Jvm.Cond} (i : Nat) (h : lw_tbl[i]? = some w) (hg : goodWord w = true) : w ∈ TBL :=
  List.mem_filter.mpr ⟨List.mem_of_getElem? h, hg⟩
theorem TBL_good : GoodIn TBL TBL := fun w h => ⟨h, good_of_word (List.mem_filter.mp h).2⟩
theorem cl_at : ∀ ci, ci < 12 → (vwCl[ci]? = some (clsR ci, clsT ci, nfl ci)) := by
  intro ci h
  match ci, h with
  | 0, _ => rfl
  | 1, _ => rfl
  | 2, _ => rfl
  | 3, _ => rfl
  | 4, _ => rfl
  | 5, _ => rfl
  | 6, _ => rfl
  | 7, _ => rfl
  | 8, _ => rfl
  | 9, _ => rfl
  | 10, _ => rfl
  | 11, _ => rfl
theorem cl_ty : ∀ ci, ci < 12 → ∀ k, k < nfl ci → parseFieldDescriptor (clsT ci k).2.2.1 = some (clsY ci k) := by decide +kernel
theorem cl_nm : ∀ ci, ci < 12 → ∀ a, a < nfl ci → ∀ b, b < nfl ci → a ≠ b → (clsT ci a).2.1 ≠ (clsT ci b).2.1 := by decide +kernel
theorem cl_own : ∀ ci, ci < 12 → ∀ k, k < nfl ci → (clsT ci k).1 = clsR ci := by decide +kernel
theorem cl_lay : ∀ ci, ci < 12 → ∀ k, k < nfl ci → tables_1[(clL.getD ci []).getD k 0]? = some (u_lay (clsR ci) (clsT ci) k) := by decide +kernel
theorem cl_good : ∀ ci k, goodWord (u_lay (clsR ci) (clsT ci) k) = true := by
  intro ci k
  unfold u_lay
  split <;> rfl
theorem cl_in : ∀ ci, ci < 12 → ∀ w ∈ u_ws (clsR ci) (clsT ci) (nfl ci), w ∈ TBL := by
  intro ci h w hw
  obtain ⟨k, hk, rfl⟩ := List.mem_map.mp hw
  exact TBL_of _ (cl_lay ci h k (List.mem_range.mp hk)) (cl_good ci k)
theorem cl_ins : ∀ ci, ci < 12 → tables_1[clI ci]? = some (.instantiable (clsR ci) (nfl ci)) := by decide +kernel
theorem cl_ini : ∀ ci, ci < 12 → tables_1[clN ci]? = some (.initialized (clsR ci)) := by decide +kernel
theorem cl_f : ∀ ci, ci < 12 → ∀ k, k < nfl ci → (ftyp ci k = 2 ∧ refKind (clsY ci k) = true) ∨ (ftyp ci k = 3 ∧ clsY ci k = .boolean) ∨ (ftyp ci k = 0 ∧ clsY ci k = .int) := by decide +kernel
def mCw (md : Nat) : Prop := tables_1[mP md]? = some (.code (mY md) (mB md) (mX md) (mR md))
theorem rc_1 {P : Nat → Prop} {n : Nat} (h : P n) : ∀ md, n ≤ md → md < n + 1 → P md := fun md h1 h2 => (show md = n by omega) ▸ h
theorem rc_2 {P : Nat → Prop} {a b c : Nat} (h1 : ∀ md, a ≤ md → md < b → P md) (h2 : ∀ md, b ≤ md → md < c → P md) : ∀ md, a ≤ md → md < c → P md := fun md h3 h4 => (Nat.lt_or_ge md b).elim (h1 md h3) (fun h => h2 md h h4)
set_option maxRecDepth 100000 in
theorem mc_0 : mCw 0 := by unfold mCw; rfl
set_option maxRecDepth 100000 in
theorem mc_1 : mCw 1 := by unfold mCw; rfl
set_option maxRecDepth 100000 in
theorem mc_2 : mCw 2 := by unfold mCw; rfl
set_option maxRecDepth 100000 in
theorem mc_3 : mCw 3 := by unfold mCw; rfl
set_option maxRecDepth 100000 in
theorem mc_4 : mCw 4 := by unfold mCw; rfl
set_option maxRecDepth 100000 in
theorem mc_5 : mCw 5 := by unfold mCw; rfl
set_option maxRecDepth 100000 in
theorem mc_6 : mCw 6 := by unfold mCw; rfl
set_option maxRecDepth 100000 in
theorem mc_7 : mCw 7 := by unfold mCw; rfl
set_option maxRecDepth 100000 in
theorem mc_8 : mCw 8 := by unfold mCw; rfl
set_option maxRecDepth 100000 in
theorem mc_9 : mCw 9 := by unfold mCw; rfl
set_option maxRecDepth 100000 in
theorem mc_10 : mCw 10 := by unfold mCw; rfl
set_option maxRecDepth 100000 in
theorem mc_11 : mCw 11 := by unfold mCw; rfl
set_option maxRecDepth 100000 in
theorem mc_12 : mCw 12 := by unfold mCw; rfl
set_option maxRecDepth 100000 in
theorem mc_13 : mCw 13 := by unfold mCw; rfl
set_option maxRecDepth 100000 in
theorem mc_14 : mCw 14 := by unfold mCw; rfl
set_option maxRecDepth 100000 in
theorem mc_15 : mCw 15 := by unfold mCw; rfl
set_option maxRecDepth 100000 in
theorem mc_16 : mCw 16 := by unfold mCw; rfl
set_option maxRecDepth 100000 in
theorem mc_17 : mCw 17 := by unfold mCw; rfl
set_option maxRecDepth 100000 in
theorem mc_18 : mCw 18 := by unfold mCw; rfl
set_option maxRecDepth 100000 in
theorem mc_19 : mCw 19 := by unfold mCw; rfl
set_option maxRecDepth 100000 in
theorem mc_20 : mCw 20 := by unfold mCw; rfl
set_option maxRecDepth 100000 in
theorem mc_21 : mCw 21 := by unfold mCw; rfl
set_option maxRecDepth 100000 in
theorem mc_22 : mCw 22 := by unfold mCw; rfl
set_option maxRecDepth 100000 in
theorem mc_23 : mCw 23 := by unfold mCw; rfl
set_option maxRecDepth 100000 in
theorem mc_24 : mCw 24 := by unfold mCw; rfl
set_option maxRecDepth 100000 in
theorem mc_25 : mCw 25 := by unfold mCw; rfl
set_option maxRecDepth 100000 in
theorem mc_26 : mCw 26 := by unfold mCw; rfl
set_option maxRecDepth 100000 in
theorem mc_27 : mCw 27 := by unfold mCw; rfl
set_option maxRecDepth 100000 in
theorem mc_28 : mCw 28 := by unfold mCw; rfl
set_option maxRecDepth 100000 in
theorem mc_29 : mCw 29 := by unfold mCw; rfl
set_option maxRecDepth 100000 in
theorem mc_30 : mCw 30 := by unfold mCw; rfl
set_option maxRecDepth 100000 in
theorem mc_31 : mCw 31 := by unfold mCw; rfl
set_option maxRecDepth 100000 in
theorem mc_32 : mCw 32 := by unfold mCw; rfl
set_option maxRecDepth 100000 in
theorem mc_33 : mCw 33 := by unfold mCw; rfl
set_option maxRecDepth 100000 in
theorem mc_34 : mCw 34 := by unfold mCw; rfl
set_option maxRecDepth 100000 in
theorem mc_35 : mCw 35 := by unfold mCw; rfl
set_option maxRecDepth 100000 in
theorem mc_36 : mCw 36 := by unfold mCw; rfl
set_option maxRecDepth 100000 in
theorem mc_37 : mCw 37 := by unfold mCw; rfl
set_option maxRecDepth 100000 in
theorem mc_38 : mCw 38 := by unfold mCw; rfl
set_option maxRecDepth 100000 in
theorem mc_39 : mCw 39 := by unfold mCw; rfl
set_option maxRecDepth 100000 in
theorem mc_40 : mCw 40 := by unfold mCw; rfl
set_option maxRecDepth 100000 in
theorem mc_41 : mCw 41 := by unfold mCw; rfl
set_option maxRecDepth 100000 in
theorem mc_42 : mCw 42 := by unfold mCw; rfl
set_option maxRecDepth 100000 in
theorem mc_43 : mCw 43 := by unfold mCw; rfl
set_option maxRecDepth 100000 in
theorem mc_44 : mCw 44 := by unfold mCw; rfl
set_option maxRecDepth 100000 in
theorem mc_45 : mCw 45 := by unfold mCw; rfl
set_option maxRecDepth 100000 in
theorem mc_46 : mCw 46 := by unfold mCw; rfl
set_option maxRecDepth 100000 in
theorem mc_47 : mCw 47 := by unfold mCw; rfl
set_option maxRecDepth 100000 in
theorem mc_48 : mCw 48 := by unfold mCw; rfl
set_option maxRecDepth 100000 in
theorem mc_49 : mCw 49 := by unfold mCw; rfl
set_option maxRecDepth 100000 in
theorem mc_50 : mCw 50 := by unfold mCw; rfl
set_option maxRecDepth 100000 in
theorem mc_51 : mCw 51 := by unfold mCw; rfl
set_option maxRecDepth 100000 in
theorem mc_52 : mCw 52 := by unfold mCw; rfl
set_option maxRecDepth 100000 in
theorem mc_53 : mCw 53 := by unfold mCw; rfl
set_option maxRecDepth 100000 in
theorem mc_54 : mCw 54 := by unfold mCw; rfl
set_option maxRecDepth 100000 in
theorem mc_55 : mCw 55 := by unfold mCw; rfl
set_option maxRecDepth 100000 in
theorem mc_56 : mCw 56 := by unfold mCw; rfl
set_option maxRecDepth 100000 in
theorem mc_57 : mCw 57 := by unfold mCw; rfl
set_option maxRecDepth 100000 in
theorem mc_58 : mCw 58 := by unfold mCw; rfl
set_option maxRecDepth 100000 in
theorem mc_59 : mCw 59 := by unfold mCw; rfl
set_option maxRecDepth 100000 in
theorem mc_60 : mCw 60 := by unfold mCw; rfl
set_option maxRecDepth 100000 in
theorem mc_61 : mCw 61 := by unfold mCw; rfl
set_option maxRecDepth 100000 in
theorem mc_62 : mCw 62 := by unfold mCw; rfl
set_option maxRecDepth 100000 in
theorem mc_63 : mCw 63 := by unfold mCw; rfl
set_option maxRecDepth 100000 in
theorem mc_64 : mCw 64 := by unfold mCw; rfl
set_option maxRecDepth 100000 in
theorem mc_65 : mCw 65 := by unfold mCw; rfl
set_option maxRecDepth 100000 in
theorem mc_66 : mCw 66 := by unfold mCw; rfl
set_option maxRecDepth 100000 in
theorem mc_67 : mCw 67 := by unfold mCw; rfl
set_option maxRecDepth 100000 in
theorem mc_68 : mCw 68 := by unfold mCw; rfl
set_option maxRecDepth 100000 in
theorem mc_69 : mCw 69 := by unfold mCw; rfl
set_option maxRecDepth 100000 in
theorem mc_70 : mCw 70 := by unfold mCw; rfl
set_option maxRecDepth 100000 in
theorem mc_71 : mCw 71 := by unfold mCw; rfl
set_option maxRecDepth 100000 in
theorem mc_72 : mCw 72 := by unfold mCw; rfl
set_option maxRecDepth 100000 in
theorem mc_73 : mCw 73 := by unfold mCw; rfl
set_option maxRecDepth 100000 in
theorem mc_74 : mCw 74 := by unfold mCw; rfl
set_option maxRecDepth 100000 in
theorem mc_75 : mCw 75 := by unfold mCw; rfl
set_option maxRecDepth 100000 in
theorem mc_76 : mCw 76 := by unfold mCw; rfl
set_option maxRecDepth 100000 in
theorem mc_77 : mCw 77 := by unfold mCw; rfl
set_option maxRecDepth 100000 in
theorem mc_78 : mCw 78 := by unfold mCw; rfl
set_option maxRecDepth 100000 in
theorem mc_79 : mCw 79 := by unfold mCw; rfl
set_option maxRecDepth 100000 in
theorem mc_80 : mCw 80 := by unfold mCw; rfl
set_option maxRecDepth 100000 in
theorem mc_81 : mCw 81 := by unfold mCw; rfl
set_option maxRecDepth 100000 in
theorem mc_82 : mCw 82 := by unfold mCw; rfl
set_option maxRecDepth 100000 in
theorem mc_83 : mCw 83 := by unfold mCw; rfl
set_option maxRecDepth 100000 in
theorem mc_84 : mCw 84 := by unfold mCw; rfl
set_option maxRecDepth 100000 in
theorem mc_85 : mCw 85 := by unfold mCw; rfl
set_option maxRecDepth 100000 in
theorem mc_86 : mCw 86 := by unfold mCw; rfl
set_option maxRecDepth 100000 in
theorem mc_87 : mCw 87 := by unfold mCw; rfl
set_option maxRecDepth 100000 in
theorem mc_88 : mCw 88 := by unfold mCw; rfl
set_option maxRecDepth 100000 in
theorem mc_89 : mCw 89 := by unfold mCw; rfl
set_option maxRecDepth 100000 in
theorem mc_90 : mCw 90 := by unfold mCw; rfl
set_option maxRecDepth 100000 in
theorem mc_91 : mCw 91 := by unfold mCw; rfl
set_option maxRecDepth 100000 in
theorem mc_92 : mCw 92 := by unfold mCw; rfl
set_option maxRecDepth 100000 in
theorem mc_93 : mCw 93 := by unfold mCw; rfl
set_option maxRecDepth 100000 in
theorem mc_94 : mCw 94 := by unfold mCw; rfl
set_option maxRecDepth 100000 in
theorem mc_95 : mCw 95 := by unfold mCw; rfl
set_option maxRecDepth 100000 in
theorem mc_96 : mCw 96 := by unfold mCw; rfl
set_option maxRecDepth 100000 in
theorem mc_97 : mCw 97 := by unfold mCw; rfl
set_option maxRecDepth 100000 in
theorem mc_98 : mCw 98 := by unfold mCw; rfl
set_option maxRecDepth 100000 in
theorem mc_99 : mCw 99 := by unfold mCw; rfl
set_option maxRecDepth 100000 in
theorem mc_100 : mCw 100 := by unfold mCw; rfl
set_option maxRecDepth 100000 in
theorem mc_101 : mCw 101 := by unfold mCw; rfl
set_option maxRecDepth 100000 in
theorem mc_102 : mCw 102 := by unfold mCw; rfl
set_option maxRecDepth 100000 in
theorem mc_103 : mCw 103 := by unfold mCw; rfl
set_option maxRecDepth 100000 in
theorem mc_104 : mCw 104 := by unfold mCw; rfl
set_option maxRecDepth 100000 in
theorem mc_105 : mCw 105 := by unfold mCw; rfl
set_option maxRecDepth 100000 in
theorem mc_106 : mCw 106 := by unfold mCw; rfl
set_option maxRecDepth 100000 in
theorem mc_107 : mCw 107 := by unfold mCw; rfl
set_option maxRecDepth 100000 in
theorem mc_108 : mCw 108 := by unfold mCw; rfl
set_option maxRecDepth 100000 in
theorem mc_109 : mCw 109 := by unfold mCw; rfl
set_option maxRecDepth 100000 in
theorem mc_110 : mCw 110 := by unfold mCw; rfl
set_option maxRecDepth 100000 in
theorem mc_111 : mCw 111 := by unfold mCw; rfl
set_option maxRecDepth 100000 in
theorem mc_112 : mCw 112 := by unfold mCw; rfl
set_option maxRecDepth 100000 in
theorem mc_113 : mCw 113 := by unfold mCw; rfl
set_option maxRecDepth 100000 in
theorem mc_114 : mCw 114 := by unfold mCw; rfl
set_option maxRecDepth 100000 in
theorem mc_115 : mCw 115 := by unfold mCw; rfl
set_option maxRecDepth 100000 in
theorem mc_116 : mCw 116 := by unfold mCw; rfl
set_option maxRecDepth 100000 in
theorem mc_117 : mCw 117 := by unfold mCw; rfl
set_option maxRecDepth 100000 in
theorem mc_118 : mCw 118 := by unfold mCw; rfl
set_option maxRecDepth 100000 in
theorem mc_119 : mCw 119 := by unfold mCw; rfl
set_option maxRecDepth 100000 in
theorem mc_120 : mCw 120 := by unfold mCw; rfl
set_option maxRecDepth 100000 in
theorem mc_121 : mCw 121 := by unfold mCw; rfl
set_option maxRecDepth 100000 in
theorem mc_122 : mCw 122 := by unfold mCw; rfl
set_option maxRecDepth 100000 in
theorem mc_123 : mCw 123 := by unfold mCw; rfl
set_option maxRecDepth 100000 in
theorem mc_124 : mCw 124 := by unfold mCw; rfl
set_option maxRecDepth 100000 in
theorem mc_125 : mCw 125 := by unfold mCw; rfl
set_option maxRecDepth 100000 in
theorem mc_126 : mCw 126 := by unfold mCw; rfl
set_option maxRecDepth 100000 in
theorem mc_127 : mCw 127 := by unfold mCw; rfl
set_option maxRecDepth 100000 in
theorem mc_128 : mCw 128 := by unfold mCw; rfl
set_option maxRecDepth 100000 in
theorem mc_129 : mCw 129 := by unfold mCw; rfl
set_option maxRecDepth 100000 in
theorem mc_130 : mCw 130 := by unfold mCw; rfl
set_option maxRecDepth 100000 in
theorem mc_131 : mCw 131 := by unfold mCw; rfl
set_option maxRecDepth 100000 in
theorem mc_132 : mCw 132 := by unfold mCw; rfl
set_option maxRecDepth 100000 in
theorem mc_133 : mCw 133 := by unfold mCw; rfl
set_option maxRecDepth 100000 in
theorem mc_134 : mCw 134 := by unfold mCw; rfl
set_option maxRecDepth 100000 in
theorem mc_135 : mCw 135 := by unfold mCw; rfl
set_option maxRecDepth 100000 in
theorem mc_136 : mCw 136 := by unfold mCw; rfl
set_option maxRecDepth 100000 in
theorem mc_137 : mCw 137 := by unfold mCw; rfl
set_option maxRecDepth 100000 in
theorem mc_138 : mCw 138 := by unfold mCw; rfl
set_option maxRecDepth 100000 in
theorem mc_139 : mCw 139 := by unfold mCw; rfl
set_option maxRecDepth 100000 in
theorem mc_140 : mCw 140 := by unfold mCw; rfl
set_option maxRecDepth 100000 in
theorem mc_141 : mCw 141 := by unfold mCw; rfl
set_option maxRecDepth 100000 in
theorem mc_142 : mCw 142 := by unfold mCw; rfl
set_option maxRecDepth 100000 in
theorem mc_143 : mCw 143 := by unfold mCw; rfl
set_option maxRecDepth 100000 in
theorem mc_144 : mCw 144 := by unfold mCw; rfl
set_option maxRecDepth 100000 in
theorem mc_145 : mCw 145 := by unfold mCw; rfl
set_option maxRecDepth 100000 in
theorem mc_146 : mCw 146 := by unfold mCw; rfl
set_option maxRecDepth 100000 in
theorem mc_147 : mCw 147 := by unfold mCw; rfl
set_option maxRecDepth 100000 in
theorem mc_148 : mCw 148 := by unfold mCw; rfl
set_option maxRecDepth 100000 in
theorem mc_149 : mCw 149 := by unfold mCw; rfl
set_option maxRecDepth 100000 in
theorem mc_150 : mCw 150 := by unfold mCw; rfl
set_option maxRecDepth 100000 in
theorem mc_151 : mCw 151 := by unfold mCw; rfl
set_option maxRecDepth 100000 in
theorem mc_152 : mCw 152 := by unfold mCw; rfl
set_option maxRecDepth 100000 in
theorem mc_153 : mCw 153 := by unfold mCw; rfl
set_option maxRecDepth 100000 in
theorem mc_154 : mCw 154 := by unfold mCw; rfl
set_option maxRecDepth 100000 in
theorem mc_155 : mCw 155 := by unfold mCw; rfl
set_option maxRecDepth 100000 in
theorem mc_156 : mCw 156 := by unfold mCw; rfl
set_option maxRecDepth 100000 in
theorem mc_157 : mCw 157 := by unfold mCw; rfl
set_option maxRecDepth 100000 in
theorem mc_158 : mCw 158 := by unfold mCw; rfl
set_option maxRecDepth 100000 in
theorem mc_159 : mCw 159 := by unfold mCw; rfl
set_option maxRecDepth 100000 in
theorem mc_160 : mCw 160 := by unfold mCw; rfl
set_option maxRecDepth 100000 in
theorem mc_161 : mCw 161 := by unfold mCw; rfl
set_option maxRecDepth 100000 in
theorem mc_162 : mCw 162 := by unfold mCw; rfl
set_option maxRecDepth 100000 in
theorem mc_163 : mCw 163 := by unfold mCw; rfl
set_option maxRecDepth 100000 in
theorem mc_164 : mCw 164 := by unfold mCw; rfl
set_option maxRecDepth 100000 in
theorem mc_165 : mCw 165 := by unfold mCw; rfl
set_option maxRecDepth 100000 in
theorem mc_166 : mCw 166 := by unfold mCw; rfl
set_option maxRecDepth 100000 in
theorem mc_167 : mCw 167 := by unfold mCw; rfl
set_option maxRecDepth 100000 in
theorem mc_168 : mCw 168 := by unfold mCw; rfl
set_option maxRecDepth 100000 in
theorem mc_169 : mCw 169 := by unfold mCw; rfl
set_option maxRecDepth 100000 in
theorem mc_170 : mCw 170 := by unfold mCw; rfl
set_option maxRecDepth 100000 in
theorem mc_171 : mCw 171 := by unfold mCw; rfl
set_option maxRecDepth 100000 in
theorem mc_172 : mCw 172 := by unfold mCw; rfl
set_option maxRecDepth 100000 in
theorem mc_173 : mCw 173 := by unfold mCw; rfl
set_option maxRecDepth 100000 in
theorem mc_174 : mCw 174 := by unfold mCw; rfl
set_option maxRecDepth 100000 in
theorem mc_175 : mCw 175 := by unfold mCw; rfl
set_option maxRecDepth 100000 in
theorem mc_176 : mCw 176 := by unfold mCw; rfl
set_option maxRecDepth 100000 in
theorem mc_177 : mCw 177 := by unfold mCw; rfl
set_option maxRecDepth 100000 in
theorem mc_178 : mCw 178 := by unfold mCw; rfl
set_option maxRecDepth 100000 in
theorem mc_179 : mCw 179 := by unfold mCw; rfl
set_option maxRecDepth 100000 in
theorem mc_180 : mCw 180 := by unfold mCw; rfl
set_option maxRecDepth 100000 in
theorem mc_181 : mCw 181 := by unfold mCw; rfl
set_option maxRecDepth 100000 in
theorem mc_182 : mCw 182 := by unfold mCw; rfl
set_option maxRecDepth 100000 in
theorem mc_183 : mCw 183 := by unfold mCw; rfl
set_option maxRecDepth 100000 in
theorem mc_184 : mCw 184 := by unfold mCw; rfl
set_option maxRecDepth 100000 in
theorem mc_185 : mCw 185 := by unfold mCw; rfl
set_option maxRecDepth 100000 in
theorem mc_186 : mCw 186 := by unfold mCw; rfl
set_option maxRecDepth 100000 in
theorem mc_187 : mCw 187 := by unfold mCw; rfl
set_option maxRecDepth 100000 in
theorem mc_188 : mCw 188 := by unfold mCw; rfl
set_option maxRecDepth 100000 in
theorem mc_189 : mCw 189 := by unfold mCw; rfl
set_option maxRecDepth 100000 in
theorem mc_190 : mCw 190 := by unfold mCw; rfl
set_option maxRecDepth 100000 in
theorem mc_191 : mCw 191 := by unfold mCw; rfl
set_option maxRecDepth 100000 in
theorem mc_192 : mCw 192 := by unfold mCw; rfl
set_option maxRecDepth 100000 in
theorem mc_193 : mCw 193 := by unfold mCw; rfl
set_option maxRecDepth 100000 in
theorem mc_194 : mCw 194 := by unfold mCw; rfl
set_option maxRecDepth 100000 in
theorem mc_195 : mCw 195 := by unfold mCw; rfl
set_option maxRecDepth 100000 in
theorem mc_196 : mCw 196 := by unfold mCw; rfl
set_option maxRecDepth 100000 in
theorem mc_197 : mCw 197 := by unfold mCw; rfl
set_option maxRecDepth 100000 in
theorem mc_198 : mCw 198 := by unfold mCw; rfl
set_option maxRecDepth 100000 in
theorem mc_199 : mCw 199 := by unfold mCw; rfl
set_option maxRecDepth 100000 in
theorem mc_200 : mCw 200 := by unfold mCw; rfl
set_option maxRecDepth 100000 in
theorem mc_201 : mCw 201 := by unfold mCw; rfl
set_option maxRecDepth 100000 in
theorem mc_202 : mCw 202 := by unfold mCw; rfl
set_option maxRecDepth 100000 in
theorem mc_203 : mCw 203 := by unfold mCw; rfl
set_option maxRecDepth 100000 in
theorem mc_204 : mCw 204 := by unfold mCw; rfl
set_option maxRecDepth 100000 in
theorem mc_205 : mCw 205 := by unfold mCw; rfl
set_option maxRecDepth 100000 in
theorem mc_206 : mCw 206 := by unfold mCw; rfl
set_option maxRecDepth 100000 in
theorem mc_207 : mCw 207 := by unfold mCw; rfl
set_option maxRecDepth 100000 in
theorem mc_208 : mCw 208 := by unfold mCw; rfl
set_option maxRecDepth 100000 in
theorem mc_209 : mCw 209 := by unfold mCw; rfl
set_option maxRecDepth 100000 in
theorem mc_210 : mCw 210 := by unfold mCw; rfl
set_option maxRecDepth 100000 in
theorem mc_211 : mCw 211 := by unfold mCw; rfl
set_option maxRecDepth 100000 in
theorem mc_212 : mCw 212 := by unfold mCw; rfl
set_option maxRecDepth 100000 in
theorem mc_213 : mCw 213 := by unfold mCw; rfl
set_option maxRecDepth 100000 in
theorem mc_214 : mCw 214 := by unfold mCw; rfl
set_option maxRecDepth 100000 in
theorem mc_215 : mCw 215 := by unfold mCw; rfl
set_option maxRecDepth 100000 in
theorem mc_216 : mCw 216 := by unfold mCw; rfl
set_option maxRecDepth 100000 in
theorem mc_217 : mCw 217 := by unfold mCw; rfl
set_option maxRecDepth 100000 in
theorem mc_218 : mCw 218 := by unfold mCw; rfl
set_option maxRecDepth 100000 in
theorem mc_219 : mCw 219 := by unfold mCw; rfl
set_option maxRecDepth 100000 in
theorem mc_220 : mCw 220 := by unfold mCw; rfl
set_option maxRecDepth 100000 in
theorem mc_221 : mCw 221 := by unfold mCw; rfl
set_option maxRecDepth 100000 in
theorem mc_222 : mCw 222 := by unfold mCw; rfl
set_option maxRecDepth 100000 in
theorem mc_223 : mCw 223 := by unfold mCw; rfl
set_option maxRecDepth 100000 in
theorem mc_224 : mCw 224 := by unfold mCw; rfl
set_option maxRecDepth 100000 in
theorem mc_225 : mCw 225 := by unfold mCw; rfl
set_option maxRecDepth 100000 in
theorem mc_226 : mCw 226 := by unfold mCw; rfl
set_option maxRecDepth 100000 in
theorem mc_227 : mCw 227 := by unfold mCw; rfl
set_option maxRecDepth 100000 in
theorem mc_228 : mCw 228 := by unfold mCw; rfl
set_option maxRecDepth 100000 in
theorem mc_229 : mCw 229 := by unfold mCw; rfl
set_option maxRecDepth 100000 in
theorem mc_230 : mCw 230 := by unfold mCw; rfl
set_option maxRecDepth 100000 in
theorem mc_231 : mCw 231 := by unfold mCw; rfl
set_option maxRecDepth 100000 in
theorem mc_232 : mCw 232 := by unfold mCw; rfl
set_option maxRecDepth 100000 in
theorem mc_233 : mCw 233 := by unfold mCw; rfl
set_option maxRecDepth 100000 in
theorem mc_234 : mCw 234 := by unfold mCw; rfl
set_option maxRecDepth 100000 in
theorem mc_235 : mCw 235 := by unfold mCw; rfl
set_option maxRecDepth 100000 in
theorem mc_236 : mCw 236 := by unfold mCw; rfl
set_option maxRecDepth 100000 in
theorem mc_237 : mCw 237 := by unfold mCw; rfl
set_option maxRecDepth 100000 in
theorem mc_238 : mCw 238 := by unfold mCw; rfl
set_option maxRecDepth 100000 in
theorem mc_239 : mCw 239 := by unfold mCw; rfl
set_option maxRecDepth 100000 in
theorem mc_240 : mCw 240 := by unfold mCw; rfl
set_option maxRecDepth 100000 in
theorem mc_241 : mCw 241 := by unfold mCw; rfl
set_option maxRecDepth 100000 in
theorem mc_242 : mCw 242 := by unfold mCw; rfl
set_option maxRecDepth 100000 in
theorem mc_243 : mCw 243 := by unfold mCw; rfl
set_option maxRecDepth 100000 in
theorem mc_244 : mCw 244 := by unfold mCw; rfl
set_option maxRecDepth 100000 in
theorem mc_245 : mCw 245 := by unfold mCw; rfl
set_option maxRecDepth 100000 in
theorem mc_246 : mCw 246 := by unfold mCw; rfl
set_option maxRecDepth 100000 in
theorem mc_247 : mCw 247 := by unfold mCw; rfl
set_option maxRecDepth 100000 in
theorem mc_248 : mCw 248 := by unfold mCw; rfl
set_option maxRecDepth 100000 in
theorem mc_249 : mCw 249 := by unfold mCw; rfl
set_option maxRecDepth 100000 in
theorem mc_250 : mCw 250 := by unfold mCw; rfl
set_option maxRecDepth 100000 in
theorem mc_251 : mCw 251 := by unfold mCw; rfl
set_option maxRecDepth 100000 in
theorem mc_252 : mCw 252 := by unfold mCw; rfl
set_option maxRecDepth 100000 in
theorem mc_253 : mCw 253 := by unfold mCw; rfl
set_option maxRecDepth 100000 in
theorem mc_254 : mCw 254 := by unfold mCw; rfl
set_option maxRecDepth 100000 in
theorem mc_255 : mCw 255 := by unfold mCw; rfl
set_option maxRecDepth 100000 in
theorem mc_256 : mCw 256 := by unfold mCw; rfl
set_option maxRecDepth 100000 in
theorem mc_257 : mCw 257 := by unfold mCw; rfl
set_option maxRecDepth 100000 in
theorem mc_258 : mCw 258 := by unfold mCw; rfl
set_option maxRecDepth 100000 in
theorem mc_259 : mCw 259 := by unfold mCw; rfl
set_option maxRecDepth 100000 in
theorem mc_260 : mCw 260 := by unfold mCw; rfl
set_option maxRecDepth 100000 in
theorem mc_261 : mCw 261 := by unfold mCw; rfl
set_option maxRecDepth 100000 in
theorem mc_262 : mCw 262 := by unfold mCw; rfl
set_option maxRecDepth 100000 in
theorem mc_263 : mCw 263 := by unfold mCw; rfl
set_option maxRecDepth 100000 in
theorem mc_264 : mCw 264 := by unfold mCw; rfl
set_option maxRecDepth 100000 in
theorem mc_265 : mCw 265 := by unfold mCw; rfl
set_option maxRecDepth 100000 in
theorem mc_266 : mCw 266 := by unfold mCw; rfl
set_option maxRecDepth 100000 in
theorem mc_267 : mCw 267 := by unfold mCw; rfl
set_option maxRecDepth 100000 in
theorem mc_268 : mCw 268 := by unfold mCw; rfl
set_option maxRecDepth 100000 in
theorem mc_269 : mCw 269 := by unfold mCw; rfl
set_option maxRecDepth 100000 in
theorem mc_270 : mCw 270 := by unfold mCw; rfl
set_option maxRecDepth 100000 in
theorem mc_271 : mCw 271 := by unfold mCw; rfl
set_option maxRecDepth 100000 in
theorem mc_272 : mCw 272 := by unfold mCw; rfl
set_option maxRecDepth 100000 in
theorem mc_273 : mCw 273 := by unfold mCw; rfl
set_option maxRecDepth 100000 in
theorem mc_274 : mCw 274 := by unfold mCw; rfl
set_option maxRecDepth 100000 in
theorem mc_275 : mCw 275 := by unfold mCw; rfl
set_option maxRecDepth 100000 in
theorem mc_276 : mCw 276 := by unfold mCw; rfl
set_option maxRecDepth 100000 in
theorem mc_277 : mCw 277 := by unfold mCw; rfl
set_option maxRecDepth 100000 in
theorem mc_278 : mCw 278 := by unfold mCw; rfl
set_option maxRecDepth 100000 in
theorem mc_279 : mCw 279 := by unfold mCw; rfl
set_option maxRecDepth 100000 in
theorem mc_280 : mCw 280 := by unfold mCw; rfl
set_option maxRecDepth 100000 in
theorem mc_281 : mCw 281 := by unfold mCw; rfl
set_option maxRecDepth 100000 in
theorem mc_282 : mCw 282 := by unfold mCw; rfl
set_option maxRecDepth 100000 in
theorem mc_283 : mCw 283 := by unfold mCw; rfl
set_option maxRecDepth 100000 in
theorem mc_284 : mCw 284 := by unfold mCw; rfl
set_option maxRecDepth 100000 in
theorem mc_285 : mCw 285 := by unfold mCw; rfl
set_option maxRecDepth 100000 in
theorem mc_286 : mCw 286 := by unfold mCw; rfl
set_option maxRecDepth 100000 in
theorem mc_287 : mCw 287 := by unfold mCw; rfl
set_option maxRecDepth 100000 in
theorem mc_288 : mCw 288 := by unfold mCw; rfl
set_option maxRecDepth 100000 in
theorem mc_289 : mCw 289 := by unfold mCw; rfl
set_option maxRecDepth 100000 in
theorem mc_290 : mCw 290 := by unfold mCw; rfl
set_option maxRecDepth 100000 in
theorem mc_291 : mCw 291 := by unfold mCw; rfl
set_option maxRecDepth 100000 in
theorem mc_292 : mCw 292 := by unfold mCw; rfl
set_option maxRecDepth 100000 in
theorem mc_293 : mCw 293 := by unfold mCw; rfl
set_option maxRecDepth 100000 in
theorem mc_294 : mCw 294 := by unfold mCw; rfl
set_option maxRecDepth 100000 in
theorem mc_295 : mCw 295 := by unfold mCw; rfl
set_option maxRecDepth 100000 in
theorem mc_296 : mCw 296 := by unfold mCw; rfl
set_option maxRecDepth 100000 in
theorem mc_297 : mCw 297 := by unfold mCw; rfl
set_option maxRecDepth 100000 in
theorem mc_298 : mCw 298 := by unfold mCw; rfl
set_option maxRecDepth 100000 in
theorem mc_299 : mCw 299 := by unfold mCw; rfl
set_option maxRecDepth 100000 in
theorem mc_300 : mCw 300 := by unfold mCw; rfl
set_option maxRecDepth 100000 in
theorem mc_301 : mCw 301 := by unfold mCw; rfl
set_option maxRecDepth 100000 in
theorem mc_302 : mCw 302 := by unfold mCw; rfl
set_option maxRecDepth 100000 in
theorem mc_303 : mCw 303 := by unfold mCw; rfl
set_option maxRecDepth 100000 in
theorem mc_304 : mCw 304 := by unfold mCw; rfl
theorem m_code : ∀ md, md < 305 → mCw md := fun md h => (rc_2 (rc_2 (rc_2 (rc_2 (rc_2 (rc_2 (rc_2 (rc_2 (rc_1 mc_0) (rc_1 mc_1)) (rc_2 (rc_1 mc_2) (rc_1 mc_3))) (rc_2 (rc_2 (rc_1 mc_4) (rc_1 mc_5)) (rc_2 (rc_1 mc_6) (rc_2 (rc_1 mc_7) (rc_1 mc_8))))) (rc_2 (rc_2 (rc_2 (rc_1 mc_9) (rc_1 mc_10)) (rc_2 (rc_1 mc_11) (rc_2 (rc_1 mc_12) (rc_1 mc_13)))) (rc_2 (rc_2 (rc_1 mc_14) (rc_1 mc_15)) (rc_2 (rc_1 mc_16) (rc_2 (rc_1 mc_17) (rc_1 mc_18)))))) (rc_2 (rc_2 (rc_2 (rc_2 (rc_1 mc_19) (rc_1 mc_20)) (rc_2 (rc_1 mc_21) (rc_1 mc_22))) (rc_2 (rc_2 (rc_1 mc_23) (rc_1 mc_24)) (rc_2 (rc_1 mc_25) (rc_2 (rc_1 mc_26) (rc_1 mc_27))))) (rc_2 (rc_2 (rc_2 (rc_1 mc_28) (rc_1 mc_29)) (rc_2 (rc_1 mc_30) (rc_2 (rc_1 mc_31) (rc_1 mc_32)))) (rc_2 (rc_2 (rc_1 mc_33) (rc_1 mc_34)) (rc_2 (rc_1 mc_35) (rc_2 (rc_1 mc_36) (rc_1 mc_37))))))) (rc_2 (rc_2 (rc_2 (rc_2 (rc_2 (rc_1 mc_38) (rc_1 mc_39)) (rc_2 (rc_1 mc_40) (rc_1 mc_41))) (rc_2 (rc_2 (rc_1 mc_42) (rc_1 mc_43)) (rc_2 (rc_1 mc_44) (rc_2 (rc_1 mc_45) (rc_1 mc_46))))) (rc_2 (rc_2 (rc_2 (rc_1 mc_47) (rc_1 mc_48)) (rc_2 (rc_1 mc_49) (rc_2 (rc_1 mc_50) (rc_1 mc_51)))) (rc_2 (rc_2 (rc_1 mc_52) (rc_1 mc_53)) (rc_2 (rc_1 mc_54) (rc_2 (rc_1 mc_55) (rc_1 mc_56)))))) (rc_2 (rc_2 (rc_2 (rc_2 (rc_1 mc_57) (rc_1 mc_58)) (rc_2 (rc_1 mc_59) (rc_1 mc_60))) (rc_2 (rc_2 (rc_1 mc_61) (rc_1 mc_62)) (rc_2 (rc_1 mc_63) (rc_2 (rc_1 mc_64) (rc_1 mc_65))))) (rc_2 (rc_2 (rc_2 (rc_1 mc_66) (rc_1 mc_67)) (rc_2 (rc_1 mc_68) (rc_2 (rc_1 mc_69) (rc_1 mc_70)))) (rc_2 (rc_2 (rc_1 mc_71) (rc_1 mc_72)) (rc_2 (rc_1 mc_73) (rc_2 (rc_1 mc_74) (rc_1 mc_75)))))))) (rc_2 (rc_2 (rc_2 (rc_2 (rc_2 (rc_2 (rc_1 mc_76) (rc_1 mc_77)) (rc_2 (rc_1 mc_78) (rc_1 mc_79))) (rc_2 (rc_2 (rc_1 mc_80) (rc_1 mc_81)) (rc_2 (rc_1 mc_82) (rc_2 (rc_1 mc_83) (rc_1 mc_84))))) (rc_2 (rc_2 (rc_2 (rc_1 mc_85) (rc_1 mc_86)) (rc_2 (rc_1 mc_87) (rc_2 (rc_1 mc_88) (rc_1 mc_89)))) (rc_2 (rc_2 (rc_1 mc_90) (rc_1 mc_91)) (rc_2 (rc_1 mc_92) (rc_2 (rc_1 mc_93) (rc_1 mc_94)))))) (rc_2 (rc_2 (rc_2 (rc_2 (rc_1 mc_95) (rc_1 mc_96)) (rc_2 (rc_1 mc_97) (rc_1 mc_98))) (rc_2 (rc_2 (rc_1 mc_99) (rc_1 mc_100)) (rc_2 (rc_1 mc_101) (rc_2 (rc_1 mc_102) (rc_1 mc_103))))) (rc_2 (rc_2 (rc_2 (rc_1 mc_104) (rc_1 mc_105)) (rc_2 (rc_1 mc_106) (rc_2 (rc_1 mc_107) (rc_1 mc_108)))) (rc_2 (rc_2 (rc_1 mc_109) (rc_1 mc_110)) (rc_2 (rc_1 mc_111) (rc_2 (rc_1 mc_112) (rc_1 mc_113))))))) (rc_2 (rc_2 (rc_2 (rc_2 (rc_2 (rc_1 mc_114) (rc_1 mc_115)) (rc_2 (rc_1 mc_116) (rc_1 mc_117))) (rc_2 (rc_2 (rc_1 mc_118) (rc_1 mc_119)) (rc_2 (rc_1 mc_120) (rc_2 (rc_1 mc_121) (rc_1 mc_122))))) (rc_2 (rc_2 (rc_2 (rc_1 mc_123) (rc_1 mc_124)) (rc_2 (rc_1 mc_125) (rc_2 (rc_1 mc_126) (rc_1 mc_127)))) (rc_2 (rc_2 (rc_1 mc_128) (rc_1 mc_129)) (rc_2 (rc_1 mc_130) (rc_2 (rc_1 mc_131) (rc_1 mc_132)))))) (rc_2 (rc_2 (rc_2 (rc_2 (rc_1 mc_133) (rc_1 mc_134)) (rc_2 (rc_1 mc_135) (rc_1 mc_136))) (rc_2 (rc_2 (rc_1 mc_137) (rc_1 mc_138)) (rc_2 (rc_1 mc_139) (rc_2 (rc_1 mc_140) (rc_1 mc_141))))) (rc_2 (rc_2 (rc_2 (rc_1 mc_142) (rc_1 mc_143)) (rc_2 (rc_1 mc_144) (rc_2 (rc_1 mc_145) (rc_1 mc_146)))) (rc_2 (rc_2 (rc_1 mc_147) (rc_1 mc_148)) (rc_2 (rc_1 mc_149) (rc_2 (rc_1 mc_150) (rc_1 mc_151))))))))) (rc_2 (rc_2 (rc_2 (rc_2 (rc_2 (rc_2 (rc_2 (rc_1 mc_152) (rc_1 mc_153)) (rc_2 (rc_1 mc_154) (rc_1 mc_155))) (rc_2 (rc_2 (rc_1 mc_156) (rc_1 mc_157)) (rc_2 (rc_1 mc_158) (rc_2 (rc_1 mc_159) (rc_1 mc_160))))) (rc_2 (rc_2 (rc_2 (rc_1 mc_161) (rc_1 mc_162)) (rc_2 (rc_1 mc_163) (rc_2 (rc_1 mc_164) (rc_1 mc_165)))) (rc_2 (rc_2 (rc_1 mc_166) (rc_1 mc_167)) (rc_2 (rc_1 mc_168) (rc_2 (rc_1 mc_169) (rc_1 mc_170)))))) (rc_2 (rc_2 (rc_2 (rc_2 (rc_1 mc_171) (rc_1 mc_172)) (rc_2 (rc_1 mc_173) (rc_1 mc_174))) (rc_2 (rc_2 (rc_1 mc_175) (rc_1 mc_176)) (rc_2 (rc_1 mc_177) (rc_2 (rc_1 mc_178) (rc_1 mc_179))))) (rc_2 (rc_2 (rc_2 (rc_1 mc_180) (rc_1 mc_181)) (rc_2 (rc_1 mc_182) (rc_2 (rc_1 mc_183) (rc_1 mc_184)))) (rc_2 (rc_2 (rc_1 mc_185) (rc_1 mc_186)) (rc_2 (rc_1 mc_187) (rc_2 (rc_1 mc_188) (rc_1 mc_189))))))) (rc_2 (rc_2 (rc_2 (rc_2 (rc_2 (rc_1 mc_190) (rc_1 mc_191)) (rc_2 (rc_1 mc_192) (rc_1 mc_193))) (rc_2 (rc_2 (rc_1 mc_194) (rc_1 mc_195)) (rc_2 (rc_1 mc_196) (rc_2 (rc_1 mc_197) (rc_1 mc_198))))) (rc_2 (rc_2 (rc_2 (rc_1 mc_199) (rc_1 mc_200)) (rc_2 (rc_1 mc_201) (rc_2 (rc_1 mc_202) (rc_1 mc_203)))) (rc_2 (rc_2 (rc_1 mc_204) (rc_1 mc_205)) (rc_2 (rc_1 mc_206) (rc_2 (rc_1 mc_207) (rc_1 mc_208)))))) (rc_2 (rc_2 (rc_2 (rc_2 (rc_1 mc_209) (rc_1 mc_210)) (rc_2 (rc_1 mc_211) (rc_1 mc_212))) (rc_2 (rc_2 (rc_1 mc_213) (rc_1 mc_214)) (rc_2 (rc_1 mc_215) (rc_2 (rc_1 mc_216) (rc_1 mc_217))))) (rc_2 (rc_2 (rc_2 (rc_1 mc_218) (rc_1 mc_219)) (rc_2 (rc_1 mc_220) (rc_2 (rc_1 mc_221) (rc_1 mc_222)))) (rc_2 (rc_2 (rc_1 mc_223) (rc_1 mc_224)) (rc_2 (rc_1 mc_225) (rc_2 (rc_1 mc_226) (rc_1 mc_227)))))))) (rc_2 (rc_2 (rc_2 (rc_2 (rc_2 (rc_2 (rc_1 mc_228) (rc_1 mc_229)) (rc_2 (rc_1 mc_230) (rc_1 mc_231))) (rc_2 (rc_2 (rc_1 mc_232) (rc_1 mc_233)) (rc_2 (rc_1 mc_234) (rc_2 (rc_1 mc_235) (rc_1 mc_236))))) (rc_2 (rc_2 (rc_2 (rc_1 mc_237) (rc_1 mc_238)) (rc_2 (rc_1 mc_239) (rc_2 (rc_1 mc_240) (rc_1 mc_241)))) (rc_2 (rc_2 (rc_1 mc_242) (rc_1 mc_243)) (rc_2 (rc_1 mc_244) (rc_2 (rc_1 mc_245) (rc_1 mc_246)))))) (rc_2 (rc_2 (rc_2 (rc_2 (rc_1 mc_247) (rc_1 mc_248)) (rc_2 (rc_1 mc_249) (rc_1 mc_250))) (rc_2 (rc_2 (rc_1 mc_251) (rc_1 mc_252)) (rc_2 (rc_1 mc_253) (rc_2 (rc_1 mc_254) (rc_1 mc_255))))) (rc_2 (rc_2 (rc_2 (rc_1 mc_256) (rc_1 mc_257)) (rc_2 (rc_1 mc_258) (rc_2 (rc_1 mc_259) (rc_1 mc_260)))) (rc_2 (rc_2 (rc_1 mc_261) (rc_1 mc_262)) (rc_2 (rc_1 mc_263) (rc_2 (rc_1 mc_264) (rc_1 mc_265))))))) (rc_2 (rc_2 (rc_2 (rc_2 (rc_2 (rc_1 mc_266) (rc_1 mc_267)) (rc_2 (rc_1 mc_268) (rc_1 mc_269))) (rc_2 (rc_2 (rc_1 mc_270) (rc_1 mc_271)) (rc_2 (rc_1 mc_272) (rc_2 (rc_1 mc_273) (rc_1 mc_274))))) (rc_2 (rc_2 (rc_2 (rc_1 mc_275) (rc_1 mc_276)) (rc_2 (rc_1 mc_277) (rc_2 (rc_1 mc_278) (rc_1 mc_279)))) (rc_2 (rc_2 (rc_1 mc_280) (rc_1 mc_281)) (rc_2 (rc_1 mc_282) (rc_2 (rc_1 mc_283) (rc_1 mc_284)))))) (rc_2 (rc_2 (rc_2 (rc_2 (rc_1 mc_285) (rc_1 mc_286)) (rc_2 (rc_1 mc_287) (rc_2 (rc_1 mc_288) (rc_1 mc_289)))) (rc_2 (rc_2 (rc_1 mc_290) (rc_1 mc_291)) (rc_2 (rc_1 mc_292) (rc_2 (rc_1 mc_293) (rc_1 mc_294))))) (rc_2 (rc_2 (rc_2 (rc_1 mc_295) (rc_1 mc_296)) (rc_2 (rc_1 mc_297) (rc_2 (rc_1 mc_298) (rc_1 mc_299)))) (rc_2 (rc_2 (rc_1 mc_300) (rc_1 mc_301)) (rc_2 (rc_1 mc_302) (rc_2 (rc_1 mc_303) (rc_1 mc_304)))))))))) md (Nat.zero_le md) h
theorem m_init : ∀ md, md < 305 → tables_1[mI md]? = some (.initialized (mY md).cls) := by decide +kernel
theorem m_stat : ∀ md, md < 305 → mK md = 0 → tables_1[mQ md]? = some (.static (mY md)) := by decide +kernel
theorem m_inst : ∀ md, md < 305 → ¬ mK md = 0 → tables_1[mQ md]? = some (.instanceMethod (mY md)) := by decide +kernel
theorem m_sel : ∀ md, md < 305 → mK md = 1 → lw_tbl[mS md]? = some (.selects (mY md).cls (mY md) (mY md)) := by decide +kernel
set_option maxRecDepth 100000 in
theorem m_par1 : ∀ md, md < 306 → plainFor (mY md) = true := by decide +kernel
theorem m_par2 : ∀ md, md < 306 → (mY md).cls ≠ "java/lang/invoke/MethodHandle" ∧ (mY md).cls ≠ "java/lang/invoke/VarHandle" := by decide +kernel
theorem m_par3 : ∀ md, md < 306 → (parseMethodDescriptor (mY md).desc).map (fun d => d.parameters.length) = some (mN md) := by decide +kernel
theorem m_par4 : ∀ md, md < 306 → mX md ≤ 20 := by decide +kernel
theorem m_ini : ∀ md, md < 306 → mK md = 2 → (mY md).name = "<init>" ∧ mR md = none := by decide +kernel
def aty (kd : Nat) : FieldType := if kd = 20 then .int else if kd = 21 then .long else if kd = 22 then .byte else if kd = 23 then .boolean else if kd = 24 then .object "HookOver$Tray" else if kd = 25 then .object "HookOver$Window" else .object "HookOver$Hanging"
def acl (kd : Nat) : Nat := if kd = 24 then 7 else if kd = 25 then 9 else 0
def mkSw (pc : Nat) : Int → List Int → List Nat
  | _, [] => []
  | lo, o :: r => lo.toNat :: ((pc : Int) + o).toNat :: mkSw pc (lo + 1) r
def okSw (pc : Nat) (l : List Int) : Bool := l.all (fun o => decide (0 ≤ (pc : Int) + o))
def mkLk (pc : Nat) : List (Int × Int) → List Nat
  | [] => []
  | q :: r => q.1.toNat :: ((pc : Int) + q.2).toNat :: mkLk pc r
def isWord (i : Nat) (w : Jvm.Cond) : Bool := decide (tables_1[i]? = some w)
def isT (e : AE) : Bool := match e.2.1 with
  | .ifCond _ _ => true
  | .if_icmp _ _ => true
  | .goto _ => true
  | .tableswitch _ _ _ _ => true
  | .lookupswitch _ _ => true
  | .ireturn => true
  | .lreturn => true
  | .return_ => true
  | .invokevirtual _ => e.2.2.2.1.2.2.1 == 10 || e.2.2.2.1.2.2.1 == 11
  | .invokestatic _ => e.2.2.2.1.2.2.1 == 0 || e.2.2.2.1.2.2.1 == 1
  | .invokespecial _ => e.2.2.2.1.2.2.1 == 11
  | _ => false
def kStr (own : String) (i x : Nat) : Bool := (decide (own = "HookOver$Tokens") && ((i == 67 && x == 2) || (i == 59 && x == 3))) || (decide (own = "HookOverModel") && ((i == 80 && x == 4) || (i == 118 && x == 3)))
def sName (t : Nat) : MethodName := if t = 4 then ⟨"java/lang/String", "length", "()I"⟩ else if t = 5 then ⟨"java/lang/String", "charAt", "(I)C"⟩ else ⟨"java/lang/String", "indexOf", "(I)I"⟩
def hostN : String := "HookOver"
/-- an entry's numbers against the class file's bytes and the tables' words -/
def chkP (own : String) (L : Nat) (ret : Option FieldType) (kd : Nat) (pc : Nat) (ins : Instr) (len x y t w : Nat) (z : Int) (k1 : List Nat) : Bool :=
  match ins with
  | .iconst _ => len == 1
  | .bipush v => len == 2 && decide (-128 ≤ v ∧ v ≤ 127)
  | .sipush v => len == 3 && decide (-32768 ≤ v ∧ v ≤ 32767)
  | .lconst _ => len == 1
  | .ldc i => len == 2 && (if x = 0 then isWord w (.constant own i (Int32.ofInt z)) else kStr own i x)
  | .ldc_w i => len == 3 && isWord w (.constant own i (Int32.ofInt z))
  | .ldc2_w i => len == 3 && isWord w (.constantLong own i (Int64.ofInt z))
  | .iload _ => len == 2
  | .iload_n _ => len == 1
  | .lload _ => len == 2
  | .lload_n _ => len == 1
  | .aload _ => len == 2
  | .aload_n _ => len == 1
  | .istore i => len == 2 && decide (i < L)
  | .istore_n i => len == 1 && decide ((i : Nat) < L)
  | .lstore i => len == 2 && decide (i + 1 < L)
  | .lstore_n i => len == 1 && decide ((i : Nat) + 1 < L)
  | .astore i => len == 2 && decide (i < L)
  | .astore_n i => len == 1 && decide ((i : Nat) < L)
  | .iinc i _ => len == 3 && decide (i < L)
  | .ifCond _ o => len == 3 && decide ((pc : Int) + o = (x : Int))
  | .if_icmp _ o => len == 3 && decide ((pc : Int) + o = (x : Int))
  | .goto o => len == 3 && decide ((pc : Int) + o = (x : Int))
  | .tableswitch d lo hi offs => decide ((pc : Int) + d = (x : Int)) && decide (0 ≤ lo) && decide (hi = lo + offs.size - 1) && decide (k1 = mkSw pc lo offs.toList) && okSw pc offs.toList
  | .lookupswitch d ps => decide ((pc : Int) + d = (x : Int)) && decide (k1 = mkLk pc ps.toList) && okSw pc (ps.toList.map (·.2)) && ps.toList.all (fun q => decide (0 ≤ q.1)) && (ps.toList.zip (ps.toList.drop 1)).all (fun (a, next) => a.1 < next.1)
  | .getfield i => len == 3 && decide (x < 12) && decide (y < nfl x) && decide (ftyp x y = t) && isWord w (.fieldLink own i (clsT x y).1 (clsT x y).2.1 (clsT x y).2.2.1)
  | .putfield i => len == 3 && decide (x < 12) && decide (y < nfl x) && decide (ftyp x y = t) && isWord w (.fieldLink own i (clsT x y).1 (clsT x y).2.1 (clsT x y).2.2.1) && (!(clsT x y).2.2.2 || (decide (kd = 2) && decide (clsR x = own)))
  | .iaload => len == 1 && (x == 20 || x == 30)
  | .baload => len == 1 && (x == 22 || x == 23)
  | .laload => len == 1
  | .aaload => len == 1 && decide (24 ≤ x ∧ x < 27)
  | .iastore => len == 1
  | .bastore => len == 1 && (x == 22 || x == 23)
  | .lastore => len == 1
  | .aastore => len == 1 && decide (24 ≤ x ∧ x < 27) && decide (y = acl x)
  | .arraylength => len == 1 && (x == 20 || x == 21 || x == 22 || x == 30)
  | .new i => len == 3 && decide (x < 12) && decide (y = nfl x) && isWord w (.classLink own i (clsR x))
  | .newarray a => len == 2 && (match a with | .int => x == 20 | .long => x == 21 | .byte => x == 22 | .boolean => x == 23 | _ => false)
  | .anewarray i => len == 3 && decide (24 ≤ x ∧ x < 27) && isWord w (.classLink own i (clsR (acl x)))
  | .invokevirtual i => len == 3 && (if t = 10 ∨ t = 11 then decide (x < 305) && decide (mK x = 1) && decide (y = mN x + 1) && decide (w < 12) && decide (clsR w = (mY x).cls) && decide (t = 11 ↔ mR x = none) && isWord z.toNat (.methodLink own i (mY x)) else (t == 4 || t == 5 || t == 6) && isWord z.toNat (.methodLink own i (sName t)))
  | .invokestatic i => len == 3 && (if t = 0 ∨ t = 1 then decide (x < 305) && decide (mK x = 0) && decide (y = mN x) && decide (t = 1 ↔ mR x = none) && (isWord z.toNat (.methodLink own i (mY x)) || (decide (x = m_Hook_rowOf) && ((decide (own = "HookOver$Joinings") && i == 60) || (decide (own = "HookOver$Watcher") && i == 78)))) else t == 3 && isWord z.toNat (.methodLink own i arraycopyName))
  | .invokespecial i => len == 3 && (if t = 11 then decide (x < 305) && decide (mK x = 2) && decide (y = mN x + 1) && decide (w < 12) && decide (clsR w = (mY x).cls) && isWord z.toNat (.methodLink own i (mY x)) else t == 2 && isWord z.toNat (.methodLink own i objectInit))
  | .ireturn => len == 1 && (if x = 0 then decide (ret = some .int) else decide (ret = some .boolean))
  | .lreturn => len == 1 && decide (ret = some .long)
  | .return_ => len == 1 && decide (ret = none)
  | _ => len == 1
def chkC (ins : Instr) (t x : Nat) (k2 : List Nat) : Bool := match ins with
  | .invokevirtual _ => (t == 4 || t == 5 || t == 6) || decide (k2.headD 0 = mX x)
  | .invokestatic _ => t == 3 || decide (k2.headD 0 = mX x)
  | .invokespecial _ => t == 2 || decide (k2.headD 0 = mX x)
  | _ => true
def chkE (md : Nat) (e : AE) : Bool := decide (decode (mB md) e.1 = .ok (e.2.1, e.2.2.1)) && chkP (mY md).cls (mX md) (mR md) (mK md) e.1 e.2.1 e.2.2.1 e.2.2.2.1.1 e.2.2.2.1.2.1 e.2.2.2.1.2.2.1 e.2.2.2.1.2.2.2.1 e.2.2.2.1.2.2.2.2 e.2.2.2.2.1 && chkC e.2.1 e.2.2.2.1.2.2.1 e.2.2.2.1.1 e.2.2.2.2.2
def chkL (md : Nat) : Nat → List AE → Nat → Bool
  | pc, [], np => pc == np
  | pc, e :: r, np => e.1 == pc && chkE md e && (isT e || chkL md (pc + e.2.2.1) r np)
def chkM (md : Nat) : Bool := (codeOf md).all (fun q => chkL md q.1 q.2.1 q.2.2.1)
