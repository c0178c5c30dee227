def FU : Nat := 4096
def mn (x y : Int32) : Int32 := if y < x then y else x
def mx (x y : Int32) : Int32 := if x < y then y else x
theorem code_min : Cond.code Lib.Math.min.name Lib.Math.min.code 2 (some .int) ∈ wt := mw_355
theorem code_max : Cond.code Lib.Math.max.name Lib.Math.max.code 2 (some .int) ∈ wt := mw_580
theorem nmb {α β : Type} {x y : α} {F : α → Option β} {r : β} (h : (some x).bind F = some r) (e : y = x) : F y = some r := by subst e; exact h
theorem nz_ne {x v : Int32} (h : nz x = some v) : ¬ x = 0 := by have q := nz_s h; rw [q.1]; exact q.2
theorem kdk {o k : Nat} (h : (kd o).1 = k) (hk : k ≠ 0) : o < 212 := kd_lt (by rw [h]; exact hk)
def gK (k : Nat) (c : Int32) : Option Int32 := if (kd c.toNatClampNeg).1 = k then some c else none
def gA (n : Nat) (c : Int32) : Option Int32 := if kd c.toNatClampNeg = (1, n) then some c else none
theorem gK_s {k : Nat} {c v : Int32} (h : gK k c = some v) : (kd c.toNatClampNeg).1 = k := by
  unfold gK at h
  by_cases q : (kd c.toNatClampNeg).1 = k
  · exact q
  · rw [if_neg q] at h; cases h
theorem gA_s {n : Nat} {c v : Int32} (h : gA n c = some v) : kd c.toNatClampNeg = (1, n) := by
  unfold gA at h
  by_cases q : kd c.toNatClampNeg = (1, n)
  · exact q
  · rw [if_neg q] at h; cases h
theorem gA_e {n : Nat} {c v : Int32} (h : gA n c = some v) : c = v := by
  unfold gA at h
  by_cases q : kd c.toNatClampNeg = (1, n)
  · rw [if_pos q] at h; cases h; rfl
  · rw [if_neg q] at h; cases h
theorem gA_t {n : Nat} {c v : Int32} (h : gA n c = some v) : kd v.toNatClampNeg = (1, n) := by
  have q := gA_s h
  rwa [gA_e h] at q
def pfZ (M : Mem) (o k : Nat) (x : Int32) : Option Mem := if x = 0 ∨ x = 1 then some (us M o k x) else none
theorem pfZ_s {M M' : Mem} {o k : Nat} {x : Int32} (h : pfZ M o k x = some M') : (x = 0 ∨ x = 1) ∧ us M o k x = M' := by
  unfold pfZ at h
  by_cases q : x = 0 ∨ x = 1
  · rw [if_pos q] at h; cases h; exact ⟨q, rfl⟩
  · rw [if_neg q] at h; cases h
theorem kdv_0 : kd 0 = (10, 0) := by decide +kernel
theorem kk_0 : (kd 0).1 = 10 := by decide +kernel
theorem kdv_1 : kd 1 = (5, 0) := by decide +kernel
theorem kk_1 : (kd 1).1 = 5 := by decide +kernel
theorem kdv_2 : kd 2 = (4, 0) := by decide +kernel
theorem kk_2 : (kd 2).1 = 4 := by decide +kernel
theorem kdv_3 : kd 3 = (1, 120) := by decide +kernel
theorem kdv_4 : kd 4 = (6, 0) := by decide +kernel
theorem kk_4 : (kd 4).1 = 6 := by decide +kernel
theorem kdv_5 : kd 5 = (1, 5) := by decide +kernel
theorem kdv_6 : kd 6 = (1, 5) := by decide +kernel
theorem kdv_7 : kd 7 = (1, 35) := by decide +kernel
theorem kdv_8 : kd 8 = (7, 0) := by decide +kernel
theorem kk_8 : (kd 8).1 = 7 := by decide +kernel
theorem kdv_9 : kd 9 = (3, 0) := by decide +kernel
theorem kk_9 : (kd 9).1 = 3 := by decide +kernel
theorem kdv_10 : kd 10 = (1, 5) := by decide +kernel
theorem kdv_11 : kd 11 = (1, 5) := by decide +kernel
theorem kdv_12 : kd 12 = (1, 60) := by decide +kernel
theorem kdv_13 : kd 13 = (1, 40) := by decide +kernel
theorem kdv_14 : kd 14 = (11, 10) := by decide +kernel
theorem kdv_15 : kd 15 = (3, 0) := by decide +kernel
theorem kk_15 : (kd 15).1 = 3 := by decide +kernel
theorem kdv_16 : kd 16 = (1, 5) := by decide +kernel
theorem kdv_17 : kd 17 = (1, 5) := by decide +kernel
theorem kdv_18 : kd 18 = (1, 60) := by decide +kernel
theorem kdv_19 : kd 19 = (1, 40) := by decide +kernel
theorem kdv_20 : kd 20 = (3, 0) := by decide +kernel
theorem kk_20 : (kd 20).1 = 3 := by decide +kernel
theorem kdv_21 : kd 21 = (1, 5) := by decide +kernel
theorem kdv_22 : kd 22 = (1, 5) := by decide +kernel
theorem kdv_23 : kd 23 = (1, 60) := by decide +kernel
theorem kdv_24 : kd 24 = (1, 40) := by decide +kernel
theorem kdv_25 : kd 25 = (3, 0) := by decide +kernel
theorem kk_25 : (kd 25).1 = 3 := by decide +kernel
theorem kdv_26 : kd 26 = (1, 5) := by decide +kernel
theorem kdv_27 : kd 27 = (1, 5) := by decide +kernel
theorem kdv_28 : kd 28 = (1, 60) := by decide +kernel
theorem kdv_29 : kd 29 = (1, 40) := by decide +kernel
theorem kdv_30 : kd 30 = (3, 0) := by decide +kernel
theorem kk_30 : (kd 30).1 = 3 := by decide +kernel
theorem kdv_31 : kd 31 = (1, 5) := by decide +kernel
theorem kdv_32 : kd 32 = (1, 5) := by decide +kernel
theorem kdv_33 : kd 33 = (1, 60) := by decide +kernel
theorem kdv_34 : kd 34 = (1, 40) := by decide +kernel
theorem kdv_35 : kd 35 = (3, 0) := by decide +kernel
theorem kk_35 : (kd 35).1 = 3 := by decide +kernel
theorem kdv_36 : kd 36 = (1, 5) := by decide +kernel
theorem kdv_37 : kd 37 = (1, 5) := by decide +kernel
theorem kdv_38 : kd 38 = (1, 60) := by decide +kernel
theorem kdv_39 : kd 39 = (1, 40) := by decide +kernel
theorem kdv_40 : kd 40 = (3, 0) := by decide +kernel
theorem kk_40 : (kd 40).1 = 3 := by decide +kernel
theorem kdv_41 : kd 41 = (1, 5) := by decide +kernel
theorem kdv_42 : kd 42 = (1, 5) := by decide +kernel
theorem kdv_43 : kd 43 = (1, 60) := by decide +kernel
theorem kdv_44 : kd 44 = (1, 40) := by decide +kernel
theorem kdv_45 : kd 45 = (3, 0) := by decide +kernel
theorem kk_45 : (kd 45).1 = 3 := by decide +kernel
theorem kdv_46 : kd 46 = (1, 5) := by decide +kernel
theorem kdv_47 : kd 47 = (1, 5) := by decide +kernel
theorem kdv_48 : kd 48 = (1, 60) := by decide +kernel
theorem kdv_49 : kd 49 = (1, 40) := by decide +kernel
theorem kdv_50 : kd 50 = (3, 0) := by decide +kernel
theorem kk_50 : (kd 50).1 = 3 := by decide +kernel
theorem kdv_51 : kd 51 = (1, 5) := by decide +kernel
theorem kdv_52 : kd 52 = (1, 5) := by decide +kernel
theorem kdv_53 : kd 53 = (1, 60) := by decide +kernel
theorem kdv_54 : kd 54 = (1, 40) := by decide +kernel
theorem kdv_55 : kd 55 = (3, 0) := by decide +kernel
theorem kk_55 : (kd 55).1 = 3 := by decide +kernel
theorem kdv_56 : kd 56 = (1, 5) := by decide +kernel
theorem kdv_57 : kd 57 = (1, 5) := by decide +kernel
theorem kdv_58 : kd 58 = (1, 60) := by decide +kernel
theorem kdv_59 : kd 59 = (1, 40) := by decide +kernel
theorem kdv_60 : kd 60 = (3, 0) := by decide +kernel
theorem kk_60 : (kd 60).1 = 3 := by decide +kernel
theorem kdv_61 : kd 61 = (1, 5) := by decide +kernel
theorem kdv_62 : kd 62 = (1, 5) := by decide +kernel
theorem kdv_63 : kd 63 = (1, 60) := by decide +kernel
theorem kdv_64 : kd 64 = (1, 40) := by decide +kernel
theorem kdv_65 : kd 65 = (12, 2) := by decide +kernel
theorem kdv_66 : kd 66 = (7, 0) := by decide +kernel
theorem kk_66 : (kd 66).1 = 7 := by decide +kernel
theorem kdv_67 : kd 67 = (3, 0) := by decide +kernel
theorem kk_67 : (kd 67).1 = 3 := by decide +kernel
theorem kdv_68 : kd 68 = (1, 5) := by decide +kernel
theorem kdv_69 : kd 69 = (1, 5) := by decide +kernel
theorem kdv_70 : kd 70 = (1, 60) := by decide +kernel
theorem kdv_71 : kd 71 = (1, 40) := by decide +kernel
theorem kdv_72 : kd 72 = (11, 10) := by decide +kernel
theorem kdv_73 : kd 73 = (3, 0) := by decide +kernel
theorem kk_73 : (kd 73).1 = 3 := by decide +kernel
theorem kdv_74 : kd 74 = (1, 5) := by decide +kernel
theorem kdv_75 : kd 75 = (1, 5) := by decide +kernel
theorem kdv_76 : kd 76 = (1, 60) := by decide +kernel
theorem kdv_77 : kd 77 = (1, 40) := by decide +kernel
theorem kdv_78 : kd 78 = (3, 0) := by decide +kernel
theorem kk_78 : (kd 78).1 = 3 := by decide +kernel
theorem kdv_79 : kd 79 = (1, 5) := by decide +kernel
theorem kdv_80 : kd 80 = (1, 5) := by decide +kernel
theorem kdv_81 : kd 81 = (1, 60) := by decide +kernel
theorem kdv_82 : kd 82 = (1, 40) := by decide +kernel
theorem kdv_83 : kd 83 = (3, 0) := by decide +kernel
theorem kk_83 : (kd 83).1 = 3 := by decide +kernel
theorem kdv_84 : kd 84 = (1, 5) := by decide +kernel
theorem kdv_85 : kd 85 = (1, 5) := by decide +kernel
theorem kdv_86 : kd 86 = (1, 60) := by decide +kernel
theorem kdv_87 : kd 87 = (1, 40) := by decide +kernel
theorem kdv_88 : kd 88 = (3, 0) := by decide +kernel
theorem kk_88 : (kd 88).1 = 3 := by decide +kernel
theorem kdv_89 : kd 89 = (1, 5) := by decide +kernel
theorem kdv_90 : kd 90 = (1, 5) := by decide +kernel
theorem kdv_91 : kd 91 = (1, 60) := by decide +kernel
theorem kdv_92 : kd 92 = (1, 40) := by decide +kernel
theorem kdv_93 : kd 93 = (3, 0) := by decide +kernel
theorem kk_93 : (kd 93).1 = 3 := by decide +kernel
theorem kdv_94 : kd 94 = (1, 5) := by decide +kernel
theorem kdv_95 : kd 95 = (1, 5) := by decide +kernel
theorem kdv_96 : kd 96 = (1, 60) := by decide +kernel
theorem kdv_97 : kd 97 = (1, 40) := by decide +kernel
theorem kdv_98 : kd 98 = (3, 0) := by decide +kernel
theorem kk_98 : (kd 98).1 = 3 := by decide +kernel
theorem kdv_99 : kd 99 = (1, 5) := by decide +kernel
theorem kdv_100 : kd 100 = (1, 5) := by decide +kernel
theorem kdv_101 : kd 101 = (1, 60) := by decide +kernel
theorem kdv_102 : kd 102 = (1, 40) := by decide +kernel
theorem kdv_103 : kd 103 = (3, 0) := by decide +kernel
theorem kk_103 : (kd 103).1 = 3 := by decide +kernel
theorem kdv_104 : kd 104 = (1, 5) := by decide +kernel
theorem kdv_105 : kd 105 = (1, 5) := by decide +kernel
theorem kdv_106 : kd 106 = (1, 60) := by decide +kernel
theorem kdv_107 : kd 107 = (1, 40) := by decide +kernel
theorem kdv_108 : kd 108 = (3, 0) := by decide +kernel
theorem kk_108 : (kd 108).1 = 3 := by decide +kernel
theorem kdv_109 : kd 109 = (1, 5) := by decide +kernel
theorem kdv_110 : kd 110 = (1, 5) := by decide +kernel
theorem kdv_111 : kd 111 = (1, 60) := by decide +kernel
theorem kdv_112 : kd 112 = (1, 40) := by decide +kernel
theorem kdv_113 : kd 113 = (3, 0) := by decide +kernel
theorem kk_113 : (kd 113).1 = 3 := by decide +kernel
theorem kdv_114 : kd 114 = (1, 5) := by decide +kernel
theorem kdv_115 : kd 115 = (1, 5) := by decide +kernel
theorem kdv_116 : kd 116 = (1, 60) := by decide +kernel
theorem kdv_117 : kd 117 = (1, 40) := by decide +kernel
theorem kdv_118 : kd 118 = (3, 0) := by decide +kernel
theorem kk_118 : (kd 118).1 = 3 := by decide +kernel
theorem kdv_119 : kd 119 = (1, 5) := by decide +kernel
theorem kdv_120 : kd 120 = (1, 5) := by decide +kernel
theorem kdv_121 : kd 121 = (1, 60) := by decide +kernel
theorem kdv_122 : kd 122 = (1, 40) := by decide +kernel
theorem kdv_123 : kd 123 = (7, 0) := by decide +kernel
theorem kk_123 : (kd 123).1 = 7 := by decide +kernel
theorem kdv_124 : kd 124 = (3, 0) := by decide +kernel
theorem kk_124 : (kd 124).1 = 3 := by decide +kernel
theorem kdv_125 : kd 125 = (1, 5) := by decide +kernel
theorem kdv_126 : kd 126 = (1, 5) := by decide +kernel
theorem kdv_127 : kd 127 = (1, 60) := by decide +kernel
theorem kdv_128 : kd 128 = (1, 40) := by decide +kernel
theorem kdv_129 : kd 129 = (11, 10) := by decide +kernel
theorem kdv_130 : kd 130 = (3, 0) := by decide +kernel
theorem kk_130 : (kd 130).1 = 3 := by decide +kernel
theorem kdv_131 : kd 131 = (1, 5) := by decide +kernel
theorem kdv_132 : kd 132 = (1, 5) := by decide +kernel
theorem kdv_133 : kd 133 = (1, 60) := by decide +kernel
theorem kdv_134 : kd 134 = (1, 40) := by decide +kernel
theorem kdv_135 : kd 135 = (3, 0) := by decide +kernel
theorem kk_135 : (kd 135).1 = 3 := by decide +kernel
theorem kdv_136 : kd 136 = (1, 5) := by decide +kernel
theorem kdv_137 : kd 137 = (1, 5) := by decide +kernel
theorem kdv_138 : kd 138 = (1, 60) := by decide +kernel
theorem kdv_139 : kd 139 = (1, 40) := by decide +kernel
theorem kdv_140 : kd 140 = (3, 0) := by decide +kernel
theorem kk_140 : (kd 140).1 = 3 := by decide +kernel
theorem kdv_141 : kd 141 = (1, 5) := by decide +kernel
theorem kdv_142 : kd 142 = (1, 5) := by decide +kernel
theorem kdv_143 : kd 143 = (1, 60) := by decide +kernel
theorem kdv_144 : kd 144 = (1, 40) := by decide +kernel
theorem kdv_145 : kd 145 = (3, 0) := by decide +kernel
theorem kk_145 : (kd 145).1 = 3 := by decide +kernel
theorem kdv_146 : kd 146 = (1, 5) := by decide +kernel
theorem kdv_147 : kd 147 = (1, 5) := by decide +kernel
theorem kdv_148 : kd 148 = (1, 60) := by decide +kernel
theorem kdv_149 : kd 149 = (1, 40) := by decide +kernel
theorem kdv_150 : kd 150 = (3, 0) := by decide +kernel
theorem kk_150 : (kd 150).1 = 3 := by decide +kernel
theorem kdv_151 : kd 151 = (1, 5) := by decide +kernel
theorem kdv_152 : kd 152 = (1, 5) := by decide +kernel
theorem kdv_153 : kd 153 = (1, 60) := by decide +kernel
theorem kdv_154 : kd 154 = (1, 40) := by decide +kernel
theorem kdv_155 : kd 155 = (3, 0) := by decide +kernel
theorem kk_155 : (kd 155).1 = 3 := by decide +kernel
theorem kdv_156 : kd 156 = (1, 5) := by decide +kernel
theorem kdv_157 : kd 157 = (1, 5) := by decide +kernel
theorem kdv_158 : kd 158 = (1, 60) := by decide +kernel
theorem kdv_159 : kd 159 = (1, 40) := by decide +kernel
theorem kdv_160 : kd 160 = (3, 0) := by decide +kernel
theorem kk_160 : (kd 160).1 = 3 := by decide +kernel
theorem kdv_161 : kd 161 = (1, 5) := by decide +kernel
theorem kdv_162 : kd 162 = (1, 5) := by decide +kernel
theorem kdv_163 : kd 163 = (1, 60) := by decide +kernel
theorem kdv_164 : kd 164 = (1, 40) := by decide +kernel
theorem kdv_165 : kd 165 = (3, 0) := by decide +kernel
theorem kk_165 : (kd 165).1 = 3 := by decide +kernel
theorem kdv_166 : kd 166 = (1, 5) := by decide +kernel
theorem kdv_167 : kd 167 = (1, 5) := by decide +kernel
theorem kdv_168 : kd 168 = (1, 60) := by decide +kernel
theorem kdv_169 : kd 169 = (1, 40) := by decide +kernel
theorem kdv_170 : kd 170 = (3, 0) := by decide +kernel
theorem kk_170 : (kd 170).1 = 3 := by decide +kernel
theorem kdv_171 : kd 171 = (1, 5) := by decide +kernel
theorem kdv_172 : kd 172 = (1, 5) := by decide +kernel
theorem kdv_173 : kd 173 = (1, 60) := by decide +kernel
theorem kdv_174 : kd 174 = (1, 40) := by decide +kernel
theorem kdv_175 : kd 175 = (3, 0) := by decide +kernel
theorem kk_175 : (kd 175).1 = 3 := by decide +kernel
theorem kdv_176 : kd 176 = (1, 5) := by decide +kernel
theorem kdv_177 : kd 177 = (1, 5) := by decide +kernel
theorem kdv_178 : kd 178 = (1, 60) := by decide +kernel
theorem kdv_179 : kd 179 = (1, 40) := by decide +kernel
theorem kdv_180 : kd 180 = (2, 2) := by decide +kernel
theorem kdv_181 : kd 181 = (8, 0) := by decide +kernel
theorem kk_181 : (kd 181).1 = 8 := by decide +kernel
theorem kdv_182 : kd 182 = (1, 4) := by decide +kernel
theorem kdv_183 : kd 183 = (1, 4) := by decide +kernel
theorem kdv_184 : kd 184 = (1, 4) := by decide +kernel
theorem kdv_185 : kd 185 = (9, 0) := by decide +kernel
theorem kk_185 : (kd 185).1 = 9 := by decide +kernel
theorem kdv_186 : kd 186 = (1, 10) := by decide +kernel
theorem kdv_187 : kd 187 = (1, 10) := by decide +kernel
theorem kdv_188 : kd 188 = (1, 32) := by decide +kernel
theorem kdv_189 : kd 189 = (1, 13) := by decide +kernel
theorem kdv_190 : kd 190 = (1, 13) := by decide +kernel
theorem kdv_191 : kd 191 = (6, 0) := by decide +kernel
theorem kk_191 : (kd 191).1 = 6 := by decide +kernel
theorem kdv_192 : kd 192 = (1, 5) := by decide +kernel
theorem kdv_193 : kd 193 = (1, 5) := by decide +kernel
theorem kdv_194 : kd 194 = (1, 35) := by decide +kernel
theorem kdv_195 : kd 195 = (1, 10) := by decide +kernel
theorem kdv_196 : kd 196 = (1, 20) := by decide +kernel
theorem kdv_197 : kd 197 = (13, 0) := by decide +kernel
theorem kk_197 : (kd 197).1 = 13 := by decide +kernel
theorem kdv_198 : kd 198 = (14, 5) := by decide +kernel
theorem kdv_199 : kd 199 = (14, 5) := by decide +kernel
theorem kdv_200 : kd 200 = (14, 35) := by decide +kernel
theorem kdv_201 : kd 201 = (14, 1233) := by decide +kernel
theorem kdv_202 : kd 202 = (14, 2466) := by decide +kernel
theorem kdv_203 : kd 203 = (15, 2) := by decide +kernel
theorem kdv_204 : kd 204 = (14, 4) := by decide +kernel
theorem kdv_205 : kd 205 = (14, 8) := by decide +kernel
theorem kdv_206 : kd 206 = (14, 120) := by decide +kernel
theorem kdv_207 : kd 207 = (14, 5) := by decide +kernel
theorem kdv_208 : kd 208 = (14, 5) := by decide +kernel
theorem kdv_209 : kd 209 = (14, 35) := by decide +kernel
theorem kdv_210 : kd 210 = (14, 40) := by decide +kernel
theorem kdv_211 : kd 211 = (14, 10) := by decide +kernel
theorem kr_X1_0 {o : Nat} (h : (kd o).1 = 3) : kd (o + 1) = (1, 5) := (show ∀ o, o < 212 → (kd o).1 = 3 → kd (o + 1) = (1, 5) by decide +kernel) o (kd_lt (by rw [h]; decide)) h
theorem kr_X1_1 {o : Nat} (h : (kd o).1 = 3) : kd (o + 2) = (1, 5) := (show ∀ o, o < 212 → (kd o).1 = 3 → kd (o + 2) = (1, 5) by decide +kernel) o (kd_lt (by rw [h]; decide)) h
theorem kr_X1_2 {o : Nat} (h : (kd o).1 = 3) : kd (o + 3) = (1, 60) := (show ∀ o, o < 212 → (kd o).1 = 3 → kd (o + 3) = (1, 60) by decide +kernel) o (kd_lt (by rw [h]; decide)) h
theorem kr_X1_3 {o : Nat} (h : (kd o).1 = 3) : kd (o + 4) = (1, 40) := (show ∀ o, o < 212 → (kd o).1 = 3 → kd (o + 4) = (1, 40) by decide +kernel) o (kd_lt (by rw [h]; decide)) h
theorem kr_X6_0 {o : Nat} (h : (kd o).1 = 6) : kd (o + 1) = (1, 5) := (show ∀ o, o < 212 → (kd o).1 = 6 → kd (o + 1) = (1, 5) by decide +kernel) o (kd_lt (by rw [h]; decide)) h
theorem kr_X6_1 {o : Nat} (h : (kd o).1 = 6) : kd (o + 2) = (1, 5) := (show ∀ o, o < 212 → (kd o).1 = 6 → kd (o + 2) = (1, 5) by decide +kernel) o (kd_lt (by rw [h]; decide)) h
theorem kr_X6_2 {o : Nat} (h : (kd o).1 = 6) : kd (o + 3) = (1, 35) := (show ∀ o, o < 212 → (kd o).1 = 6 → kd (o + 3) = (1, 35) by decide +kernel) o (kd_lt (by rw [h]; decide)) h
theorem kr_X5_0 {o : Nat} (h : (kd o).1 = 7) : (kd (o + 1)).1 = 3 := (show ∀ o, o < 212 → (kd o).1 = 7 → (kd (o + 1)).1 = 3 by decide +kernel) o (kd_lt (by rw [h]; decide)) h
theorem kr_X5_1 {o : Nat} (h : (kd o).1 = 7) : kd (o + 6) = (11, 10) := (show ∀ o, o < 212 → (kd o).1 = 7 → kd (o + 6) = (11, 10) by decide +kernel) o (kd_lt (by rw [h]; decide)) h
