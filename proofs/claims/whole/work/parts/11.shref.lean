theorem sh_0 : SH 0 = .inl 11 := rfl
theorem sh_1 : SH 1 = .inl 7 := rfl
theorem sh_2 : SH 2 = .inr (1, 540) := rfl
theorem sh_3 : SH 3 = .inl 5 := rfl
theorem sh_4 : SH 4 = .inl 0 := rfl
theorem sh_5 : SH 5 = .inr (0, 6) := rfl
theorem sh_6 : SH 6 = .inr (0, 8) := rfl
theorem sh_7 : SH 7 = .inr (0, 9) := rfl
theorem sh_8 : SH 8 = .inl 3 := rfl
theorem sh_9 : SH 9 = .inr (0, 40) := rfl
theorem sh_10 : SH 10 = .inl 1 := rfl
theorem sh_11 : SH 11 = .inr (0, 60) := rfl
theorem sh_12 : SH 12 = .inr (0, 400) := rfl
theorem sh_13 : SH 13 = .inr (0, 10) := rfl
theorem sh_14 : SH 14 = .inr (0, 10) := rfl
theorem sh_15 : SH 15 = .inr (0, 10) := rfl
theorem sh_16 : SH 16 = .inr (0, 10) := rfl
theorem sh_17 : SH 17 = .inr (0, 30) := rfl
theorem sh_18 : SH 18 = .inr (0, 30) := rfl
theorem sh_19 : SH 19 = .inr (0, 30) := rfl
theorem sh_20 : SH 20 = .inr (0, 30) := rfl
theorem sh_21 : SH 21 = .inr (0, 40) := rfl
theorem sh_22 : SH 22 = .inr (0, 60) := rfl
theorem sh_23 : SH 23 = .inr (0, 200) := rfl
theorem sh_24 : SH 24 = .inr (0, 200) := rfl
theorem sh_25 : SH 25 = .inr (0, 200) := rfl
theorem sh_26 : SH 26 = .inr (0, 200) := rfl
theorem sh_27 : SH 27 = .inr (0, 60) := rfl
theorem sh_28 : SH 28 = .inr (0, 60) := rfl
theorem sh_29 : SH 29 = .inr (0, 60) := rfl
theorem sh_30 : SH 30 = .inr (0, 60) := rfl
theorem sh_31 : SH 31 = .inr (0, 60) := rfl
theorem sh_32 : SH 32 = .inr (0, 60) := rfl
theorem sh_33 : SH 33 = .inr (4, 2) := rfl
theorem sh_34 : SH 34 = .inl 0 := rfl
theorem sh_35 : SH 35 = .inr (0, 6) := rfl
theorem sh_36 : SH 36 = .inr (0, 8) := rfl
theorem sh_37 : SH 37 = .inr (0, 9) := rfl
theorem sh_38 : SH 38 = .inl 3 := rfl
theorem sh_39 : SH 39 = .inr (0, 40) := rfl
theorem sh_40 : SH 40 = .inl 8 := rfl
theorem sh_41 : SH 41 = .inr (3, 6) := rfl
theorem sh_42 : SH 42 = .inr (0, 6) := rfl
theorem sh_43 : SH 43 = .inr (0, 6) := rfl
theorem sh_44 : SH 44 = .inr (0, 60) := rfl
theorem sh_45 : SH 45 = .inr (0, 60) := rfl
theorem sh_46 : SH 46 = .inr (0, 60) := rfl
theorem sh_47 : SH 47 = .inr (0, 60) := rfl
theorem sh_48 : SH 48 = .inr (0, 60) := rfl
theorem sh_49 : SH 49 = .inr (0, 360) := rfl
theorem sh_50 : SH 50 = .inr (0, 60) := rfl
theorem sh_51 : SH 51 = .inr (0, 60) := rfl
theorem sh_52 : SH 52 = .inl 2 := rfl
theorem sh_53 : SH 53 = .inr (0, 12) := rfl
theorem sh_54 : SH 54 = .inr (0, 12) := rfl
theorem sh_55 : SH 55 = .inr (0, 12) := rfl
theorem sh_56 : SH 56 = .inr (0, 12) := rfl
theorem sh_57 : SH 57 = .inr (0, 12) := rfl
theorem sh_58 : SH 58 = .inr (0, 12) := rfl
theorem sh_59 : SH 59 = .inr (0, 12) := rfl
theorem sh_60 : SH 60 = .inr (0, 169) := rfl
theorem sh_61 : SH 61 = .inr (0, 169) := rfl
theorem sh_62 : SH 62 = .inr (0, 169) := rfl
theorem sh_63 : SH 63 = .inr (0, 169) := rfl
theorem sh_64 : SH 64 = .inr (0, 12) := rfl
theorem sh_65 : SH 65 = .inl 6 := rfl
theorem sh_66 : SH 66 = .inr (0, 40) := rfl
theorem sh_67 : SH 67 = .inr (0, 40) := rfl
theorem sh_68 : SH 68 = .inr (0, 40) := rfl
theorem sh_69 : SH 69 = .inr (0, 40) := rfl
theorem sh_70 : SH 70 = .inl 4 := rfl
theorem sh_71 : SH 71 = .inr (0, 9) := rfl
theorem sh_72 : SH 72 = .inr (0, 9) := rfl
theorem sh_73 : SH 73 = .inr (0, 9) := rfl
theorem sh_74 : SH 74 = .inr (0, 4) := rfl
theorem sh_75 : SH 75 = .inl 10 := rfl
theorem sh_76 : SH 76 = .inr (0, 12) := rfl
theorem sh_77 : SH 77 = .inr (0, 12) := rfl
theorem sh_78 : SH 78 = .inr (0, 12) := rfl
theorem sh_79 : SH 79 = .inr (0, 64) := rfl
theorem sh_80 : SH 80 = .inr (0, 64) := rfl
theorem sh_81 : SH 81 = .inr (0, 64) := rfl
theorem sh_82 : SH 82 = .inr (0, 12) := rfl
theorem sh_83 : SH 83 = .inl 10 := rfl
theorem sh_84 : SH 84 = .inr (0, 12) := rfl
theorem sh_85 : SH 85 = .inr (0, 12) := rfl
theorem sh_86 : SH 86 = .inr (0, 12) := rfl
theorem sh_87 : SH 87 = .inr (0, 64) := rfl
theorem sh_88 : SH 88 = .inr (0, 64) := rfl
theorem sh_89 : SH 89 = .inr (0, 64) := rfl
theorem sh_90 : SH 90 = .inr (0, 12) := rfl
theorem sh_91 : SH 91 = .inl 9 := rfl
theorem sh_92 : SH 92 = .inr (0, 12) := rfl
theorem sh_93 : SH 93 = .inr (0, 12) := rfl
theorem sh_94 : SH 94 = .inr (0, 780) := rfl
theorem sh_95 : SH 95 = .inr (0, 780) := rfl
theorem sh_96 : SH 96 = .inr (0, 128) := rfl
theorem sh_97 : SH 97 = .inl 12 := rfl
theorem sh_98 : SH 98 = .inr (1, 540) := rfl
theorem sh_99 : SH 99 = .inr (0, 2819) := rfl
theorem sh_100 : SH 100 = .inr (0, 11) := rfl
theorem sh_101 : SH 101 = .inr (2, 28) := rfl
theorem sh_102 : SH 102 = .inr (2, 23) := rfl
theorem sh_103 : SH 103 = .inr (3, 6) := rfl
theorem sh_104 : SH 104 = .inr (0, 6) := rfl
theorem sh_105 : SH 105 = .inr (0, 6) := rfl
theorem sh_106 : SH 106 = .inr (0, 60) := rfl
theorem sh_107 : SH 107 = .inr (0, 60) := rfl
theorem sh_108 : SH 108 = .inr (0, 60) := rfl
theorem sh_109 : SH 109 = .inr (0, 60) := rfl
theorem sh_110 : SH 110 = .inr (0, 60) := rfl
theorem sh_111 : SH 111 = .inr (0, 192) := rfl
theorem sh_112 : SH 112 = .inr (0, 30) := rfl
theorem sh_113 : SH 113 = .inr (3, 64) := rfl
theorem sh_114 : SH 114 = .inr (0, 60) := rfl
theorem sh_115 : SH 115 = .inr (0, 60) := rfl
theorem sh_116 : SH 116 = .inr (0, 60) := rfl
theorem sh_117 : SH 117 = .inr (0, 60) := rfl
theorem sh_118 : SH 118 = .inr (0, 60) := rfl
theorem sh_119 : SH 119 = .inr (0, 60) := rfl
theorem sh_120 : SH 120 = .inr (0, 60) := rfl
theorem sh_121 : SH 121 = .inr (0, 12) := rfl
theorem sh_122 : SH 122 = .inr (0, 40) := rfl
theorem sh_123 : SH 123 = .inr (0, 60) := rfl
theorem sh_124 : SH 124 = .inr (0, 9) := rfl
theorem sh_125 : SH 125 = .inr (0, 40) := rfl
theorem sh_126 : SH 126 = .inr (2, 24) := rfl
theorem sh_127 : SH 127 = .inr (0, 24) := rfl
theorem sh_128 : SH 128 = .inr (0, 24) := rfl
theorem sh_129 : SH 129 = .inr (0, 24) := rfl
theorem sh_130 : SH 130 = .inr (0, 160) := rfl
theorem sh_131 : SH 131 = .inr (0, 160) := rfl
theorem sh_132 : SH 132 = .inr (0, 160) := rfl
theorem sh_133 : SH 133 = .inr (0, 2) := rfl
theorem sh_134 : SH 134 = .inr (0, 2) := rfl
theorem sh_135 : SH 135 = .inr (0, 120) := rfl
theorem sh_136 : SH 136 = .inr (0, 120) := rfl
theorem sh_137 : SH 137 = .inr (0, 120) := rfl
theorem sh_138 : SH 138 = .inr (3, 4096) := rfl
theorem sh_139 : SH 139 = .inr (0, 12) := rfl
theorem sh_140 : SH 140 = .inr (0, 5638) := rfl
theorem sh_141 : SH 141 = .inr (2, 28) := rfl
theorem sh_142 : SH 142 = .inr (3, 2) := rfl
theorem sh_143 : SH 143 = .inr (2, 1) := rfl
theorem sh_144 : SH 144 = .inl 5 := rfl
theorem sh_145 : SH 145 = .inl 0 := rfl
theorem sh_146 : SH 146 = .inr (0, 6) := rfl
theorem sh_147 : SH 147 = .inr (0, 8) := rfl
theorem sh_148 : SH 148 = .inr (0, 9) := rfl
theorem sh_149 : SH 149 = .inl 3 := rfl
theorem sh_150 : SH 150 = .inr (0, 40) := rfl
theorem sh_151 : SH 151 = .inl 1 := rfl
theorem sh_152 : SH 152 = .inr (0, 60) := rfl
theorem sh_153 : SH 153 = .inr (0, 400) := rfl
theorem sh_154 : SH 154 = .inr (0, 10) := rfl
theorem sh_155 : SH 155 = .inr (0, 10) := rfl
theorem sh_156 : SH 156 = .inr (0, 10) := rfl
theorem sh_157 : SH 157 = .inr (0, 10) := rfl
theorem sh_158 : SH 158 = .inr (0, 30) := rfl
theorem sh_159 : SH 159 = .inr (0, 30) := rfl
theorem sh_160 : SH 160 = .inr (0, 30) := rfl
theorem sh_161 : SH 161 = .inr (0, 30) := rfl
theorem sh_162 : SH 162 = .inr (0, 40) := rfl
theorem sh_163 : SH 163 = .inr (0, 60) := rfl
theorem sh_164 : SH 164 = .inr (0, 200) := rfl
theorem sh_165 : SH 165 = .inr (0, 200) := rfl
theorem sh_166 : SH 166 = .inr (0, 200) := rfl
theorem sh_167 : SH 167 = .inr (0, 200) := rfl
theorem sh_168 : SH 168 = .inr (0, 60) := rfl
theorem sh_169 : SH 169 = .inr (0, 60) := rfl
theorem sh_170 : SH 170 = .inr (0, 60) := rfl
theorem sh_171 : SH 171 = .inr (0, 60) := rfl
theorem sh_172 : SH 172 = .inr (0, 60) := rfl
theorem sh_173 : SH 173 = .inr (0, 60) := rfl
theorem sh_174 : SH 174 = .inl 5 := rfl
theorem sh_175 : SH 175 = .inl 0 := rfl
theorem sh_176 : SH 176 = .inr (0, 6) := rfl
theorem sh_177 : SH 177 = .inr (0, 8) := rfl
theorem sh_178 : SH 178 = .inr (0, 9) := rfl
theorem sh_179 : SH 179 = .inl 3 := rfl
theorem sh_180 : SH 180 = .inr (0, 40) := rfl
theorem sh_181 : SH 181 = .inl 1 := rfl
theorem sh_182 : SH 182 = .inr (0, 60) := rfl
theorem sh_183 : SH 183 = .inr (0, 400) := rfl
theorem sh_184 : SH 184 = .inr (0, 10) := rfl
theorem sh_185 : SH 185 = .inr (0, 10) := rfl
theorem sh_186 : SH 186 = .inr (0, 10) := rfl
theorem sh_187 : SH 187 = .inr (0, 10) := rfl
theorem sh_188 : SH 188 = .inr (0, 30) := rfl
theorem sh_189 : SH 189 = .inr (0, 30) := rfl
theorem sh_190 : SH 190 = .inr (0, 30) := rfl
theorem sh_191 : SH 191 = .inr (0, 30) := rfl
theorem sh_192 : SH 192 = .inr (0, 40) := rfl
theorem sh_193 : SH 193 = .inr (0, 60) := rfl
theorem sh_194 : SH 194 = .inr (0, 200) := rfl
theorem sh_195 : SH 195 = .inr (0, 200) := rfl
theorem sh_196 : SH 196 = .inr (0, 200) := rfl
theorem sh_197 : SH 197 = .inr (0, 200) := rfl
theorem sh_198 : SH 198 = .inr (0, 60) := rfl
theorem sh_199 : SH 199 = .inr (0, 60) := rfl
theorem sh_200 : SH 200 = .inr (0, 60) := rfl
theorem sh_201 : SH 201 = .inr (0, 60) := rfl
theorem sh_202 : SH 202 = .inr (0, 60) := rfl
theorem sh_203 : SH 203 = .inr (0, 60) := rfl
def RLl : List (List (Option Nat)) := [[some 1, some 3, some 33, some 34, some 38, some 40, some 51, some 52, some 65, some 70, none, none, none, some 75, some 83, some 91], [some 2, none, none, none, none, none, none, none, none, none], [], [some 4, some 8, some 10, none, some 22, none, some 23, some 24, some 25, some 26, none, some 27, some 28, some 29, some 30, some 31, some 32], [some 5, some 6, some 7, none, none, none, none], [], [], [], [some 9, none, none], [], [none, some 11, some 12, some 13, some 14, some 15, some 16, none, some 17, some 18, some 19, some 20, none, some 21], [], [], [], [], [], [], [], [], [], [], [], [], [], [], [], [], [], [], [], [], [], [], [], [some 35, some 36, some 37, none, none, none, none], [], [], [], [some 39, none, none], [], [none, some 41, some 42, some 43, some 44, some 45, some 46, some 47, some 48, some 49, some 50], [], [], [], [], [], [], [], [], [], [], [], [none, some 53, none, none, none, none, none, some 54, some 55, some 56, some 57, some 58, some 59, some 60, some 61, some 62, some 63, some 64], [], [], [], [], [], [], [], [], [], [], [], [], [none, some 66, some 67, none, none, none, none, none, some 68, some 69], [], [], [], [], [none, some 71, some 72, none, none, none, some 73, some 74], [], [], [], [], [none, some 76, some 77, some 78, none, some 79, some 80, some 81, some 82, none], [], [], [], [], [], [], [], [none, some 84, some 85, some 86, none, some 87, some 88, some 89, some 90, none], [], [], [], [], [], [], [], [none, some 92, some 93, some 94, some 95, some 96], [], [], [], [], [], [none, some 98, none, none, none, none, some 99, some 100, some 101, some 102, none, none, none, none, none, none, none, none, none, none, some 103, some 104, some 105, some 106, some 107, some 108, some 109, some 110, none, none, some 111, some 112, some 113, none, none, none, some 114, some 115, some 116, some 117, some 118, some 119, some 120, none, none, none, none, some 121, none, none, none, some 122, some 123, none, none, none, none, some 124, none, none, none, none, none, some 125, some 126, some 127, some 128, some 129, some 130, some 131, some 132, some 133, some 134, some 135, some 136, some 137, some 138, some 139, none, some 140, some 141, some 142], [], [], [], [], [], [], [], [], [], [], [], [], [], [], [], [], [], [], [], [], [], [], [], [], [], [], [], [], [], [], [], [], [], [], [], [], [], [], [], [], [], [], [], [], [], [], [some 145, some 149, some 151, none, some 163, none, some 164, some 165, some 166, some 167, none, some 168, some 169, some 170, some 171, some 172, some 173], [some 146, some 147, some 148, none, none, none, none], [], [], [], [some 150, none, none], [], [none, some 152, some 153, some 154, some 155, some 156, some 157, none, some 158, some 159, some 160, some 161, none, some 162], [], [], [], [], [], [], [], [], [], [], [], [], [], [], [], [], [], [], [], [], [], [], [some 175, some 179, some 181, none, some 193, none, some 194, some 195, some 196, some 197, none, some 198, some 199, some 200, some 201, some 202, some 203], [some 176, some 177, some 178, none, none, none, none], [], [], [], [some 180, none, none], [], [none, some 182, some 183, some 184, some 185, some 186, some 187, none, some 188, some 189, some 190, some 191, none, some 192], [], [], [], [], [], [], [], [], [], [], [], [], [], [], [], [], [], [], [], [], [], []]
def rlA (a j : Nat) : Option Nat := (RLl.getD a []).getD j none
/-- the references: which WELDS stand, which are the draft, the two images, how many cells there are -/
abbrev ZP : Type := Nat × Nat × Option Nat × Option Nat × Nat
def zz (ζ : ZP) : ZR := (fun a j => if a = 33 then (if j = 0 then ζ.2.2.1 else if j = 1 then ζ.2.2.2.1 else none) else if a = 0 ∧ j = 13 then some ζ.1 else if a = 0 ∧ j = 14 then some ζ.2.1 else rlA a j, ζ.2.2.2.2)
theorem zz_n {ζ : ZP} : (zz ζ).2 = ζ.2.2.2.2 := rfl
theorem al_0 {ζ : ZP} (hn : 144 ≤ ζ.2.2.2.2) : 0 < (zz ζ).2 := Nat.lt_of_lt_of_le (by decide) hn
theorem al_1 {ζ : ZP} (hn : 144 ≤ ζ.2.2.2.2) : 1 < (zz ζ).2 := Nat.lt_of_lt_of_le (by decide) hn
theorem al_2 {ζ : ZP} (hn : 144 ≤ ζ.2.2.2.2) : 2 < (zz ζ).2 := Nat.lt_of_lt_of_le (by decide) hn
theorem al_3 {ζ : ZP} (hn : 144 ≤ ζ.2.2.2.2) : 3 < (zz ζ).2 := Nat.lt_of_lt_of_le (by decide) hn
theorem al_4 {ζ : ZP} (hn : 144 ≤ ζ.2.2.2.2) : 4 < (zz ζ).2 := Nat.lt_of_lt_of_le (by decide) hn
theorem al_5 {ζ : ZP} (hn : 144 ≤ ζ.2.2.2.2) : 5 < (zz ζ).2 := Nat.lt_of_lt_of_le (by decide) hn
theorem al_6 {ζ : ZP} (hn : 144 ≤ ζ.2.2.2.2) : 6 < (zz ζ).2 := Nat.lt_of_lt_of_le (by decide) hn
theorem al_7 {ζ : ZP} (hn : 144 ≤ ζ.2.2.2.2) : 7 < (zz ζ).2 := Nat.lt_of_lt_of_le (by decide) hn
theorem al_8 {ζ : ZP} (hn : 144 ≤ ζ.2.2.2.2) : 8 < (zz ζ).2 := Nat.lt_of_lt_of_le (by decide) hn
theorem al_9 {ζ : ZP} (hn : 144 ≤ ζ.2.2.2.2) : 9 < (zz ζ).2 := Nat.lt_of_lt_of_le (by decide) hn
theorem al_10 {ζ : ZP} (hn : 144 ≤ ζ.2.2.2.2) : 10 < (zz ζ).2 := Nat.lt_of_lt_of_le (by decide) hn
theorem al_11 {ζ : ZP} (hn : 144 ≤ ζ.2.2.2.2) : 11 < (zz ζ).2 := Nat.lt_of_lt_of_le (by decide) hn
theorem al_12 {ζ : ZP} (hn : 144 ≤ ζ.2.2.2.2) : 12 < (zz ζ).2 := Nat.lt_of_lt_of_le (by decide) hn
theorem al_13 {ζ : ZP} (hn : 144 ≤ ζ.2.2.2.2) : 13 < (zz ζ).2 := Nat.lt_of_lt_of_le (by decide) hn
theorem al_14 {ζ : ZP} (hn : 144 ≤ ζ.2.2.2.2) : 14 < (zz ζ).2 := Nat.lt_of_lt_of_le (by decide) hn
theorem al_15 {ζ : ZP} (hn : 144 ≤ ζ.2.2.2.2) : 15 < (zz ζ).2 := Nat.lt_of_lt_of_le (by decide) hn
theorem al_16 {ζ : ZP} (hn : 144 ≤ ζ.2.2.2.2) : 16 < (zz ζ).2 := Nat.lt_of_lt_of_le (by decide) hn
theorem al_17 {ζ : ZP} (hn : 144 ≤ ζ.2.2.2.2) : 17 < (zz ζ).2 := Nat.lt_of_lt_of_le (by decide) hn
theorem al_18 {ζ : ZP} (hn : 144 ≤ ζ.2.2.2.2) : 18 < (zz ζ).2 := Nat.lt_of_lt_of_le (by decide) hn
theorem al_19 {ζ : ZP} (hn : 144 ≤ ζ.2.2.2.2) : 19 < (zz ζ).2 := Nat.lt_of_lt_of_le (by decide) hn
theorem al_20 {ζ : ZP} (hn : 144 ≤ ζ.2.2.2.2) : 20 < (zz ζ).2 := Nat.lt_of_lt_of_le (by decide) hn
theorem al_21 {ζ : ZP} (hn : 144 ≤ ζ.2.2.2.2) : 21 < (zz ζ).2 := Nat.lt_of_lt_of_le (by decide) hn
theorem al_22 {ζ : ZP} (hn : 144 ≤ ζ.2.2.2.2) : 22 < (zz ζ).2 := Nat.lt_of_lt_of_le (by decide) hn
theorem al_23 {ζ : ZP} (hn : 144 ≤ ζ.2.2.2.2) : 23 < (zz ζ).2 := Nat.lt_of_lt_of_le (by decide) hn
theorem al_24 {ζ : ZP} (hn : 144 ≤ ζ.2.2.2.2) : 24 < (zz ζ).2 := Nat.lt_of_lt_of_le (by decide) hn
theorem al_25 {ζ : ZP} (hn : 144 ≤ ζ.2.2.2.2) : 25 < (zz ζ).2 := Nat.lt_of_lt_of_le (by decide) hn
theorem al_26 {ζ : ZP} (hn : 144 ≤ ζ.2.2.2.2) : 26 < (zz ζ).2 := Nat.lt_of_lt_of_le (by decide) hn
theorem al_27 {ζ : ZP} (hn : 144 ≤ ζ.2.2.2.2) : 27 < (zz ζ).2 := Nat.lt_of_lt_of_le (by decide) hn
theorem al_28 {ζ : ZP} (hn : 144 ≤ ζ.2.2.2.2) : 28 < (zz ζ).2 := Nat.lt_of_lt_of_le (by decide) hn
theorem al_29 {ζ : ZP} (hn : 144 ≤ ζ.2.2.2.2) : 29 < (zz ζ).2 := Nat.lt_of_lt_of_le (by decide) hn
theorem al_30 {ζ : ZP} (hn : 144 ≤ ζ.2.2.2.2) : 30 < (zz ζ).2 := Nat.lt_of_lt_of_le (by decide) hn
theorem al_31 {ζ : ZP} (hn : 144 ≤ ζ.2.2.2.2) : 31 < (zz ζ).2 := Nat.lt_of_lt_of_le (by decide) hn
theorem al_32 {ζ : ZP} (hn : 144 ≤ ζ.2.2.2.2) : 32 < (zz ζ).2 := Nat.lt_of_lt_of_le (by decide) hn
theorem al_33 {ζ : ZP} (hn : 144 ≤ ζ.2.2.2.2) : 33 < (zz ζ).2 := Nat.lt_of_lt_of_le (by decide) hn
theorem al_34 {ζ : ZP} (hn : 144 ≤ ζ.2.2.2.2) : 34 < (zz ζ).2 := Nat.lt_of_lt_of_le (by decide) hn
theorem al_35 {ζ : ZP} (hn : 144 ≤ ζ.2.2.2.2) : 35 < (zz ζ).2 := Nat.lt_of_lt_of_le (by decide) hn
theorem al_36 {ζ : ZP} (hn : 144 ≤ ζ.2.2.2.2) : 36 < (zz ζ).2 := Nat.lt_of_lt_of_le (by decide) hn
theorem al_37 {ζ : ZP} (hn : 144 ≤ ζ.2.2.2.2) : 37 < (zz ζ).2 := Nat.lt_of_lt_of_le (by decide) hn
theorem al_38 {ζ : ZP} (hn : 144 ≤ ζ.2.2.2.2) : 38 < (zz ζ).2 := Nat.lt_of_lt_of_le (by decide) hn
theorem al_39 {ζ : ZP} (hn : 144 ≤ ζ.2.2.2.2) : 39 < (zz ζ).2 := Nat.lt_of_lt_of_le (by decide) hn
theorem al_40 {ζ : ZP} (hn : 144 ≤ ζ.2.2.2.2) : 40 < (zz ζ).2 := Nat.lt_of_lt_of_le (by decide) hn
theorem al_41 {ζ : ZP} (hn : 144 ≤ ζ.2.2.2.2) : 41 < (zz ζ).2 := Nat.lt_of_lt_of_le (by decide) hn
theorem al_42 {ζ : ZP} (hn : 144 ≤ ζ.2.2.2.2) : 42 < (zz ζ).2 := Nat.lt_of_lt_of_le (by decide) hn
theorem al_43 {ζ : ZP} (hn : 144 ≤ ζ.2.2.2.2) : 43 < (zz ζ).2 := Nat.lt_of_lt_of_le (by decide) hn
theorem al_44 {ζ : ZP} (hn : 144 ≤ ζ.2.2.2.2) : 44 < (zz ζ).2 := Nat.lt_of_lt_of_le (by decide) hn
theorem al_45 {ζ : ZP} (hn : 144 ≤ ζ.2.2.2.2) : 45 < (zz ζ).2 := Nat.lt_of_lt_of_le (by decide) hn
theorem al_46 {ζ : ZP} (hn : 144 ≤ ζ.2.2.2.2) : 46 < (zz ζ).2 := Nat.lt_of_lt_of_le (by decide) hn
theorem al_47 {ζ : ZP} (hn : 144 ≤ ζ.2.2.2.2) : 47 < (zz ζ).2 := Nat.lt_of_lt_of_le (by decide) hn
theorem al_48 {ζ : ZP} (hn : 144 ≤ ζ.2.2.2.2) : 48 < (zz ζ).2 := Nat.lt_of_lt_of_le (by decide) hn
theorem al_49 {ζ : ZP} (hn : 144 ≤ ζ.2.2.2.2) : 49 < (zz ζ).2 := Nat.lt_of_lt_of_le (by decide) hn
theorem al_50 {ζ : ZP} (hn : 144 ≤ ζ.2.2.2.2) : 50 < (zz ζ).2 := Nat.lt_of_lt_of_le (by decide) hn
theorem al_51 {ζ : ZP} (hn : 144 ≤ ζ.2.2.2.2) : 51 < (zz ζ).2 := Nat.lt_of_lt_of_le (by decide) hn
theorem al_52 {ζ : ZP} (hn : 144 ≤ ζ.2.2.2.2) : 52 < (zz ζ).2 := Nat.lt_of_lt_of_le (by decide) hn
theorem al_53 {ζ : ZP} (hn : 144 ≤ ζ.2.2.2.2) : 53 < (zz ζ).2 := Nat.lt_of_lt_of_le (by decide) hn
theorem al_54 {ζ : ZP} (hn : 144 ≤ ζ.2.2.2.2) : 54 < (zz ζ).2 := Nat.lt_of_lt_of_le (by decide) hn
theorem al_55 {ζ : ZP} (hn : 144 ≤ ζ.2.2.2.2) : 55 < (zz ζ).2 := Nat.lt_of_lt_of_le (by decide) hn
theorem al_56 {ζ : ZP} (hn : 144 ≤ ζ.2.2.2.2) : 56 < (zz ζ).2 := Nat.lt_of_lt_of_le (by decide) hn
theorem al_57 {ζ : ZP} (hn : 144 ≤ ζ.2.2.2.2) : 57 < (zz ζ).2 := Nat.lt_of_lt_of_le (by decide) hn
theorem al_58 {ζ : ZP} (hn : 144 ≤ ζ.2.2.2.2) : 58 < (zz ζ).2 := Nat.lt_of_lt_of_le (by decide) hn
theorem al_59 {ζ : ZP} (hn : 144 ≤ ζ.2.2.2.2) : 59 < (zz ζ).2 := Nat.lt_of_lt_of_le (by decide) hn
theorem al_60 {ζ : ZP} (hn : 144 ≤ ζ.2.2.2.2) : 60 < (zz ζ).2 := Nat.lt_of_lt_of_le (by decide) hn
theorem al_61 {ζ : ZP} (hn : 144 ≤ ζ.2.2.2.2) : 61 < (zz ζ).2 := Nat.lt_of_lt_of_le (by decide) hn
theorem al_62 {ζ : ZP} (hn : 144 ≤ ζ.2.2.2.2) : 62 < (zz ζ).2 := Nat.lt_of_lt_of_le (by decide) hn
theorem al_63 {ζ : ZP} (hn : 144 ≤ ζ.2.2.2.2) : 63 < (zz ζ).2 := Nat.lt_of_lt_of_le (by decide) hn
theorem al_64 {ζ : ZP} (hn : 144 ≤ ζ.2.2.2.2) : 64 < (zz ζ).2 := Nat.lt_of_lt_of_le (by decide) hn
theorem al_65 {ζ : ZP} (hn : 144 ≤ ζ.2.2.2.2) : 65 < (zz ζ).2 := Nat.lt_of_lt_of_le (by decide) hn
theorem al_66 {ζ : ZP} (hn : 144 ≤ ζ.2.2.2.2) : 66 < (zz ζ).2 := Nat.lt_of_lt_of_le (by decide) hn
theorem al_67 {ζ : ZP} (hn : 144 ≤ ζ.2.2.2.2) : 67 < (zz ζ).2 := Nat.lt_of_lt_of_le (by decide) hn
theorem al_68 {ζ : ZP} (hn : 144 ≤ ζ.2.2.2.2) : 68 < (zz ζ).2 := Nat.lt_of_lt_of_le (by decide) hn
theorem al_69 {ζ : ZP} (hn : 144 ≤ ζ.2.2.2.2) : 69 < (zz ζ).2 := Nat.lt_of_lt_of_le (by decide) hn
theorem al_70 {ζ : ZP} (hn : 144 ≤ ζ.2.2.2.2) : 70 < (zz ζ).2 := Nat.lt_of_lt_of_le (by decide) hn
theorem al_71 {ζ : ZP} (hn : 144 ≤ ζ.2.2.2.2) : 71 < (zz ζ).2 := Nat.lt_of_lt_of_le (by decide) hn
theorem al_72 {ζ : ZP} (hn : 144 ≤ ζ.2.2.2.2) : 72 < (zz ζ).2 := Nat.lt_of_lt_of_le (by decide) hn
theorem al_73 {ζ : ZP} (hn : 144 ≤ ζ.2.2.2.2) : 73 < (zz ζ).2 := Nat.lt_of_lt_of_le (by decide) hn
theorem al_74 {ζ : ZP} (hn : 144 ≤ ζ.2.2.2.2) : 74 < (zz ζ).2 := Nat.lt_of_lt_of_le (by decide) hn
theorem al_75 {ζ : ZP} (hn : 144 ≤ ζ.2.2.2.2) : 75 < (zz ζ).2 := Nat.lt_of_lt_of_le (by decide) hn
theorem al_76 {ζ : ZP} (hn : 144 ≤ ζ.2.2.2.2) : 76 < (zz ζ).2 := Nat.lt_of_lt_of_le (by decide) hn
theorem al_77 {ζ : ZP} (hn : 144 ≤ ζ.2.2.2.2) : 77 < (zz ζ).2 := Nat.lt_of_lt_of_le (by decide) hn
theorem al_78 {ζ : ZP} (hn : 144 ≤ ζ.2.2.2.2) : 78 < (zz ζ).2 := Nat.lt_of_lt_of_le (by decide) hn
theorem al_79 {ζ : ZP} (hn : 144 ≤ ζ.2.2.2.2) : 79 < (zz ζ).2 := Nat.lt_of_lt_of_le (by decide) hn
theorem al_80 {ζ : ZP} (hn : 144 ≤ ζ.2.2.2.2) : 80 < (zz ζ).2 := Nat.lt_of_lt_of_le (by decide) hn
theorem al_81 {ζ : ZP} (hn : 144 ≤ ζ.2.2.2.2) : 81 < (zz ζ).2 := Nat.lt_of_lt_of_le (by decide) hn
theorem al_82 {ζ : ZP} (hn : 144 ≤ ζ.2.2.2.2) : 82 < (zz ζ).2 := Nat.lt_of_lt_of_le (by decide) hn
theorem al_83 {ζ : ZP} (hn : 144 ≤ ζ.2.2.2.2) : 83 < (zz ζ).2 := Nat.lt_of_lt_of_le (by decide) hn
theorem al_84 {ζ : ZP} (hn : 144 ≤ ζ.2.2.2.2) : 84 < (zz ζ).2 := Nat.lt_of_lt_of_le (by decide) hn
theorem al_85 {ζ : ZP} (hn : 144 ≤ ζ.2.2.2.2) : 85 < (zz ζ).2 := Nat.lt_of_lt_of_le (by decide) hn
theorem al_86 {ζ : ZP} (hn : 144 ≤ ζ.2.2.2.2) : 86 < (zz ζ).2 := Nat.lt_of_lt_of_le (by decide) hn
theorem al_87 {ζ : ZP} (hn : 144 ≤ ζ.2.2.2.2) : 87 < (zz ζ).2 := Nat.lt_of_lt_of_le (by decide) hn
theorem al_88 {ζ : ZP} (hn : 144 ≤ ζ.2.2.2.2) : 88 < (zz ζ).2 := Nat.lt_of_lt_of_le (by decide) hn
theorem al_89 {ζ : ZP} (hn : 144 ≤ ζ.2.2.2.2) : 89 < (zz ζ).2 := Nat.lt_of_lt_of_le (by decide) hn
theorem al_90 {ζ : ZP} (hn : 144 ≤ ζ.2.2.2.2) : 90 < (zz ζ).2 := Nat.lt_of_lt_of_le (by decide) hn
theorem al_91 {ζ : ZP} (hn : 144 ≤ ζ.2.2.2.2) : 91 < (zz ζ).2 := Nat.lt_of_lt_of_le (by decide) hn
theorem al_92 {ζ : ZP} (hn : 144 ≤ ζ.2.2.2.2) : 92 < (zz ζ).2 := Nat.lt_of_lt_of_le (by decide) hn
theorem al_93 {ζ : ZP} (hn : 144 ≤ ζ.2.2.2.2) : 93 < (zz ζ).2 := Nat.lt_of_lt_of_le (by decide) hn
theorem al_94 {ζ : ZP} (hn : 144 ≤ ζ.2.2.2.2) : 94 < (zz ζ).2 := Nat.lt_of_lt_of_le (by decide) hn
theorem al_95 {ζ : ZP} (hn : 144 ≤ ζ.2.2.2.2) : 95 < (zz ζ).2 := Nat.lt_of_lt_of_le (by decide) hn
theorem al_96 {ζ : ZP} (hn : 144 ≤ ζ.2.2.2.2) : 96 < (zz ζ).2 := Nat.lt_of_lt_of_le (by decide) hn
theorem al_97 {ζ : ZP} (hn : 144 ≤ ζ.2.2.2.2) : 97 < (zz ζ).2 := Nat.lt_of_lt_of_le (by decide) hn
theorem al_98 {ζ : ZP} (hn : 144 ≤ ζ.2.2.2.2) : 98 < (zz ζ).2 := Nat.lt_of_lt_of_le (by decide) hn
theorem al_99 {ζ : ZP} (hn : 144 ≤ ζ.2.2.2.2) : 99 < (zz ζ).2 := Nat.lt_of_lt_of_le (by decide) hn
theorem al_100 {ζ : ZP} (hn : 144 ≤ ζ.2.2.2.2) : 100 < (zz ζ).2 := Nat.lt_of_lt_of_le (by decide) hn
theorem al_101 {ζ : ZP} (hn : 144 ≤ ζ.2.2.2.2) : 101 < (zz ζ).2 := Nat.lt_of_lt_of_le (by decide) hn
theorem al_102 {ζ : ZP} (hn : 144 ≤ ζ.2.2.2.2) : 102 < (zz ζ).2 := Nat.lt_of_lt_of_le (by decide) hn
theorem al_103 {ζ : ZP} (hn : 144 ≤ ζ.2.2.2.2) : 103 < (zz ζ).2 := Nat.lt_of_lt_of_le (by decide) hn
theorem al_104 {ζ : ZP} (hn : 144 ≤ ζ.2.2.2.2) : 104 < (zz ζ).2 := Nat.lt_of_lt_of_le (by decide) hn
theorem al_105 {ζ : ZP} (hn : 144 ≤ ζ.2.2.2.2) : 105 < (zz ζ).2 := Nat.lt_of_lt_of_le (by decide) hn
theorem al_106 {ζ : ZP} (hn : 144 ≤ ζ.2.2.2.2) : 106 < (zz ζ).2 := Nat.lt_of_lt_of_le (by decide) hn
theorem al_107 {ζ : ZP} (hn : 144 ≤ ζ.2.2.2.2) : 107 < (zz ζ).2 := Nat.lt_of_lt_of_le (by decide) hn
theorem al_108 {ζ : ZP} (hn : 144 ≤ ζ.2.2.2.2) : 108 < (zz ζ).2 := Nat.lt_of_lt_of_le (by decide) hn
theorem al_109 {ζ : ZP} (hn : 144 ≤ ζ.2.2.2.2) : 109 < (zz ζ).2 := Nat.lt_of_lt_of_le (by decide) hn
theorem al_110 {ζ : ZP} (hn : 144 ≤ ζ.2.2.2.2) : 110 < (zz ζ).2 := Nat.lt_of_lt_of_le (by decide) hn
theorem al_111 {ζ : ZP} (hn : 144 ≤ ζ.2.2.2.2) : 111 < (zz ζ).2 := Nat.lt_of_lt_of_le (by decide) hn
theorem al_112 {ζ : ZP} (hn : 144 ≤ ζ.2.2.2.2) : 112 < (zz ζ).2 := Nat.lt_of_lt_of_le (by decide) hn
theorem al_113 {ζ : ZP} (hn : 144 ≤ ζ.2.2.2.2) : 113 < (zz ζ).2 := Nat.lt_of_lt_of_le (by decide) hn
theorem al_114 {ζ : ZP} (hn : 144 ≤ ζ.2.2.2.2) : 114 < (zz ζ).2 := Nat.lt_of_lt_of_le (by decide) hn
theorem al_115 {ζ : ZP} (hn : 144 ≤ ζ.2.2.2.2) : 115 < (zz ζ).2 := Nat.lt_of_lt_of_le (by decide) hn
theorem al_116 {ζ : ZP} (hn : 144 ≤ ζ.2.2.2.2) : 116 < (zz ζ).2 := Nat.lt_of_lt_of_le (by decide) hn
theorem al_117 {ζ : ZP} (hn : 144 ≤ ζ.2.2.2.2) : 117 < (zz ζ).2 := Nat.lt_of_lt_of_le (by decide) hn
theorem al_118 {ζ : ZP} (hn : 144 ≤ ζ.2.2.2.2) : 118 < (zz ζ).2 := Nat.lt_of_lt_of_le (by decide) hn
theorem al_119 {ζ : ZP} (hn : 144 ≤ ζ.2.2.2.2) : 119 < (zz ζ).2 := Nat.lt_of_lt_of_le (by decide) hn
theorem al_120 {ζ : ZP} (hn : 144 ≤ ζ.2.2.2.2) : 120 < (zz ζ).2 := Nat.lt_of_lt_of_le (by decide) hn
theorem al_121 {ζ : ZP} (hn : 144 ≤ ζ.2.2.2.2) : 121 < (zz ζ).2 := Nat.lt_of_lt_of_le (by decide) hn
theorem al_122 {ζ : ZP} (hn : 144 ≤ ζ.2.2.2.2) : 122 < (zz ζ).2 := Nat.lt_of_lt_of_le (by decide) hn
theorem al_123 {ζ : ZP} (hn : 144 ≤ ζ.2.2.2.2) : 123 < (zz ζ).2 := Nat.lt_of_lt_of_le (by decide) hn
theorem al_124 {ζ : ZP} (hn : 144 ≤ ζ.2.2.2.2) : 124 < (zz ζ).2 := Nat.lt_of_lt_of_le (by decide) hn
theorem al_125 {ζ : ZP} (hn : 144 ≤ ζ.2.2.2.2) : 125 < (zz ζ).2 := Nat.lt_of_lt_of_le (by decide) hn
theorem al_126 {ζ : ZP} (hn : 144 ≤ ζ.2.2.2.2) : 126 < (zz ζ).2 := Nat.lt_of_lt_of_le (by decide) hn
theorem al_127 {ζ : ZP} (hn : 144 ≤ ζ.2.2.2.2) : 127 < (zz ζ).2 := Nat.lt_of_lt_of_le (by decide) hn
theorem al_128 {ζ : ZP} (hn : 144 ≤ ζ.2.2.2.2) : 128 < (zz ζ).2 := Nat.lt_of_lt_of_le (by decide) hn
theorem al_129 {ζ : ZP} (hn : 144 ≤ ζ.2.2.2.2) : 129 < (zz ζ).2 := Nat.lt_of_lt_of_le (by decide) hn
theorem al_130 {ζ : ZP} (hn : 144 ≤ ζ.2.2.2.2) : 130 < (zz ζ).2 := Nat.lt_of_lt_of_le (by decide) hn
theorem al_131 {ζ : ZP} (hn : 144 ≤ ζ.2.2.2.2) : 131 < (zz ζ).2 := Nat.lt_of_lt_of_le (by decide) hn
theorem al_132 {ζ : ZP} (hn : 144 ≤ ζ.2.2.2.2) : 132 < (zz ζ).2 := Nat.lt_of_lt_of_le (by decide) hn
theorem al_133 {ζ : ZP} (hn : 144 ≤ ζ.2.2.2.2) : 133 < (zz ζ).2 := Nat.lt_of_lt_of_le (by decide) hn
theorem al_134 {ζ : ZP} (hn : 144 ≤ ζ.2.2.2.2) : 134 < (zz ζ).2 := Nat.lt_of_lt_of_le (by decide) hn
theorem al_135 {ζ : ZP} (hn : 144 ≤ ζ.2.2.2.2) : 135 < (zz ζ).2 := Nat.lt_of_lt_of_le (by decide) hn
theorem al_136 {ζ : ZP} (hn : 144 ≤ ζ.2.2.2.2) : 136 < (zz ζ).2 := Nat.lt_of_lt_of_le (by decide) hn
theorem al_137 {ζ : ZP} (hn : 144 ≤ ζ.2.2.2.2) : 137 < (zz ζ).2 := Nat.lt_of_lt_of_le (by decide) hn
theorem al_138 {ζ : ZP} (hn : 144 ≤ ζ.2.2.2.2) : 138 < (zz ζ).2 := Nat.lt_of_lt_of_le (by decide) hn
theorem al_139 {ζ : ZP} (hn : 144 ≤ ζ.2.2.2.2) : 139 < (zz ζ).2 := Nat.lt_of_lt_of_le (by decide) hn
theorem al_140 {ζ : ZP} (hn : 144 ≤ ζ.2.2.2.2) : 140 < (zz ζ).2 := Nat.lt_of_lt_of_le (by decide) hn
theorem al_141 {ζ : ZP} (hn : 144 ≤ ζ.2.2.2.2) : 141 < (zz ζ).2 := Nat.lt_of_lt_of_le (by decide) hn
theorem al_142 {ζ : ZP} (hn : 144 ≤ ζ.2.2.2.2) : 142 < (zz ζ).2 := Nat.lt_of_lt_of_le (by decide) hn
theorem al_143 {ζ : ZP} (hn : 144 ≤ ζ.2.2.2.2) : 143 < (zz ζ).2 := Nat.lt_of_lt_of_le (by decide) hn
theorem rf_0_0 {ζ : ZP} : (zz ζ).1 0 0 = some 1 := rfl
theorem rf_0_1 {ζ : ZP} : (zz ζ).1 0 1 = some 3 := rfl
theorem rf_0_2 {ζ : ZP} : (zz ζ).1 0 2 = some 33 := rfl
theorem rf_0_3 {ζ : ZP} : (zz ζ).1 0 3 = some 34 := rfl
theorem rf_0_4 {ζ : ZP} : (zz ζ).1 0 4 = some 38 := rfl
theorem rf_0_5 {ζ : ZP} : (zz ζ).1 0 5 = some 40 := rfl
theorem rf_0_6 {ζ : ZP} : (zz ζ).1 0 6 = some 51 := rfl
theorem rf_0_7 {ζ : ZP} : (zz ζ).1 0 7 = some 52 := rfl
theorem rf_0_8 {ζ : ZP} : (zz ζ).1 0 8 = some 65 := rfl
theorem rf_0_9 {ζ : ZP} : (zz ζ).1 0 9 = some 70 := rfl
theorem rf_0_15 {ζ : ZP} : (zz ζ).1 0 15 = some 91 := rfl
theorem rf_1_0 {ζ : ZP} : (zz ζ).1 1 0 = some 2 := rfl
theorem rf_3_0 {ζ : ZP} : (zz ζ).1 3 0 = some 4 := rfl
theorem rf_3_1 {ζ : ZP} : (zz ζ).1 3 1 = some 8 := rfl
theorem rf_3_2 {ζ : ZP} : (zz ζ).1 3 2 = some 10 := rfl
theorem rf_3_4 {ζ : ZP} : (zz ζ).1 3 4 = some 22 := rfl
theorem rf_3_6 {ζ : ZP} : (zz ζ).1 3 6 = some 23 := rfl
theorem rf_3_7 {ζ : ZP} : (zz ζ).1 3 7 = some 24 := rfl
theorem rf_3_8 {ζ : ZP} : (zz ζ).1 3 8 = some 25 := rfl
theorem rf_3_9 {ζ : ZP} : (zz ζ).1 3 9 = some 26 := rfl
theorem rf_3_11 {ζ : ZP} : (zz ζ).1 3 11 = some 27 := rfl
theorem rf_3_12 {ζ : ZP} : (zz ζ).1 3 12 = some 28 := rfl
theorem rf_3_13 {ζ : ZP} : (zz ζ).1 3 13 = some 29 := rfl
theorem rf_3_14 {ζ : ZP} : (zz ζ).1 3 14 = some 30 := rfl
theorem rf_3_15 {ζ : ZP} : (zz ζ).1 3 15 = some 31 := rfl
theorem rf_3_16 {ζ : ZP} : (zz ζ).1 3 16 = some 32 := rfl
theorem rf_4_0 {ζ : ZP} : (zz ζ).1 4 0 = some 5 := rfl
theorem rf_4_1 {ζ : ZP} : (zz ζ).1 4 1 = some 6 := rfl
theorem rf_4_2 {ζ : ZP} : (zz ζ).1 4 2 = some 7 := rfl
theorem rf_8_0 {ζ : ZP} : (zz ζ).1 8 0 = some 9 := rfl
theorem rf_10_1 {ζ : ZP} : (zz ζ).1 10 1 = some 11 := rfl
theorem rf_10_2 {ζ : ZP} : (zz ζ).1 10 2 = some 12 := rfl
theorem rf_10_3 {ζ : ZP} : (zz ζ).1 10 3 = some 13 := rfl
theorem rf_10_4 {ζ : ZP} : (zz ζ).1 10 4 = some 14 := rfl
theorem rf_10_5 {ζ : ZP} : (zz ζ).1 10 5 = some 15 := rfl
theorem rf_10_6 {ζ : ZP} : (zz ζ).1 10 6 = some 16 := rfl
theorem rf_10_8 {ζ : ZP} : (zz ζ).1 10 8 = some 17 := rfl
theorem rf_10_9 {ζ : ZP} : (zz ζ).1 10 9 = some 18 := rfl
theorem rf_10_10 {ζ : ZP} : (zz ζ).1 10 10 = some 19 := rfl
theorem rf_10_11 {ζ : ZP} : (zz ζ).1 10 11 = some 20 := rfl
theorem rf_10_13 {ζ : ZP} : (zz ζ).1 10 13 = some 21 := rfl
theorem rf_34_0 {ζ : ZP} : (zz ζ).1 34 0 = some 35 := rfl
theorem rf_34_1 {ζ : ZP} : (zz ζ).1 34 1 = some 36 := rfl
theorem rf_34_2 {ζ : ZP} : (zz ζ).1 34 2 = some 37 := rfl
theorem rf_38_0 {ζ : ZP} : (zz ζ).1 38 0 = some 39 := rfl
theorem rf_40_1 {ζ : ZP} : (zz ζ).1 40 1 = some 41 := rfl
theorem rf_40_2 {ζ : ZP} : (zz ζ).1 40 2 = some 42 := rfl
theorem rf_40_3 {ζ : ZP} : (zz ζ).1 40 3 = some 43 := rfl
theorem rf_40_4 {ζ : ZP} : (zz ζ).1 40 4 = some 44 := rfl
theorem rf_40_5 {ζ : ZP} : (zz ζ).1 40 5 = some 45 := rfl
theorem rf_40_6 {ζ : ZP} : (zz ζ).1 40 6 = some 46 := rfl
theorem rf_40_7 {ζ : ZP} : (zz ζ).1 40 7 = some 47 := rfl
theorem rf_40_8 {ζ : ZP} : (zz ζ).1 40 8 = some 48 := rfl
theorem rf_40_9 {ζ : ZP} : (zz ζ).1 40 9 = some 49 := rfl
theorem rf_40_10 {ζ : ZP} : (zz ζ).1 40 10 = some 50 := rfl
theorem rf_52_1 {ζ : ZP} : (zz ζ).1 52 1 = some 53 := rfl
theorem rf_52_7 {ζ : ZP} : (zz ζ).1 52 7 = some 54 := rfl
theorem rf_52_8 {ζ : ZP} : (zz ζ).1 52 8 = some 55 := rfl
theorem rf_52_9 {ζ : ZP} : (zz ζ).1 52 9 = some 56 := rfl
theorem rf_52_10 {ζ : ZP} : (zz ζ).1 52 10 = some 57 := rfl
theorem rf_52_11 {ζ : ZP} : (zz ζ).1 52 11 = some 58 := rfl
theorem rf_52_12 {ζ : ZP} : (zz ζ).1 52 12 = some 59 := rfl
theorem rf_52_13 {ζ : ZP} : (zz ζ).1 52 13 = some 60 := rfl
theorem rf_52_14 {ζ : ZP} : (zz ζ).1 52 14 = some 61 := rfl
theorem rf_52_15 {ζ : ZP} : (zz ζ).1 52 15 = some 62 := rfl
theorem rf_52_16 {ζ : ZP} : (zz ζ).1 52 16 = some 63 := rfl
theorem rf_52_17 {ζ : ZP} : (zz ζ).1 52 17 = some 64 := rfl
theorem rf_65_1 {ζ : ZP} : (zz ζ).1 65 1 = some 66 := rfl
theorem rf_65_2 {ζ : ZP} : (zz ζ).1 65 2 = some 67 := rfl
theorem rf_65_8 {ζ : ZP} : (zz ζ).1 65 8 = some 68 := rfl
theorem rf_65_9 {ζ : ZP} : (zz ζ).1 65 9 = some 69 := rfl
theorem rf_70_1 {ζ : ZP} : (zz ζ).1 70 1 = some 71 := rfl
theorem rf_70_2 {ζ : ZP} : (zz ζ).1 70 2 = some 72 := rfl
theorem rf_70_6 {ζ : ZP} : (zz ζ).1 70 6 = some 73 := rfl
theorem rf_70_7 {ζ : ZP} : (zz ζ).1 70 7 = some 74 := rfl
theorem rf_75_1 {ζ : ZP} : (zz ζ).1 75 1 = some 76 := rfl
theorem rf_75_2 {ζ : ZP} : (zz ζ).1 75 2 = some 77 := rfl
theorem rf_75_3 {ζ : ZP} : (zz ζ).1 75 3 = some 78 := rfl
theorem rf_75_5 {ζ : ZP} : (zz ζ).1 75 5 = some 79 := rfl
theorem rf_75_6 {ζ : ZP} : (zz ζ).1 75 6 = some 80 := rfl
theorem rf_75_7 {ζ : ZP} : (zz ζ).1 75 7 = some 81 := rfl
theorem rf_75_8 {ζ : ZP} : (zz ζ).1 75 8 = some 82 := rfl
theorem rf_83_1 {ζ : ZP} : (zz ζ).1 83 1 = some 84 := rfl
theorem rf_83_2 {ζ : ZP} : (zz ζ).1 83 2 = some 85 := rfl
theorem rf_83_3 {ζ : ZP} : (zz ζ).1 83 3 = some 86 := rfl
theorem rf_83_5 {ζ : ZP} : (zz ζ).1 83 5 = some 87 := rfl
theorem rf_83_6 {ζ : ZP} : (zz ζ).1 83 6 = some 88 := rfl
theorem rf_83_7 {ζ : ZP} : (zz ζ).1 83 7 = some 89 := rfl
theorem rf_83_8 {ζ : ZP} : (zz ζ).1 83 8 = some 90 := rfl
theorem rf_91_1 {ζ : ZP} : (zz ζ).1 91 1 = some 92 := rfl
theorem rf_91_2 {ζ : ZP} : (zz ζ).1 91 2 = some 93 := rfl
theorem rf_91_3 {ζ : ZP} : (zz ζ).1 91 3 = some 94 := rfl
theorem rf_91_4 {ζ : ZP} : (zz ζ).1 91 4 = some 95 := rfl
theorem rf_91_5 {ζ : ZP} : (zz ζ).1 91 5 = some 96 := rfl
theorem rf_97_1 {ζ : ZP} : (zz ζ).1 97 1 = some 98 := rfl
theorem rf_97_6 {ζ : ZP} : (zz ζ).1 97 6 = some 99 := rfl
theorem rf_97_7 {ζ : ZP} : (zz ζ).1 97 7 = some 100 := rfl
theorem rf_97_8 {ζ : ZP} : (zz ζ).1 97 8 = some 101 := rfl
theorem rf_97_9 {ζ : ZP} : (zz ζ).1 97 9 = some 102 := rfl
theorem rf_97_20 {ζ : ZP} : (zz ζ).1 97 20 = some 103 := rfl
theorem rf_97_21 {ζ : ZP} : (zz ζ).1 97 21 = some 104 := rfl
theorem rf_97_22 {ζ : ZP} : (zz ζ).1 97 22 = some 105 := rfl
theorem rf_97_23 {ζ : ZP} : (zz ζ).1 97 23 = some 106 := rfl
theorem rf_97_24 {ζ : ZP} : (zz ζ).1 97 24 = some 107 := rfl
theorem rf_97_25 {ζ : ZP} : (zz ζ).1 97 25 = some 108 := rfl
theorem rf_97_26 {ζ : ZP} : (zz ζ).1 97 26 = some 109 := rfl
theorem rf_97_27 {ζ : ZP} : (zz ζ).1 97 27 = some 110 := rfl
theorem rf_97_30 {ζ : ZP} : (zz ζ).1 97 30 = some 111 := rfl
theorem rf_97_31 {ζ : ZP} : (zz ζ).1 97 31 = some 112 := rfl
theorem rf_97_32 {ζ : ZP} : (zz ζ).1 97 32 = some 113 := rfl
theorem rf_97_36 {ζ : ZP} : (zz ζ).1 97 36 = some 114 := rfl
theorem rf_97_37 {ζ : ZP} : (zz ζ).1 97 37 = some 115 := rfl
theorem rf_97_38 {ζ : ZP} : (zz ζ).1 97 38 = some 116 := rfl
theorem rf_97_39 {ζ : ZP} : (zz ζ).1 97 39 = some 117 := rfl
theorem rf_97_40 {ζ : ZP} : (zz ζ).1 97 40 = some 118 := rfl
theorem rf_97_41 {ζ : ZP} : (zz ζ).1 97 41 = some 119 := rfl
theorem rf_97_42 {ζ : ZP} : (zz ζ).1 97 42 = some 120 := rfl
theorem rf_97_47 {ζ : ZP} : (zz ζ).1 97 47 = some 121 := rfl
theorem rf_97_51 {ζ : ZP} : (zz ζ).1 97 51 = some 122 := rfl
theorem rf_97_52 {ζ : ZP} : (zz ζ).1 97 52 = some 123 := rfl
theorem rf_97_57 {ζ : ZP} : (zz ζ).1 97 57 = some 124 := rfl
theorem rf_97_63 {ζ : ZP} : (zz ζ).1 97 63 = some 125 := rfl
theorem rf_97_64 {ζ : ZP} : (zz ζ).1 97 64 = some 126 := rfl
theorem rf_97_65 {ζ : ZP} : (zz ζ).1 97 65 = some 127 := rfl
theorem rf_97_66 {ζ : ZP} : (zz ζ).1 97 66 = some 128 := rfl
theorem rf_97_67 {ζ : ZP} : (zz ζ).1 97 67 = some 129 := rfl
theorem rf_97_68 {ζ : ZP} : (zz ζ).1 97 68 = some 130 := rfl
theorem rf_97_69 {ζ : ZP} : (zz ζ).1 97 69 = some 131 := rfl
theorem rf_97_70 {ζ : ZP} : (zz ζ).1 97 70 = some 132 := rfl
theorem rf_97_71 {ζ : ZP} : (zz ζ).1 97 71 = some 133 := rfl
theorem rf_97_72 {ζ : ZP} : (zz ζ).1 97 72 = some 134 := rfl
theorem rf_97_73 {ζ : ZP} : (zz ζ).1 97 73 = some 135 := rfl
theorem rf_97_74 {ζ : ZP} : (zz ζ).1 97 74 = some 136 := rfl
theorem rf_97_75 {ζ : ZP} : (zz ζ).1 97 75 = some 137 := rfl
theorem rf_97_76 {ζ : ZP} : (zz ζ).1 97 76 = some 138 := rfl
theorem rf_97_77 {ζ : ZP} : (zz ζ).1 97 77 = some 139 := rfl
theorem rf_97_79 {ζ : ZP} : (zz ζ).1 97 79 = some 140 := rfl
theorem rf_97_80 {ζ : ZP} : (zz ζ).1 97 80 = some 141 := rfl
theorem rf_97_81 {ζ : ZP} : (zz ζ).1 97 81 = some 142 := rfl
theorem rf_0_13 {ζ : ZP} : (zz ζ).1 0 13 = some ζ.1 := rfl
theorem rf_0_14 {ζ : ZP} : (zz ζ).1 0 14 = some ζ.2.1 := rfl
abbrev isW (w : Nat) : Prop := w = 75 ∨ w = 83
theorem shw_0 {w : Nat} (hw : isW w) : SH w = .inl 10 := by rcases hw with rfl | rfl <;> rfl
theorem alw_0 {ζ : ZP} {w : Nat} (hw : isW w) (hn : 144 ≤ ζ.2.2.2.2) : w < (zz ζ).2 := Nat.lt_of_lt_of_le (by rcases hw with rfl | rfl <;> decide) hn
theorem shw_1 {w : Nat} (hw : isW w) : SH (w + 1) = .inr (0, 12) := by rcases hw with rfl | rfl <;> rfl
theorem alw_1 {ζ : ZP} {w : Nat} (hw : isW w) (hn : 144 ≤ ζ.2.2.2.2) : (w + 1) < (zz ζ).2 := Nat.lt_of_lt_of_le (by rcases hw with rfl | rfl <;> decide) hn
theorem shw_2 {w : Nat} (hw : isW w) : SH (w + 2) = .inr (0, 12) := by rcases hw with rfl | rfl <;> rfl
theorem alw_2 {ζ : ZP} {w : Nat} (hw : isW w) (hn : 144 ≤ ζ.2.2.2.2) : (w + 2) < (zz ζ).2 := Nat.lt_of_lt_of_le (by rcases hw with rfl | rfl <;> decide) hn
theorem shw_3 {w : Nat} (hw : isW w) : SH (w + 3) = .inr (0, 12) := by rcases hw with rfl | rfl <;> rfl
theorem alw_3 {ζ : ZP} {w : Nat} (hw : isW w) (hn : 144 ≤ ζ.2.2.2.2) : (w + 3) < (zz ζ).2 := Nat.lt_of_lt_of_le (by rcases hw with rfl | rfl <;> decide) hn
theorem shw_4 {w : Nat} (hw : isW w) : SH (w + 4) = .inr (0, 64) := by rcases hw with rfl | rfl <;> rfl
theorem alw_4 {ζ : ZP} {w : Nat} (hw : isW w) (hn : 144 ≤ ζ.2.2.2.2) : (w + 4) < (zz ζ).2 := Nat.lt_of_lt_of_le (by rcases hw with rfl | rfl <;> decide) hn
theorem shw_5 {w : Nat} (hw : isW w) : SH (w + 5) = .inr (0, 64) := by rcases hw with rfl | rfl <;> rfl
theorem alw_5 {ζ : ZP} {w : Nat} (hw : isW w) (hn : 144 ≤ ζ.2.2.2.2) : (w + 5) < (zz ζ).2 := Nat.lt_of_lt_of_le (by rcases hw with rfl | rfl <;> decide) hn
theorem shw_6 {w : Nat} (hw : isW w) : SH (w + 6) = .inr (0, 64) := by rcases hw with rfl | rfl <;> rfl
theorem alw_6 {ζ : ZP} {w : Nat} (hw : isW w) (hn : 144 ≤ ζ.2.2.2.2) : (w + 6) < (zz ζ).2 := Nat.lt_of_lt_of_le (by rcases hw with rfl | rfl <;> decide) hn
theorem shw_7 {w : Nat} (hw : isW w) : SH (w + 7) = .inr (0, 12) := by rcases hw with rfl | rfl <;> rfl
theorem alw_7 {ζ : ZP} {w : Nat} (hw : isW w) (hn : 144 ≤ ζ.2.2.2.2) : (w + 7) < (zz ζ).2 := Nat.lt_of_lt_of_le (by rcases hw with rfl | rfl <;> decide) hn
theorem rfw_1 {ζ : ZP} {w : Nat} (hw : isW w) : (zz ζ).1 w 1 = some (w + 1) := by rcases hw with rfl | rfl <;> rfl
theorem rfw_2 {ζ : ZP} {w : Nat} (hw : isW w) : (zz ζ).1 w 2 = some (w + 2) := by rcases hw with rfl | rfl <;> rfl
theorem rfw_3 {ζ : ZP} {w : Nat} (hw : isW w) : (zz ζ).1 w 3 = some (w + 3) := by rcases hw with rfl | rfl <;> rfl
theorem rfw_5 {ζ : ZP} {w : Nat} (hw : isW w) : (zz ζ).1 w 5 = some (w + 4) := by rcases hw with rfl | rfl <;> rfl
theorem rfw_6 {ζ : ZP} {w : Nat} (hw : isW w) : (zz ζ).1 w 6 = some (w + 5) := by rcases hw with rfl | rfl <;> rfl
theorem rfw_7 {ζ : ZP} {w : Nat} (hw : isW w) : (zz ζ).1 w 7 = some (w + 6) := by rcases hw with rfl | rfl <;> rfl
theorem rfw_8 {ζ : ZP} {w : Nat} (hw : isW w) : (zz ζ).1 w 8 = some (w + 7) := by rcases hw with rfl | rfl <;> rfl
abbrev isU (u : Nat) : Prop := u = 144 ∨ u = 174
theorem shu_0 {u : Nat} (hu0 : isU u) : SH u = .inl 5 := by rcases hu0 with rfl | rfl <;> rfl
theorem alu_0 {ζ : ZP} {u : Nat} (hun : u + 30 ≤ ζ.2.2.2.2) : u < (zz ζ).2 := Nat.lt_of_lt_of_le (by omega) hun
theorem shu_1 {u : Nat} (hu0 : isU u) : SH (u + 1) = .inl 0 := by rcases hu0 with rfl | rfl <;> rfl
theorem alu_1 {ζ : ZP} {u : Nat} (hun : u + 30 ≤ ζ.2.2.2.2) : (u + 1) < (zz ζ).2 := Nat.lt_of_lt_of_le (by omega) hun
theorem shu_2 {u : Nat} (hu0 : isU u) : SH (u + 2) = .inr (0, 6) := by rcases hu0 with rfl | rfl <;> rfl
theorem alu_2 {ζ : ZP} {u : Nat} (hun : u + 30 ≤ ζ.2.2.2.2) : (u + 2) < (zz ζ).2 := Nat.lt_of_lt_of_le (by omega) hun
theorem shu_3 {u : Nat} (hu0 : isU u) : SH (u + 3) = .inr (0, 8) := by rcases hu0 with rfl | rfl <;> rfl
theorem alu_3 {ζ : ZP} {u : Nat} (hun : u + 30 ≤ ζ.2.2.2.2) : (u + 3) < (zz ζ).2 := Nat.lt_of_lt_of_le (by omega) hun
theorem shu_4 {u : Nat} (hu0 : isU u) : SH (u + 4) = .inr (0, 9) := by rcases hu0 with rfl | rfl <;> rfl
theorem alu_4 {ζ : ZP} {u : Nat} (hun : u + 30 ≤ ζ.2.2.2.2) : (u + 4) < (zz ζ).2 := Nat.lt_of_lt_of_le (by omega) hun
theorem shu_5 {u : Nat} (hu0 : isU u) : SH (u + 5) = .inl 3 := by rcases hu0 with rfl | rfl <;> rfl
theorem alu_5 {ζ : ZP} {u : Nat} (hun : u + 30 ≤ ζ.2.2.2.2) : (u + 5) < (zz ζ).2 := Nat.lt_of_lt_of_le (by omega) hun
theorem shu_6 {u : Nat} (hu0 : isU u) : SH (u + 6) = .inr (0, 40) := by rcases hu0 with rfl | rfl <;> rfl
theorem alu_6 {ζ : ZP} {u : Nat} (hun : u + 30 ≤ ζ.2.2.2.2) : (u + 6) < (zz ζ).2 := Nat.lt_of_lt_of_le (by omega) hun
theorem shu_7 {u : Nat} (hu0 : isU u) : SH (u + 7) = .inl 1 := by rcases hu0 with rfl | rfl <;> rfl
theorem alu_7 {ζ : ZP} {u : Nat} (hun : u + 30 ≤ ζ.2.2.2.2) : (u + 7) < (zz ζ).2 := Nat.lt_of_lt_of_le (by omega) hun
theorem shu_8 {u : Nat} (hu0 : isU u) : SH (u + 8) = .inr (0, 60) := by rcases hu0 with rfl | rfl <;> rfl
theorem alu_8 {ζ : ZP} {u : Nat} (hun : u + 30 ≤ ζ.2.2.2.2) : (u + 8) < (zz ζ).2 := Nat.lt_of_lt_of_le (by omega) hun
theorem shu_9 {u : Nat} (hu0 : isU u) : SH (u + 9) = .inr (0, 400) := by rcases hu0 with rfl | rfl <;> rfl
theorem alu_9 {ζ : ZP} {u : Nat} (hun : u + 30 ≤ ζ.2.2.2.2) : (u + 9) < (zz ζ).2 := Nat.lt_of_lt_of_le (by omega) hun
theorem shu_10 {u : Nat} (hu0 : isU u) : SH (u + 10) = .inr (0, 10) := by rcases hu0 with rfl | rfl <;> rfl
theorem alu_10 {ζ : ZP} {u : Nat} (hun : u + 30 ≤ ζ.2.2.2.2) : (u + 10) < (zz ζ).2 := Nat.lt_of_lt_of_le (by omega) hun
theorem shu_11 {u : Nat} (hu0 : isU u) : SH (u + 11) = .inr (0, 10) := by rcases hu0 with rfl | rfl <;> rfl
theorem alu_11 {ζ : ZP} {u : Nat} (hun : u + 30 ≤ ζ.2.2.2.2) : (u + 11) < (zz ζ).2 := Nat.lt_of_lt_of_le (by omega) hun
theorem shu_12 {u : Nat} (hu0 : isU u) : SH (u + 12) = .inr (0, 10) := by rcases hu0 with rfl | rfl <;> rfl
theorem alu_12 {ζ : ZP} {u : Nat} (hun : u + 30 ≤ ζ.2.2.2.2) : (u + 12) < (zz ζ).2 := Nat.lt_of_lt_of_le (by omega) hun
theorem shu_13 {u : Nat} (hu0 : isU u) : SH (u + 13) = .inr (0, 10) := by rcases hu0 with rfl | rfl <;> rfl
theorem alu_13 {ζ : ZP} {u : Nat} (hun : u + 30 ≤ ζ.2.2.2.2) : (u + 13) < (zz ζ).2 := Nat.lt_of_lt_of_le (by omega) hun
theorem shu_14 {u : Nat} (hu0 : isU u) : SH (u + 14) = .inr (0, 30) := by rcases hu0 with rfl | rfl <;> rfl
theorem alu_14 {ζ : ZP} {u : Nat} (hun : u + 30 ≤ ζ.2.2.2.2) : (u + 14) < (zz ζ).2 := Nat.lt_of_lt_of_le (by omega) hun
theorem shu_15 {u : Nat} (hu0 : isU u) : SH (u + 15) = .inr (0, 30) := by rcases hu0 with rfl | rfl <;> rfl
theorem alu_15 {ζ : ZP} {u : Nat} (hun : u + 30 ≤ ζ.2.2.2.2) : (u + 15) < (zz ζ).2 := Nat.lt_of_lt_of_le (by omega) hun
theorem shu_16 {u : Nat} (hu0 : isU u) : SH (u + 16) = .inr (0, 30) := by rcases hu0 with rfl | rfl <;> rfl
theorem alu_16 {ζ : ZP} {u : Nat} (hun : u + 30 ≤ ζ.2.2.2.2) : (u + 16) < (zz ζ).2 := Nat.lt_of_lt_of_le (by omega) hun
theorem shu_17 {u : Nat} (hu0 : isU u) : SH (u + 17) = .inr (0, 30) := by rcases hu0 with rfl | rfl <;> rfl
theorem alu_17 {ζ : ZP} {u : Nat} (hun : u + 30 ≤ ζ.2.2.2.2) : (u + 17) < (zz ζ).2 := Nat.lt_of_lt_of_le (by omega) hun
theorem shu_18 {u : Nat} (hu0 : isU u) : SH (u + 18) = .inr (0, 40) := by rcases hu0 with rfl | rfl <;> rfl
theorem alu_18 {ζ : ZP} {u : Nat} (hun : u + 30 ≤ ζ.2.2.2.2) : (u + 18) < (zz ζ).2 := Nat.lt_of_lt_of_le (by omega) hun
theorem shu_19 {u : Nat} (hu0 : isU u) : SH (u + 19) = .inr (0, 60) := by rcases hu0 with rfl | rfl <;> rfl
theorem alu_19 {ζ : ZP} {u : Nat} (hun : u + 30 ≤ ζ.2.2.2.2) : (u + 19) < (zz ζ).2 := Nat.lt_of_lt_of_le (by omega) hun
theorem shu_20 {u : Nat} (hu0 : isU u) : SH (u + 20) = .inr (0, 200) := by rcases hu0 with rfl | rfl <;> rfl
theorem alu_20 {ζ : ZP} {u : Nat} (hun : u + 30 ≤ ζ.2.2.2.2) : (u + 20) < (zz ζ).2 := Nat.lt_of_lt_of_le (by omega) hun
theorem shu_21 {u : Nat} (hu0 : isU u) : SH (u + 21) = .inr (0, 200) := by rcases hu0 with rfl | rfl <;> rfl
theorem alu_21 {ζ : ZP} {u : Nat} (hun : u + 30 ≤ ζ.2.2.2.2) : (u + 21) < (zz ζ).2 := Nat.lt_of_lt_of_le (by omega) hun
theorem shu_22 {u : Nat} (hu0 : isU u) : SH (u + 22) = .inr (0, 200) := by rcases hu0 with rfl | rfl <;> rfl
theorem alu_22 {ζ : ZP} {u : Nat} (hun : u + 30 ≤ ζ.2.2.2.2) : (u + 22) < (zz ζ).2 := Nat.lt_of_lt_of_le (by omega) hun
theorem shu_23 {u : Nat} (hu0 : isU u) : SH (u + 23) = .inr (0, 200) := by rcases hu0 with rfl | rfl <;> rfl
theorem alu_23 {ζ : ZP} {u : Nat} (hun : u + 30 ≤ ζ.2.2.2.2) : (u + 23) < (zz ζ).2 := Nat.lt_of_lt_of_le (by omega) hun
theorem shu_24 {u : Nat} (hu0 : isU u) : SH (u + 24) = .inr (0, 60) := by rcases hu0 with rfl | rfl <;> rfl
theorem alu_24 {ζ : ZP} {u : Nat} (hun : u + 30 ≤ ζ.2.2.2.2) : (u + 24) < (zz ζ).2 := Nat.lt_of_lt_of_le (by omega) hun
theorem shu_25 {u : Nat} (hu0 : isU u) : SH (u + 25) = .inr (0, 60) := by rcases hu0 with rfl | rfl <;> rfl
theorem alu_25 {ζ : ZP} {u : Nat} (hun : u + 30 ≤ ζ.2.2.2.2) : (u + 25) < (zz ζ).2 := Nat.lt_of_lt_of_le (by omega) hun
theorem shu_26 {u : Nat} (hu0 : isU u) : SH (u + 26) = .inr (0, 60) := by rcases hu0 with rfl | rfl <;> rfl
theorem alu_26 {ζ : ZP} {u : Nat} (hun : u + 30 ≤ ζ.2.2.2.2) : (u + 26) < (zz ζ).2 := Nat.lt_of_lt_of_le (by omega) hun
theorem shu_27 {u : Nat} (hu0 : isU u) : SH (u + 27) = .inr (0, 60) := by rcases hu0 with rfl | rfl <;> rfl
theorem alu_27 {ζ : ZP} {u : Nat} (hun : u + 30 ≤ ζ.2.2.2.2) : (u + 27) < (zz ζ).2 := Nat.lt_of_lt_of_le (by omega) hun
theorem shu_28 {u : Nat} (hu0 : isU u) : SH (u + 28) = .inr (0, 60) := by rcases hu0 with rfl | rfl <;> rfl
theorem alu_28 {ζ : ZP} {u : Nat} (hun : u + 30 ≤ ζ.2.2.2.2) : (u + 28) < (zz ζ).2 := Nat.lt_of_lt_of_le (by omega) hun
theorem shu_29 {u : Nat} (hu0 : isU u) : SH (u + 29) = .inr (0, 60) := by rcases hu0 with rfl | rfl <;> rfl
theorem alu_29 {ζ : ZP} {u : Nat} (hun : u + 30 ≤ ζ.2.2.2.2) : (u + 29) < (zz ζ).2 := Nat.lt_of_lt_of_le (by omega) hun
theorem rfu_0_0 {ζ : ZP} {u : Nat} (hu0 : isU u) : (zz ζ).1 u 0 = some (u + 1) := by rcases hu0 with rfl | rfl <;> rfl
theorem rfu_0_1 {ζ : ZP} {u : Nat} (hu0 : isU u) : (zz ζ).1 u 1 = some (u + 5) := by rcases hu0 with rfl | rfl <;> rfl
theorem rfu_0_2 {ζ : ZP} {u : Nat} (hu0 : isU u) : (zz ζ).1 u 2 = some (u + 7) := by rcases hu0 with rfl | rfl <;> rfl
theorem rfu_0_4 {ζ : ZP} {u : Nat} (hu0 : isU u) : (zz ζ).1 u 4 = some (u + 19) := by rcases hu0 with rfl | rfl <;> rfl
theorem rfu_0_6 {ζ : ZP} {u : Nat} (hu0 : isU u) : (zz ζ).1 u 6 = some (u + 20) := by rcases hu0 with rfl | rfl <;> rfl
theorem rfu_0_7 {ζ : ZP} {u : Nat} (hu0 : isU u) : (zz ζ).1 u 7 = some (u + 21) := by rcases hu0 with rfl | rfl <;> rfl
theorem rfu_0_8 {ζ : ZP} {u : Nat} (hu0 : isU u) : (zz ζ).1 u 8 = some (u + 22) := by rcases hu0 with rfl | rfl <;> rfl
theorem rfu_0_9 {ζ : ZP} {u : Nat} (hu0 : isU u) : (zz ζ).1 u 9 = some (u + 23) := by rcases hu0 with rfl | rfl <;> rfl
theorem rfu_0_11 {ζ : ZP} {u : Nat} (hu0 : isU u) : (zz ζ).1 u 11 = some (u + 24) := by rcases hu0 with rfl | rfl <;> rfl
theorem rfu_0_12 {ζ : ZP} {u : Nat} (hu0 : isU u) : (zz ζ).1 u 12 = some (u + 25) := by rcases hu0 with rfl | rfl <;> rfl
theorem rfu_0_13 {ζ : ZP} {u : Nat} (hu0 : isU u) : (zz ζ).1 u 13 = some (u + 26) := by rcases hu0 with rfl | rfl <;> rfl
theorem rfu_0_14 {ζ : ZP} {u : Nat} (hu0 : isU u) : (zz ζ).1 u 14 = some (u + 27) := by rcases hu0 with rfl | rfl <;> rfl
theorem rfu_0_15 {ζ : ZP} {u : Nat} (hu0 : isU u) : (zz ζ).1 u 15 = some (u + 28) := by rcases hu0 with rfl | rfl <;> rfl
theorem rfu_0_16 {ζ : ZP} {u : Nat} (hu0 : isU u) : (zz ζ).1 u 16 = some (u + 29) := by rcases hu0 with rfl | rfl <;> rfl
theorem rfu_1_0 {ζ : ZP} {u : Nat} (hu0 : isU u) : (zz ζ).1 (u + 1) 0 = some (u + 2) := by rcases hu0 with rfl | rfl <;> rfl
theorem rfu_1_1 {ζ : ZP} {u : Nat} (hu0 : isU u) : (zz ζ).1 (u + 1) 1 = some (u + 3) := by rcases hu0 with rfl | rfl <;> rfl
theorem rfu_1_2 {ζ : ZP} {u : Nat} (hu0 : isU u) : (zz ζ).1 (u + 1) 2 = some (u + 4) := by rcases hu0 with rfl | rfl <;> rfl
theorem rfu_5_0 {ζ : ZP} {u : Nat} (hu0 : isU u) : (zz ζ).1 (u + 5) 0 = some (u + 6) := by rcases hu0 with rfl | rfl <;> rfl
theorem rfu_7_1 {ζ : ZP} {u : Nat} (hu0 : isU u) : (zz ζ).1 (u + 7) 1 = some (u + 8) := by rcases hu0 with rfl | rfl <;> rfl
theorem rfu_7_2 {ζ : ZP} {u : Nat} (hu0 : isU u) : (zz ζ).1 (u + 7) 2 = some (u + 9) := by rcases hu0 with rfl | rfl <;> rfl
theorem rfu_7_3 {ζ : ZP} {u : Nat} (hu0 : isU u) : (zz ζ).1 (u + 7) 3 = some (u + 10) := by rcases hu0 with rfl | rfl <;> rfl
theorem rfu_7_4 {ζ : ZP} {u : Nat} (hu0 : isU u) : (zz ζ).1 (u + 7) 4 = some (u + 11) := by rcases hu0 with rfl | rfl <;> rfl
theorem rfu_7_5 {ζ : ZP} {u : Nat} (hu0 : isU u) : (zz ζ).1 (u + 7) 5 = some (u + 12) := by rcases hu0 with rfl | rfl <;> rfl
theorem rfu_7_6 {ζ : ZP} {u : Nat} (hu0 : isU u) : (zz ζ).1 (u + 7) 6 = some (u + 13) := by rcases hu0 with rfl | rfl <;> rfl
theorem rfu_7_8 {ζ : ZP} {u : Nat} (hu0 : isU u) : (zz ζ).1 (u + 7) 8 = some (u + 14) := by rcases hu0 with rfl | rfl <;> rfl
theorem rfu_7_9 {ζ : ZP} {u : Nat} (hu0 : isU u) : (zz ζ).1 (u + 7) 9 = some (u + 15) := by rcases hu0 with rfl | rfl <;> rfl
theorem rfu_7_10 {ζ : ZP} {u : Nat} (hu0 : isU u) : (zz ζ).1 (u + 7) 10 = some (u + 16) := by rcases hu0 with rfl | rfl <;> rfl
theorem rfu_7_11 {ζ : ZP} {u : Nat} (hu0 : isU u) : (zz ζ).1 (u + 7) 11 = some (u + 17) := by rcases hu0 with rfl | rfl <;> rfl
theorem rfu_7_13 {ζ : ZP} {u : Nat} (hu0 : isU u) : (zz ζ).1 (u + 7) 13 = some (u + 18) := by rcases hu0 with rfl | rfl <;> rfl
