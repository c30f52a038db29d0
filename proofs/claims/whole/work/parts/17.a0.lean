/-! the equations of every instruction, printed by wip/whole/gen17.py; first the links -/
theorem z_Ca_ent {g : z_G} {d m L : Nat} {as l0 : List Value} {h : z_H} {P : z_Res → Prop} (hm : z_maxL m = L) (hl : decide (as.length ≤ L) = true) (h0 : as ++ List.replicate (L - as.length) z_un = l0) : z_Ca g d m as h P = z_T g d m 0 l0 [] h P := by
  subst hm
  exact z_Ca_eq hl h0
theorem z_hd_of {mi pc t : Nat} {k : Fin 4} {E : String} {ls : List Value} (h1 : z_hdF (z_own mi) pc E (z_hds mi) = some t) (h2 : z_ins mi t = some (.astore_n k, 1)) (h3 : (k : Nat) < ls.length) : z_hd mi pc E ls = some (t + 1, ls.set k z_un) := by
  simp only [z_hd, h1, h2, if_pos h3]
theorem z_hd_of2 {mi pc t : Nat} {k : Nat} {E : String} {ls : List Value} (h1 : z_hdF (z_own mi) pc E (z_hds mi) = some t) (h2 : z_ins mi t = some (.astore k, 2)) (h3 : k < ls.length) : z_hd mi pc E ls = some (t + 2, ls.set k z_un) := by
  simp only [z_hd, h1, h2, if_pos h3]
theorem zc_1 : (vwCl[0]?).map (fun q => q.1) = some (z_own 1) := by decide +kernel
theorem zc_10 : (vwCl[1]?).map (fun q => q.1) = some (z_own 10) := by decide +kernel
theorem zc_100 : (vwCl[9]?).map (fun q => q.1) = some (z_own 100) := by decide +kernel
theorem zc_101 : (vwCl[9]?).map (fun q => q.1) = some (z_own 101) := by decide +kernel
theorem zc_102 : (vwCl[9]?).map (fun q => q.1) = some (z_own 102) := by decide +kernel
theorem zc_103 : (vwCl[9]?).map (fun q => q.1) = some (z_own 103) := by decide +kernel
theorem zc_104 : (vwCl[9]?).map (fun q => q.1) = some (z_own 104) := by decide +kernel
theorem zc_105 : (vwCl[9]?).map (fun q => q.1) = some (z_own 105) := by decide +kernel
theorem zc_106 : (vwCl[9]?).map (fun q => q.1) = some (z_own 106) := by decide +kernel
theorem zc_107 : (vwCl[9]?).map (fun q => q.1) = some (z_own 107) := by decide +kernel
theorem zc_108 : (vwCl[9]?).map (fun q => q.1) = some (z_own 108) := by decide +kernel
theorem zc_109 : (vwCl[9]?).map (fun q => q.1) = some (z_own 109) := by decide +kernel
theorem zc_11 : (vwCl[1]?).map (fun q => q.1) = some (z_own 11) := by decide +kernel
theorem zc_110 : (vwCl[9]?).map (fun q => q.1) = some (z_own 110) := by decide +kernel
theorem zc_111 : (vwCl[9]?).map (fun q => q.1) = some (z_own 111) := by decide +kernel
theorem zc_112 : (vwCl[9]?).map (fun q => q.1) = some (z_own 112) := by decide +kernel
theorem zc_113 : (vwCl[9]?).map (fun q => q.1) = some (z_own 113) := by decide +kernel
theorem zc_114 : (vwCl[9]?).map (fun q => q.1) = some (z_own 114) := by decide +kernel
theorem zc_115 : (vwCl[9]?).map (fun q => q.1) = some (z_own 115) := by decide +kernel
theorem zc_116 : (vwCl[9]?).map (fun q => q.1) = some (z_own 116) := by decide +kernel
theorem zc_118 : (vwCl[9]?).map (fun q => q.1) = some (z_own 118) := by decide +kernel
theorem zc_12 : (vwCl[1]?).map (fun q => q.1) = some (z_own 12) := by decide +kernel
theorem zc_121 : (vwCl[10]?).map (fun q => q.1) = some (z_own 121) := by decide +kernel
theorem zc_123 : (vwCl[10]?).map (fun q => q.1) = some (z_own 123) := by decide +kernel
theorem zc_124 : (vwCl[10]?).map (fun q => q.1) = some (z_own 124) := by decide +kernel
theorem zc_125 : (vwCl[10]?).map (fun q => q.1) = some (z_own 125) := by decide +kernel
theorem zc_126 : (vwCl[10]?).map (fun q => q.1) = some (z_own 126) := by decide +kernel
theorem zc_128 : (vwCl[10]?).map (fun q => q.1) = some (z_own 128) := by decide +kernel
theorem zc_129 : (vwCl[10]?).map (fun q => q.1) = some (z_own 129) := by decide +kernel
theorem zc_13 : (vwCl[1]?).map (fun q => q.1) = some (z_own 13) := by decide +kernel
theorem zc_130 : (vwCl[10]?).map (fun q => q.1) = some (z_own 130) := by decide +kernel
theorem zc_131 : (vwCl[10]?).map (fun q => q.1) = some (z_own 131) := by decide +kernel
theorem zc_132 : (vwCl[10]?).map (fun q => q.1) = some (z_own 132) := by decide +kernel
theorem zc_133 : (vwCl[10]?).map (fun q => q.1) = some (z_own 133) := by decide +kernel
theorem zc_134 : (vwCl[10]?).map (fun q => q.1) = some (z_own 134) := by decide +kernel
theorem zc_135 : (vwCl[10]?).map (fun q => q.1) = some (z_own 135) := by decide +kernel
theorem zc_136 : (vwCl[10]?).map (fun q => q.1) = some (z_own 136) := by decide +kernel
theorem zc_137 : (vwCl[10]?).map (fun q => q.1) = some (z_own 137) := by decide +kernel
theorem zc_138 : (vwCl[10]?).map (fun q => q.1) = some (z_own 138) := by decide +kernel
theorem zc_139 : (vwCl[10]?).map (fun q => q.1) = some (z_own 139) := by decide +kernel
theorem zc_14 : (vwCl[1]?).map (fun q => q.1) = some (z_own 14) := by decide +kernel
theorem zc_140 : (vwCl[10]?).map (fun q => q.1) = some (z_own 140) := by decide +kernel
theorem zc_141 : (vwCl[10]?).map (fun q => q.1) = some (z_own 141) := by decide +kernel
theorem zc_142 : (vwCl[10]?).map (fun q => q.1) = some (z_own 142) := by decide +kernel
theorem zc_143 : (vwCl[10]?).map (fun q => q.1) = some (z_own 143) := by decide +kernel
theorem zc_144 : (vwCl[10]?).map (fun q => q.1) = some (z_own 144) := by decide +kernel
theorem zc_145 : (vwCl[10]?).map (fun q => q.1) = some (z_own 145) := by decide +kernel
theorem zc_146 : (vwCl[10]?).map (fun q => q.1) = some (z_own 146) := by decide +kernel
theorem zc_147 : (vwCl[10]?).map (fun q => q.1) = some (z_own 147) := by decide +kernel
theorem zc_148 : (vwCl[10]?).map (fun q => q.1) = some (z_own 148) := by decide +kernel
theorem zc_149 : (vwCl[10]?).map (fun q => q.1) = some (z_own 149) := by decide +kernel
theorem zc_15 : (vwCl[1]?).map (fun q => q.1) = some (z_own 15) := by decide +kernel
theorem zc_152 : (vwCl[10]?).map (fun q => q.1) = some (z_own 152) := by decide +kernel
theorem zc_153 : (vwCl[10]?).map (fun q => q.1) = some (z_own 153) := by decide +kernel
theorem zc_154 : (vwCl[10]?).map (fun q => q.1) = some (z_own 154) := by decide +kernel
theorem zc_155 : (vwCl[10]?).map (fun q => q.1) = some (z_own 155) := by decide +kernel
theorem zc_156 : (vwCl[10]?).map (fun q => q.1) = some (z_own 156) := by decide +kernel
theorem zc_157 : (vwCl[10]?).map (fun q => q.1) = some (z_own 157) := by decide +kernel
theorem zc_158 : (vwCl[10]?).map (fun q => q.1) = some (z_own 158) := by decide +kernel
theorem zc_159 : (vwCl[10]?).map (fun q => q.1) = some (z_own 159) := by decide +kernel
theorem zc_16 : (vwCl[1]?).map (fun q => q.1) = some (z_own 16) := by decide +kernel
theorem zc_160 : (vwCl[10]?).map (fun q => q.1) = some (z_own 160) := by decide +kernel
theorem zc_161 : (vwCl[10]?).map (fun q => q.1) = some (z_own 161) := by decide +kernel
theorem zc_162 : (vwCl[10]?).map (fun q => q.1) = some (z_own 162) := by decide +kernel
theorem zc_163 : (vwCl[10]?).map (fun q => q.1) = some (z_own 163) := by decide +kernel
theorem zc_164 : (vwCl[10]?).map (fun q => q.1) = some (z_own 164) := by decide +kernel
theorem zc_165 : (vwCl[10]?).map (fun q => q.1) = some (z_own 165) := by decide +kernel
theorem zc_166 : (vwCl[10]?).map (fun q => q.1) = some (z_own 166) := by decide +kernel
theorem zc_167 : (vwCl[10]?).map (fun q => q.1) = some (z_own 167) := by decide +kernel
theorem zc_168 : (vwCl[10]?).map (fun q => q.1) = some (z_own 168) := by decide +kernel
theorem zc_169 : (vwCl[10]?).map (fun q => q.1) = some (z_own 169) := by decide +kernel
theorem zc_17 : (vwCl[1]?).map (fun q => q.1) = some (z_own 17) := by decide +kernel
theorem zc_170 : (vwCl[10]?).map (fun q => q.1) = some (z_own 170) := by decide +kernel
theorem zc_171 : (vwCl[10]?).map (fun q => q.1) = some (z_own 171) := by decide +kernel
theorem zc_172 : (vwCl[10]?).map (fun q => q.1) = some (z_own 172) := by decide +kernel
theorem zc_173 : (vwCl[10]?).map (fun q => q.1) = some (z_own 173) := by decide +kernel
theorem zc_174 : (vwCl[10]?).map (fun q => q.1) = some (z_own 174) := by decide +kernel
theorem zc_175 : (vwCl[10]?).map (fun q => q.1) = some (z_own 175) := by decide +kernel
theorem zc_176 : (vwCl[10]?).map (fun q => q.1) = some (z_own 176) := by decide +kernel
theorem zc_177 : (vwCl[10]?).map (fun q => q.1) = some (z_own 177) := by decide +kernel
theorem zc_178 : (vwCl[10]?).map (fun q => q.1) = some (z_own 178) := by decide +kernel
theorem zc_179 : (vwCl[10]?).map (fun q => q.1) = some (z_own 179) := by decide +kernel
theorem zc_18 : (vwCl[1]?).map (fun q => q.1) = some (z_own 18) := by decide +kernel
theorem zc_180 : (vwCl[10]?).map (fun q => q.1) = some (z_own 180) := by decide +kernel
theorem zc_181 : (vwCl[10]?).map (fun q => q.1) = some (z_own 181) := by decide +kernel
theorem zc_182 : (vwCl[10]?).map (fun q => q.1) = some (z_own 182) := by decide +kernel
theorem zc_183 : (vwCl[10]?).map (fun q => q.1) = some (z_own 183) := by decide +kernel
theorem zc_184 : (vwCl[10]?).map (fun q => q.1) = some (z_own 184) := by decide +kernel
theorem zc_185 : (vwCl[10]?).map (fun q => q.1) = some (z_own 185) := by decide +kernel
theorem zc_186 : (vwCl[10]?).map (fun q => q.1) = some (z_own 186) := by decide +kernel
theorem zc_187 : (vwCl[10]?).map (fun q => q.1) = some (z_own 187) := by decide +kernel
theorem zc_188 : (vwCl[10]?).map (fun q => q.1) = some (z_own 188) := by decide +kernel
theorem zc_189 : (vwCl[10]?).map (fun q => q.1) = some (z_own 189) := by decide +kernel
theorem zc_190 : (vwCl[10]?).map (fun q => q.1) = some (z_own 190) := by decide +kernel
theorem zc_191 : (vwCl[10]?).map (fun q => q.1) = some (z_own 191) := by decide +kernel
theorem zc_192 : (vwCl[10]?).map (fun q => q.1) = some (z_own 192) := by decide +kernel
theorem zc_193 : (vwCl[10]?).map (fun q => q.1) = some (z_own 193) := by decide +kernel
theorem zc_194 : (vwCl[10]?).map (fun q => q.1) = some (z_own 194) := by decide +kernel
theorem zc_195 : (vwCl[10]?).map (fun q => q.1) = some (z_own 195) := by decide +kernel
theorem zc_197 : (vwCl[10]?).map (fun q => q.1) = some (z_own 197) := by decide +kernel
theorem zc_198 : (vwCl[10]?).map (fun q => q.1) = some (z_own 198) := by decide +kernel
theorem zc_199 : (vwCl[10]?).map (fun q => q.1) = some (z_own 199) := by decide +kernel
theorem zc_2 : (vwCl[0]?).map (fun q => q.1) = some (z_own 2) := by decide +kernel
theorem zc_20 : (vwCl[2]?).map (fun q => q.1) = some (z_own 20) := by decide +kernel
theorem zc_200 : (vwCl[10]?).map (fun q => q.1) = some (z_own 200) := by decide +kernel
theorem zc_21 : (vwCl[2]?).map (fun q => q.1) = some (z_own 21) := by decide +kernel
theorem zc_22 : (vwCl[2]?).map (fun q => q.1) = some (z_own 22) := by decide +kernel
theorem zc_23 : (vwCl[2]?).map (fun q => q.1) = some (z_own 23) := by decide +kernel
theorem zc_24 : (vwCl[2]?).map (fun q => q.1) = some (z_own 24) := by decide +kernel
theorem zc_25 : (vwCl[2]?).map (fun q => q.1) = some (z_own 25) := by decide +kernel
theorem zc_26 : (vwCl[2]?).map (fun q => q.1) = some (z_own 26) := by decide +kernel
theorem zc_28 : (vwCl[3]?).map (fun q => q.1) = some (z_own 28) := by decide +kernel
theorem zc_29 : (vwCl[3]?).map (fun q => q.1) = some (z_own 29) := by decide +kernel
theorem zc_3 : (vwCl[0]?).map (fun q => q.1) = some (z_own 3) := by decide +kernel
theorem zc_30 : (vwCl[3]?).map (fun q => q.1) = some (z_own 30) := by decide +kernel
theorem zc_31 : (vwCl[3]?).map (fun q => q.1) = some (z_own 31) := by decide +kernel
theorem zc_32 : (vwCl[3]?).map (fun q => q.1) = some (z_own 32) := by decide +kernel
theorem zc_33 : (vwCl[3]?).map (fun q => q.1) = some (z_own 33) := by decide +kernel
theorem zc_34 : (vwCl[3]?).map (fun q => q.1) = some (z_own 34) := by decide +kernel
theorem zc_35 : (vwCl[3]?).map (fun q => q.1) = some (z_own 35) := by decide +kernel
theorem zc_36 : (vwCl[3]?).map (fun q => q.1) = some (z_own 36) := by decide +kernel
theorem zc_37 : (vwCl[3]?).map (fun q => q.1) = some (z_own 37) := by decide +kernel
theorem zc_38 : (vwCl[3]?).map (fun q => q.1) = some (z_own 38) := by decide +kernel
theorem zc_39 : (vwCl[3]?).map (fun q => q.1) = some (z_own 39) := by decide +kernel
theorem zc_4 : (vwCl[0]?).map (fun q => q.1) = some (z_own 4) := by decide +kernel
theorem zc_40 : (vwCl[3]?).map (fun q => q.1) = some (z_own 40) := by decide +kernel
theorem zc_41 : (vwCl[3]?).map (fun q => q.1) = some (z_own 41) := by decide +kernel
theorem zc_42 : (vwCl[3]?).map (fun q => q.1) = some (z_own 42) := by decide +kernel
theorem zc_44 : (vwCl[4]?).map (fun q => q.1) = some (z_own 44) := by decide +kernel
theorem zc_45 : (vwCl[4]?).map (fun q => q.1) = some (z_own 45) := by decide +kernel
theorem zc_46 : (vwCl[4]?).map (fun q => q.1) = some (z_own 46) := by decide +kernel
theorem zc_48 : (vwCl[5]?).map (fun q => q.1) = some (z_own 48) := by decide +kernel
theorem zc_49 : (vwCl[5]?).map (fun q => q.1) = some (z_own 49) := by decide +kernel
theorem zc_5 : (vwCl[0]?).map (fun q => q.1) = some (z_own 5) := by decide +kernel
theorem zc_50 : (vwCl[5]?).map (fun q => q.1) = some (z_own 50) := by decide +kernel
theorem zc_51 : (vwCl[5]?).map (fun q => q.1) = some (z_own 51) := by decide +kernel
theorem zc_52 : (vwCl[5]?).map (fun q => q.1) = some (z_own 52) := by decide +kernel
theorem zc_53 : (vwCl[5]?).map (fun q => q.1) = some (z_own 53) := by decide +kernel
theorem zc_54 : (vwCl[5]?).map (fun q => q.1) = some (z_own 54) := by decide +kernel
theorem zc_55 : (vwCl[5]?).map (fun q => q.1) = some (z_own 55) := by decide +kernel
theorem zc_56 : (vwCl[5]?).map (fun q => q.1) = some (z_own 56) := by decide +kernel
theorem zc_58 : (vwCl[6]?).map (fun q => q.1) = some (z_own 58) := by decide +kernel
theorem zc_59 : (vwCl[6]?).map (fun q => q.1) = some (z_own 59) := by decide +kernel
theorem zc_60 : (vwCl[6]?).map (fun q => q.1) = some (z_own 60) := by decide +kernel
theorem zc_61 : (vwCl[6]?).map (fun q => q.1) = some (z_own 61) := by decide +kernel
theorem zc_64 : (vwCl[7]?).map (fun q => q.1) = some (z_own 64) := by decide +kernel
theorem zc_65 : (vwCl[7]?).map (fun q => q.1) = some (z_own 65) := by decide +kernel
theorem zc_66 : (vwCl[7]?).map (fun q => q.1) = some (z_own 66) := by decide +kernel
theorem zc_67 : (vwCl[7]?).map (fun q => q.1) = some (z_own 67) := by decide +kernel
theorem zc_68 : (vwCl[7]?).map (fun q => q.1) = some (z_own 68) := by decide +kernel
theorem zc_69 : (vwCl[7]?).map (fun q => q.1) = some (z_own 69) := by decide +kernel
theorem zc_7 : (vwCl[0]?).map (fun q => q.1) = some (z_own 7) := by decide +kernel
theorem zc_71 : (vwCl[8]?).map (fun q => q.1) = some (z_own 71) := by decide +kernel
theorem zc_72 : (vwCl[8]?).map (fun q => q.1) = some (z_own 72) := by decide +kernel
theorem zc_73 : (vwCl[8]?).map (fun q => q.1) = some (z_own 73) := by decide +kernel
theorem zc_77 : (vwCl[8]?).map (fun q => q.1) = some (z_own 77) := by decide +kernel
theorem zc_78 : (vwCl[8]?).map (fun q => q.1) = some (z_own 78) := by decide +kernel
theorem zc_80 : (vwCl[9]?).map (fun q => q.1) = some (z_own 80) := by decide +kernel
theorem zc_81 : (vwCl[9]?).map (fun q => q.1) = some (z_own 81) := by decide +kernel
theorem zc_82 : (vwCl[9]?).map (fun q => q.1) = some (z_own 82) := by decide +kernel
theorem zc_83 : (vwCl[9]?).map (fun q => q.1) = some (z_own 83) := by decide +kernel
theorem zc_84 : (vwCl[9]?).map (fun q => q.1) = some (z_own 84) := by decide +kernel
theorem zc_85 : (vwCl[9]?).map (fun q => q.1) = some (z_own 85) := by decide +kernel
theorem zc_86 : (vwCl[9]?).map (fun q => q.1) = some (z_own 86) := by decide +kernel
theorem zc_87 : (vwCl[9]?).map (fun q => q.1) = some (z_own 87) := by decide +kernel
theorem zc_88 : (vwCl[9]?).map (fun q => q.1) = some (z_own 88) := by decide +kernel
theorem zc_89 : (vwCl[9]?).map (fun q => q.1) = some (z_own 89) := by decide +kernel
theorem zc_9 : (vwCl[1]?).map (fun q => q.1) = some (z_own 9) := by decide +kernel
theorem zc_90 : (vwCl[9]?).map (fun q => q.1) = some (z_own 90) := by decide +kernel
theorem zc_91 : (vwCl[9]?).map (fun q => q.1) = some (z_own 91) := by decide +kernel
theorem zc_92 : (vwCl[9]?).map (fun q => q.1) = some (z_own 92) := by decide +kernel
theorem zc_93 : (vwCl[9]?).map (fun q => q.1) = some (z_own 93) := by decide +kernel
theorem zc_94 : (vwCl[9]?).map (fun q => q.1) = some (z_own 94) := by decide +kernel
theorem zc_95 : (vwCl[9]?).map (fun q => q.1) = some (z_own 95) := by decide +kernel
theorem zc_96 : (vwCl[9]?).map (fun q => q.1) = some (z_own 96) := by decide +kernel
theorem zc_97 : (vwCl[9]?).map (fun q => q.1) = some (z_own 97) := by decide +kernel
theorem zc_98 : (vwCl[9]?).map (fun q => q.1) = some (z_own 98) := by decide +kernel
theorem zc_99 : (vwCl[9]?).map (fun q => q.1) = some (z_own 99) := by decide +kernel
theorem zf_LatinRectanglesModel_102 : z_fl "LatinRectanglesModel" 102 = some (10, 15, false, false) := by decide +kernel
theorem zf_LatinRectanglesModel_105 : z_fl "LatinRectanglesModel" 105 = some (10, 18, false, false) := by decide +kernel
theorem zf_LatinRectanglesModel_108 : z_fl "LatinRectanglesModel" 108 = some (10, 17, false, false) := by decide +kernel
theorem zf_LatinRectanglesModel_124 : z_fl "LatinRectanglesModel" 124 = some (10, 19, false, false) := by decide +kernel
theorem zf_LatinRectanglesModel_13 : z_fl "LatinRectanglesModel" 13 = some (10, 8, true, true) := by decide +kernel
theorem zf_LatinRectanglesModel_131 : z_fl "LatinRectanglesModel" 131 = some (10, 21, false, false) := by decide +kernel
theorem zf_LatinRectanglesModel_16 : z_fl "LatinRectanglesModel" 16 = some (10, 9, true, true) := by decide +kernel
theorem zf_LatinRectanglesModel_19 : z_fl "LatinRectanglesModel" 19 = some (10, 10, true, true) := by decide +kernel
theorem zf_LatinRectanglesModel_22 : z_fl "LatinRectanglesModel" 22 = some (10, 11, true, true) := by decide +kernel
theorem zf_LatinRectanglesModel_25 : z_fl "LatinRectanglesModel" 25 = some (10, 12, true, true) := by decide +kernel
theorem zf_LatinRectanglesModel_29 : z_fl "LatinRectanglesModel" 29 = some (10, 20, false, false) := by decide +kernel
theorem zf_LatinRectanglesModel_33 : z_fl "LatinRectanglesModel" 33 = some (10, 22, true, true) := by decide +kernel
theorem zf_LatinRectanglesModel_36 : z_fl "LatinRectanglesModel" 36 = some (10, 24, true, true) := by decide +kernel
theorem zf_LatinRectanglesModel_39 : z_fl "LatinRectanglesModel" 39 = some (10, 25, true, true) := by decide +kernel
theorem zf_LatinRectanglesModel_42 : z_fl "LatinRectanglesModel" 42 = some (10, 26, true, true) := by decide +kernel
theorem zf_LatinRectanglesModel_45 : z_fl "LatinRectanglesModel" 45 = some (10, 27, true, true) := by decide +kernel
theorem zf_LatinRectanglesModel_48 : z_fl "LatinRectanglesModel" 48 = some (10, 28, true, true) := by decide +kernel
theorem zf_LatinRectanglesModel_55 : z_fl "LatinRectanglesModel" 55 = some (10, 4, false, false) := by decide +kernel
theorem zf_LatinRectanglesModel_58 : z_fl "LatinRectanglesModel" 58 = some (10, 5, false, false) := by decide +kernel
theorem zf_LatinRectanglesModel_67 : z_fl "LatinRectanglesModel" 67 = some (10, 0, false, false) := by decide +kernel
theorem zf_LatinRectanglesModel_7 : z_fl "LatinRectanglesModel" 7 = some (10, 7, true, true) := by decide +kernel
theorem zf_LatinRectanglesModel_70 : z_fl "LatinRectanglesModel" 70 = some (10, 6, false, false) := by decide +kernel
theorem zf_LatinRectanglesModel_73 : z_fl "LatinRectanglesModel" 73 = some (10, 1, false, false) := by decide +kernel
theorem zf_LatinRectanglesModel_76 : z_fl "LatinRectanglesModel" 76 = some (10, 2, false, false) := by decide +kernel
theorem zf_LatinRectanglesModel_79 : z_fl "LatinRectanglesModel" 79 = some (10, 3, false, false) := by decide +kernel
theorem zf_LatinRectanglesModel_82 : z_fl "LatinRectanglesModel" 82 = some (10, 23, false, false) := by decide +kernel
theorem zf_LatinRectanglesModel_85 : z_fl "LatinRectanglesModel" 85 = some (10, 13, false, false) := by decide +kernel
theorem zf_LatinRectanglesModel_92 : z_fl "LatinRectanglesModel" 92 = some (10, 14, false, false) := by decide +kernel
theorem zf_LatinRectanglesModel_95 : z_fl "LatinRectanglesModel" 95 = some (10, 16, false, false) := by decide +kernel
theorem zf_LatinRectangles_102 : z_fl "LatinRectangles" 102 = some (5, 3, false, false) := by decide +kernel
theorem zf_LatinRectangles_105 : z_fl "LatinRectangles" 105 = some (5, 2, false, false) := by decide +kernel
theorem zf_LatinRectangles_108 : z_fl "LatinRectangles" 108 = some (5, 1, true, true) := by decide +kernel
theorem zf_LatinRectangles_12 : z_fl "LatinRectangles" 12 = some (9, 0, true, true) := by decide +kernel
theorem zf_LatinRectangles_122 : z_fl "LatinRectangles" 122 = some (3, 5, false, false) := by decide +kernel
theorem zf_LatinRectangles_125 : z_fl "LatinRectangles" 125 = some (3, 6, false, false) := by decide +kernel
theorem zf_LatinRectangles_128 : z_fl "LatinRectangles" 128 = some (3, 7, false, false) := by decide +kernel
theorem zf_LatinRectangles_131 : z_fl "LatinRectangles" 131 = some (3, 8, false, false) := by decide +kernel
theorem zf_LatinRectangles_134 : z_fl "LatinRectangles" 134 = some (3, 9, false, false) := by decide +kernel
theorem zf_LatinRectangles_147 : z_fl "LatinRectangles" 147 = some (3, 0, true, true) := by decide +kernel
theorem zf_LatinRectangles_150 : z_fl "LatinRectangles" 150 = some (3, 1, true, true) := by decide +kernel
theorem zf_LatinRectangles_19 : z_fl "LatinRectangles" 19 = some (9, 1, true, true) := by decide +kernel
theorem zf_LatinRectangles_271 : z_fl "LatinRectangles" 271 = some (6, 0, true, true) := by decide +kernel
theorem zf_LatinRectangles_28 : z_fl "LatinRectangles" 28 = some (9, 2, true, true) := by decide +kernel
theorem zf_LatinRectangles_295 : z_fl "LatinRectangles" 295 = some (6, 1, true, true) := by decide +kernel
theorem zf_LatinRectangles_37 : z_fl "LatinRectangles" 37 = some (9, 3, true, true) := by decide +kernel
theorem zf_LatinRectangles_44 : z_fl "LatinRectangles" 44 = some (9, 4, true, true) := by decide +kernel
theorem zf_LatinRectangles_51 : z_fl "LatinRectangles" 51 = some (9, 5, true, true) := by decide +kernel
theorem zf_LatinRectangles_58 : z_fl "LatinRectangles" 58 = some (9, 6, true, true) := by decide +kernel
theorem zf_LatinRectangles_65 : z_fl "LatinRectangles" 65 = some (9, 7, true, true) := by decide +kernel
theorem zf_LatinRectangles_72 : z_fl "LatinRectangles" 72 = some (9, 8, true, true) := by decide +kernel
theorem zf_LatinRectangles_76 : z_fl "LatinRectangles" 76 = some (9, 9, true, true) := by decide +kernel
theorem zf_LatinRectangles_80 : z_fl "LatinRectangles" 80 = some (9, 10, false, false) := by decide +kernel
theorem zf_LatinRectangles_84 : z_fl "LatinRectangles" 84 = some (7, 1, false, false) := by decide +kernel
theorem zf_LatinRectangles_Completions_12 : z_fl "LatinRectangles$Completions" 12 = some (0, 1, true, true) := by decide +kernel
theorem zf_LatinRectangles_Completions_18 : z_fl "LatinRectangles$Completions" 18 = some (0, 2, true, true) := by decide +kernel
theorem zf_LatinRectangles_Completions_22 : z_fl "LatinRectangles$Completions" 22 = some (0, 0, true, true) := by decide +kernel
theorem zf_LatinRectangles_Completions_33 : z_fl "LatinRectangles$Completions" 33 = some (3, 6, false, false) := by decide +kernel
theorem zf_LatinRectangles_Completions_37 : z_fl "LatinRectangles$Completions" 37 = some (3, 0, true, true) := by decide +kernel
theorem zf_LatinRectangles_Completions_55 : z_fl "LatinRectangles$Completions" 55 = some (0, 3, false, false) := by decide +kernel
theorem zf_LatinRectangles_Completions_58 : z_fl "LatinRectangles$Completions" 58 = some (3, 5, false, false) := by decide +kernel
theorem zf_LatinRectangles_Cycles_15 : z_fl "LatinRectangles$Cycles" 15 = some (1, 0, true, true) := by decide +kernel
theorem zf_LatinRectangles_Cycles_19 : z_fl "LatinRectangles$Cycles" 19 = some (3, 6, false, false) := by decide +kernel
theorem zf_LatinRectangles_Cycles_25 : z_fl "LatinRectangles$Cycles" 25 = some (3, 0, true, true) := by decide +kernel
theorem zf_LatinRectangles_Cycles_35 : z_fl "LatinRectangles$Cycles" 35 = some (1, 2, false, false) := by decide +kernel
theorem zf_LatinRectangles_Cycles_38 : z_fl "LatinRectangles$Cycles" 38 = some (3, 5, false, false) := by decide +kernel
theorem zf_LatinRectangles_Cycles_63 : z_fl "LatinRectangles$Cycles" 63 = some (3, 1, true, true) := by decide +kernel
theorem zf_LatinRectangles_Cycles_9 : z_fl "LatinRectangles$Cycles" 9 = some (1, 1, true, true) := by decide +kernel
theorem zf_LatinRectangles_Forces_15 : z_fl "LatinRectangles$Forces" 15 = some (3, 5, false, false) := by decide +kernel
theorem zf_LatinRectangles_Forces_21 : z_fl "LatinRectangles$Forces" 21 = some (3, 6, false, false) := by decide +kernel
theorem zf_LatinRectangles_Forces_9 : z_fl "LatinRectangles$Forces" 9 = some (2, 0, true, true) := by decide +kernel
theorem zf_LatinRectangles_Grid_15 : z_fl "LatinRectangles$Grid" 15 = some (3, 1, true, true) := by decide +kernel
theorem zf_LatinRectangles_Grid_19 : z_fl "LatinRectangles$Grid" 19 = some (3, 2, true, true) := by decide +kernel
theorem zf_LatinRectangles_Grid_22 : z_fl "LatinRectangles$Grid" 22 = some (3, 3, true, true) := by decide +kernel
theorem zf_LatinRectangles_Grid_25 : z_fl "LatinRectangles$Grid" 25 = some (3, 4, true, true) := by decide +kernel
theorem zf_LatinRectangles_Grid_32 : z_fl "LatinRectangles$Grid" 32 = some (3, 5, false, false) := by decide +kernel
theorem zf_LatinRectangles_Grid_36 : z_fl "LatinRectangles$Grid" 36 = some (3, 6, false, false) := by decide +kernel
theorem zf_LatinRectangles_Grid_39 : z_fl "LatinRectangles$Grid" 39 = some (3, 8, false, false) := by decide +kernel
theorem zf_LatinRectangles_Grid_42 : z_fl "LatinRectangles$Grid" 42 = some (3, 9, false, false) := by decide +kernel
theorem zf_LatinRectangles_Grid_48 : z_fl "LatinRectangles$Grid" 48 = some (3, 7, false, false) := by decide +kernel
theorem zf_LatinRectangles_Grid_9 : z_fl "LatinRectangles$Grid" 9 = some (3, 0, true, true) := by decide +kernel
theorem zf_LatinRectangles_History_11 : z_fl "LatinRectangles$History" 11 = some (4, 0, true, true) := by decide +kernel
theorem zf_LatinRectangles_History_16 : z_fl "LatinRectangles$History" 16 = some (4, 1, false, false) := by decide +kernel
theorem zf_LatinRectangles_History_20 : z_fl "LatinRectangles$History" 20 = some (4, 2, false, false) := by decide +kernel
theorem zf_LatinRectangles_Parser_103 : z_fl "LatinRectangles$Parser" 103 = some (3, 0, true, true) := by decide +kernel
theorem zf_LatinRectangles_Parser_12 : z_fl "LatinRectangles$Parser" 12 = some (5, 1, true, true) := by decide +kernel
theorem zf_LatinRectangles_Parser_18 : z_fl "LatinRectangles$Parser" 18 = some (5, 0, true, true) := by decide +kernel
theorem zf_LatinRectangles_Parser_22 : z_fl "LatinRectangles$Parser" 22 = some (5, 2, false, false) := by decide +kernel
theorem zf_LatinRectangles_Parser_26 : z_fl "LatinRectangles$Parser" 26 = some (5, 3, false, false) := by decide +kernel
theorem zf_LatinRectangles_Parser_42 : z_fl "LatinRectangles$Parser" 42 = some (7, 4, false, false) := by decide +kernel
theorem zf_LatinRectangles_Parser_52 : z_fl "LatinRectangles$Parser" 52 = some (7, 5, false, false) := by decide +kernel
theorem zf_LatinRectangles_Parser_65 : z_fl "LatinRectangles$Parser" 65 = some (7, 6, false, false) := by decide +kernel
theorem zf_LatinRectangles_Parser_85 : z_fl "LatinRectangles$Parser" 85 = some (3, 9, false, false) := by decide +kernel
theorem zf_LatinRectangles_Parser_88 : z_fl "LatinRectangles$Parser" 88 = some (3, 5, false, false) := by decide +kernel
theorem zf_LatinRectangles_Parser_91 : z_fl "LatinRectangles$Parser" 91 = some (3, 6, false, false) := by decide +kernel
theorem zf_LatinRectangles_Snapshots_11 : z_fl "LatinRectangles$Snapshots" 11 = some (6, 0, true, true) := by decide +kernel
theorem zf_LatinRectangles_Snapshots_16 : z_fl "LatinRectangles$Snapshots" 16 = some (6, 1, true, true) := by decide +kernel
theorem zf_LatinRectangles_Snapshots_26 : z_fl "LatinRectangles$Snapshots" 26 = some (3, 0, true, true) := by decide +kernel
theorem zf_LatinRectangles_Text_15 : z_fl "LatinRectangles$Text" 15 = some (7, 1, false, false) := by decide +kernel
theorem zf_LatinRectangles_Text_25 : z_fl "LatinRectangles$Text" 25 = some (7, 2, false, false) := by decide +kernel
theorem zf_LatinRectangles_Text_28 : z_fl "LatinRectangles$Text" 28 = some (7, 3, false, false) := by decide +kernel
theorem zf_LatinRectangles_Text_31 : z_fl "LatinRectangles$Text" 31 = some (7, 5, false, false) := by decide +kernel
theorem zf_LatinRectangles_Text_34 : z_fl "LatinRectangles$Text" 34 = some (7, 4, false, false) := by decide +kernel
theorem zf_LatinRectangles_Text_37 : z_fl "LatinRectangles$Text" 37 = some (7, 6, false, false) := by decide +kernel
theorem zf_LatinRectangles_Text_9 : z_fl "LatinRectangles$Text" 9 = some (7, 0, true, true) := by decide +kernel
theorem zf_LatinRectangles_Transversals_15 : z_fl "LatinRectangles$Transversals" 15 = some (8, 0, true, true) := by decide +kernel
theorem zf_LatinRectangles_Transversals_19 : z_fl "LatinRectangles$Transversals" 19 = some (8, 2, false, false) := by decide +kernel
theorem zf_LatinRectangles_Transversals_23 : z_fl "LatinRectangles$Transversals" 23 = some (8, 3, false, false) := by decide +kernel
theorem zf_LatinRectangles_Transversals_37 : z_fl "LatinRectangles$Transversals" 37 = some (3, 5, false, false) := by decide +kernel
theorem zf_LatinRectangles_Transversals_42 : z_fl "LatinRectangles$Transversals" 42 = some (3, 6, false, false) := by decide +kernel
theorem zf_LatinRectangles_Transversals_58 : z_fl "LatinRectangles$Transversals" 58 = some (3, 0, true, true) := by decide +kernel
theorem zf_LatinRectangles_Transversals_9 : z_fl "LatinRectangles$Transversals" 9 = some (8, 1, true, true) := by decide +kernel
theorem zk_LatinRectanglesLaw_100 : z_clk "LatinRectanglesLaw" 100 = some (141, 0, 1) := by decide +kernel
theorem zk_LatinRectanglesLaw_101 : z_clk "LatinRectanglesLaw" 101 = some (121, 0, 0) := by decide +kernel
theorem zk_LatinRectanglesLaw_105 : z_clk "LatinRectanglesLaw" 105 = some (82, 0, 0) := by decide +kernel
theorem zk_LatinRectanglesLaw_108 : z_clk "LatinRectanglesLaw" 108 = some (142, 0, 0) := by decide +kernel
theorem zk_LatinRectanglesLaw_109 : z_clk "LatinRectanglesLaw" 109 = some (203, 1, 3) := by decide +kernel
theorem zk_LatinRectanglesLaw_111 : z_clk "LatinRectanglesLaw" 111 = some (154, 0, 1) := by decide +kernel
theorem zk_LatinRectanglesLaw_112 : z_clk "LatinRectanglesLaw" 112 = some (204, 1, 4) := by decide +kernel
theorem zk_LatinRectanglesLaw_115 : z_clk "LatinRectanglesLaw" 115 = some (155, 0, 2) := by decide +kernel
theorem zk_LatinRectanglesLaw_116 : z_clk "LatinRectanglesLaw" 116 = some (205, 1, 4) := by decide +kernel
theorem zk_LatinRectanglesLaw_118 : z_clk "LatinRectanglesLaw" 118 = some (156, 0, 2) := by decide +kernel
theorem zk_LatinRectanglesLaw_119 : z_clk "LatinRectanglesLaw" 119 = some (206, 1, 4) := by decide +kernel
theorem zk_LatinRectanglesLaw_121 : z_clk "LatinRectanglesLaw" 121 = some (157, 0, 2) := by decide +kernel
theorem zk_LatinRectanglesLaw_122 : z_clk "LatinRectanglesLaw" 122 = some (87, 0, 0) := by decide +kernel
theorem zk_LatinRectanglesLaw_125 : z_clk "LatinRectanglesLaw" 125 = some (161, 0, 0) := by decide +kernel
theorem zk_LatinRectanglesLaw_126 : z_clk "LatinRectanglesLaw" 126 = some (207, 1, 4) := by decide +kernel
theorem zk_LatinRectanglesLaw_128 : z_clk "LatinRectanglesLaw" 128 = some (162, 0, 2) := by decide +kernel
theorem zk_LatinRectanglesLaw_129 : z_clk "LatinRectanglesLaw" 129 = some (208, 1, 4) := by decide +kernel
theorem zk_LatinRectanglesLaw_131 : z_clk "LatinRectanglesLaw" 131 = some (163, 0, 2) := by decide +kernel
theorem zk_LatinRectanglesLaw_132 : z_clk "LatinRectanglesLaw" 132 = some (90, 0, 1) := by decide +kernel
theorem zk_LatinRectanglesLaw_135 : z_clk "LatinRectanglesLaw" 135 = some (165, 0, 1) := by decide +kernel
theorem zk_LatinRectanglesLaw_136 : z_clk "LatinRectanglesLaw" 136 = some (91, 0, 1) := by decide +kernel
theorem zk_LatinRectanglesLaw_139 : z_clk "LatinRectanglesLaw" 139 = some (166, 0, 1) := by decide +kernel
theorem zk_LatinRectanglesLaw_140 : z_clk "LatinRectanglesLaw" 140 = some (209, 1, 3) := by decide +kernel
theorem zk_LatinRectanglesLaw_142 : z_clk "LatinRectanglesLaw" 142 = some (168, 0, 1) := by decide +kernel
theorem zk_LatinRectanglesLaw_143 : z_clk "LatinRectanglesLaw" 143 = some (210, 1, 4) := by decide +kernel
theorem zk_LatinRectanglesLaw_145 : z_clk "LatinRectanglesLaw" 145 = some (169, 0, 2) := by decide +kernel
theorem zk_LatinRectanglesLaw_146 : z_clk "LatinRectanglesLaw" 146 = some (211, 1, 4) := by decide +kernel
theorem zk_LatinRectanglesLaw_148 : z_clk "LatinRectanglesLaw" 148 = some (170, 0, 2) := by decide +kernel
theorem zk_LatinRectanglesLaw_149 : z_clk "LatinRectanglesLaw" 149 = some (95, 0, 0) := by decide +kernel
theorem zk_LatinRectanglesLaw_15 : z_clk "LatinRectanglesLaw" 15 = some (83, 0, 1) := by decide +kernel
theorem zk_LatinRectanglesLaw_152 : z_clk "LatinRectanglesLaw" 152 = some (172, 0, 0) := by decide +kernel
theorem zk_LatinRectanglesLaw_153 : z_clk "LatinRectanglesLaw" 153 = some (212, 1, 4) := by decide +kernel
theorem zk_LatinRectanglesLaw_155 : z_clk "LatinRectanglesLaw" 155 = some (173, 0, 2) := by decide +kernel
theorem zk_LatinRectanglesLaw_156 : z_clk "LatinRectanglesLaw" 156 = some (213, 1, 3) := by decide +kernel
theorem zk_LatinRectanglesLaw_158 : z_clk "LatinRectanglesLaw" 158 = some (174, 0, 1) := by decide +kernel
theorem zk_LatinRectanglesLaw_159 : z_clk "LatinRectanglesLaw" 159 = some (98, 0, 0) := by decide +kernel
theorem zk_LatinRectanglesLaw_162 : z_clk "LatinRectanglesLaw" 162 = some (176, 0, 0) := by decide +kernel
theorem zk_LatinRectanglesLaw_163 : z_clk "LatinRectanglesLaw" 163 = some (214, 1, 5) := by decide +kernel
theorem zk_LatinRectanglesLaw_166 : z_clk "LatinRectanglesLaw" 166 = some (179, 0, 3) := by decide +kernel
theorem zk_LatinRectanglesLaw_167 : z_clk "LatinRectanglesLaw" 167 = some (215, 1, 4) := by decide +kernel
theorem zk_LatinRectanglesLaw_169 : z_clk "LatinRectanglesLaw" 169 = some (180, 0, 2) := by decide +kernel
theorem zk_LatinRectanglesLaw_170 : z_clk "LatinRectanglesLaw" 170 = some (101, 0, 0) := by decide +kernel
theorem zk_LatinRectanglesLaw_173 : z_clk "LatinRectanglesLaw" 173 = some (182, 0, 0) := by decide +kernel
theorem zk_LatinRectanglesLaw_174 : z_clk "LatinRectanglesLaw" 174 = some (216, 1, 3) := by decide +kernel
theorem zk_LatinRectanglesLaw_176 : z_clk "LatinRectanglesLaw" 176 = some (186, 0, 1) := by decide +kernel
theorem zk_LatinRectanglesLaw_177 : z_clk "LatinRectanglesLaw" 177 = some (217, 1, 3) := by decide +kernel
theorem zk_LatinRectanglesLaw_179 : z_clk "LatinRectanglesLaw" 179 = some (188, 0, 1) := by decide +kernel
theorem zk_LatinRectanglesLaw_18 : z_clk "LatinRectanglesLaw" 18 = some (84, 0, 2) := by decide +kernel
theorem zk_LatinRectanglesLaw_180 : z_clk "LatinRectanglesLaw" 180 = some (218, 1, 5) := by decide +kernel
theorem zk_LatinRectanglesLaw_182 : z_clk "LatinRectanglesLaw" 182 = some (189, 0, 3) := by decide +kernel
theorem zk_LatinRectanglesLaw_183 : z_clk "LatinRectanglesLaw" 183 = some (219, 1, 4) := by decide +kernel
theorem zk_LatinRectanglesLaw_185 : z_clk "LatinRectanglesLaw" 185 = some (190, 0, 2) := by decide +kernel
theorem zk_LatinRectanglesLaw_186 : z_clk "LatinRectanglesLaw" 186 = some (106, 0, 0) := by decide +kernel
theorem zk_LatinRectanglesLaw_189 : z_clk "LatinRectanglesLaw" 189 = some (191, 0, 0) := by decide +kernel
theorem zk_LatinRectanglesLaw_190 : z_clk "LatinRectanglesLaw" 190 = some (220, 1, 3) := by decide +kernel
theorem zk_LatinRectanglesLaw_192 : z_clk "LatinRectanglesLaw" 192 = some (193, 0, 1) := by decide +kernel
theorem zk_LatinRectanglesLaw_193 : z_clk "LatinRectanglesLaw" 193 = some (221, 1, 5) := by decide +kernel
theorem zk_LatinRectanglesLaw_195 : z_clk "LatinRectanglesLaw" 195 = some (195, 0, 3) := by decide +kernel
theorem zk_LatinRectanglesLaw_196 : z_clk "LatinRectanglesLaw" 196 = some (109, 0, 0) := by decide +kernel
theorem zk_LatinRectanglesLaw_199 : z_clk "LatinRectanglesLaw" 199 = some (198, 0, 0) := by decide +kernel
theorem zk_LatinRectanglesLaw_200 : z_clk "LatinRectanglesLaw" 200 = some (222, 1, 3) := by decide +kernel
theorem zk_LatinRectanglesLaw_202 : z_clk "LatinRectanglesLaw" 202 = some (199, 0, 1) := by decide +kernel
theorem zk_LatinRectanglesLaw_203 : z_clk "LatinRectanglesLaw" 203 = some (223, 1, 3) := by decide +kernel
theorem zk_LatinRectanglesLaw_205 : z_clk "LatinRectanglesLaw" 205 = some (200, 0, 1) := by decide +kernel
theorem zk_LatinRectanglesLaw_24 : z_clk "LatinRectanglesLaw" 24 = some (85, 0, 2) := by decide +kernel
theorem zk_LatinRectanglesLaw_28 : z_clk "LatinRectanglesLaw" 28 = some (86, 0, 2) := by decide +kernel
theorem zk_LatinRectanglesLaw_31 : z_clk "LatinRectanglesLaw" 31 = some (88, 0, 2) := by decide +kernel
theorem zk_LatinRectanglesLaw_34 : z_clk "LatinRectanglesLaw" 34 = some (89, 0, 2) := by decide +kernel
theorem zk_LatinRectanglesLaw_37 : z_clk "LatinRectanglesLaw" 37 = some (92, 0, 1) := by decide +kernel
theorem zk_LatinRectanglesLaw_40 : z_clk "LatinRectanglesLaw" 40 = some (93, 0, 2) := by decide +kernel
theorem zk_LatinRectanglesLaw_43 : z_clk "LatinRectanglesLaw" 43 = some (94, 0, 2) := by decide +kernel
theorem zk_LatinRectanglesLaw_46 : z_clk "LatinRectanglesLaw" 46 = some (96, 0, 2) := by decide +kernel
theorem zk_LatinRectanglesLaw_49 : z_clk "LatinRectanglesLaw" 49 = some (97, 0, 1) := by decide +kernel
theorem zk_LatinRectanglesLaw_52 : z_clk "LatinRectanglesLaw" 52 = some (99, 0, 3) := by decide +kernel
theorem zk_LatinRectanglesLaw_58 : z_clk "LatinRectanglesLaw" 58 = some (100, 0, 2) := by decide +kernel
theorem zk_LatinRectanglesLaw_61 : z_clk "LatinRectanglesLaw" 61 = some (102, 0, 1) := by decide +kernel
theorem zk_LatinRectanglesLaw_64 : z_clk "LatinRectanglesLaw" 64 = some (103, 0, 1) := by decide +kernel
theorem zk_LatinRectanglesLaw_68 : z_clk "LatinRectanglesLaw" 68 = some (104, 0, 3) := by decide +kernel
theorem zk_LatinRectanglesLaw_7 : z_clk "LatinRectanglesLaw" 7 = some (81, 0, 1) := by decide +kernel
theorem zk_LatinRectanglesLaw_71 : z_clk "LatinRectanglesLaw" 71 = some (105, 0, 2) := by decide +kernel
theorem zk_LatinRectanglesLaw_74 : z_clk "LatinRectanglesLaw" 74 = some (107, 0, 1) := by decide +kernel
theorem zk_LatinRectanglesLaw_77 : z_clk "LatinRectanglesLaw" 77 = some (108, 0, 3) := by decide +kernel
theorem zk_LatinRectanglesLaw_80 : z_clk "LatinRectanglesLaw" 80 = some (110, 0, 1) := by decide +kernel
theorem zk_LatinRectanglesLaw_83 : z_clk "LatinRectanglesLaw" 83 = some (111, 0, 1) := by decide +kernel
theorem zk_LatinRectanglesLaw_86 : z_clk "LatinRectanglesLaw" 86 = some (79, 2, 0) := by decide +kernel
theorem zk_LatinRectanglesLaw_89 : z_clk "LatinRectanglesLaw" 89 = some (120, 2, 0) := by decide +kernel
theorem zk_LatinRectanglesLaw_90 : z_clk "LatinRectanglesLaw" 90 = some (80, 0, 5) := by decide +kernel
theorem zk_LatinRectanglesLaw_94 : z_clk "LatinRectanglesLaw" 94 = some (128, 0, 5) := by decide +kernel
theorem zk_LatinRectanglesLaw_95 : z_clk "LatinRectanglesLaw" 95 = some (202, 1, 3) := by decide +kernel
theorem zk_LatinRectanglesModel_111 : z_clk "LatinRectanglesModel" 111 = some (122, 1, 3) := by decide +kernel
theorem zk_LatinRectanglesModel_127 : z_clk "LatinRectanglesModel" 127 = some (133, 0, 1) := by decide +kernel
theorem zk_LatinRectanglesModel_134 : z_clk "LatinRectanglesModel" 134 = some (131, 0, 0) := by decide +kernel
theorem zk_LatinRectanglesModel_139 : z_clk "LatinRectanglesModel" 139 = some (132, 0, 1) := by decide +kernel
theorem zk_LatinRectanglesModel_143 : z_clk "LatinRectanglesModel" 143 = some (134, 0, 2) := by decide +kernel
theorem zk_LatinRectanglesModel_147 : z_clk "LatinRectanglesModel" 147 = some (135, 0, 0) := by decide +kernel
theorem zk_LatinRectanglesModel_151 : z_clk "LatinRectanglesModel" 151 = some (127, 1, 2) := by decide +kernel
theorem zk_LatinRectanglesModel_155 : z_clk "LatinRectanglesModel" 155 = some (137, 0, 3) := by decide +kernel
theorem zk_LatinRectanglesModel_161 : z_clk "LatinRectanglesModel" 161 = some (139, 0, 2) := by decide +kernel
theorem zk_LatinRectanglesModel_164 : z_clk "LatinRectanglesModel" 164 = some (138, 0, 2) := by decide +kernel
theorem zk_LatinRectanglesModel_167 : z_clk "LatinRectanglesModel" 167 = some (123, 0, 2) := by decide +kernel
theorem zk_LatinRectanglesModel_171 : z_clk "LatinRectanglesModel" 171 = some (136, 0, 0) := by decide +kernel
theorem zk_LatinRectanglesModel_174 : z_clk "LatinRectanglesModel" 174 = some (140, 0, 0) := by decide +kernel
theorem zk_LatinRectanglesModel_177 : z_clk "LatinRectanglesModel" 177 = some (143, 0, 1) := by decide +kernel
theorem zk_LatinRectanglesModel_180 : z_clk "LatinRectanglesModel" 180 = some (145, 0, 2) := by decide +kernel
theorem zk_LatinRectanglesModel_183 : z_clk "LatinRectanglesModel" 183 = some (149, 0, 2) := by decide +kernel
theorem zk_LatinRectanglesModel_186 : z_clk "LatinRectanglesModel" 186 = some (148, 0, 1) := by decide +kernel
theorem zk_LatinRectanglesModel_189 : z_clk "LatinRectanglesModel" 189 = some (146, 0, 0) := by decide +kernel
theorem zk_LatinRectanglesModel_192 : z_clk "LatinRectanglesModel" 192 = some (147, 0, 0) := by decide +kernel
theorem zk_LatinRectanglesModel_195 : z_clk "LatinRectanglesModel" 195 = some (152, 0, 0) := by decide +kernel
theorem zk_LatinRectanglesModel_198 : z_clk "LatinRectanglesModel" 198 = some (153, 0, 0) := by decide +kernel
theorem zk_LatinRectanglesModel_201 : z_clk "LatinRectanglesModel" 201 = some (144, 0, 2) := by decide +kernel
theorem zk_LatinRectanglesModel_204 : z_clk "LatinRectanglesModel" 204 = some (150, 1, 1) := by decide +kernel
theorem zk_LatinRectanglesModel_207 : z_clk "LatinRectanglesModel" 207 = some (151, 1, 1) := by decide +kernel
theorem zk_LatinRectanglesModel_210 : z_clk "LatinRectanglesModel" 210 = some (158, 0, 3) := by decide +kernel
theorem zk_LatinRectanglesModel_214 : z_clk "LatinRectanglesModel" 214 = some (159, 0, 2) := by decide +kernel
theorem zk_LatinRectanglesModel_217 : z_clk "LatinRectanglesModel" 217 = some (160, 0, 1) := by decide +kernel
theorem zk_LatinRectanglesModel_220 : z_clk "LatinRectanglesModel" 220 = some (164, 0, 1) := by decide +kernel
theorem zk_LatinRectanglesModel_223 : z_clk "LatinRectanglesModel" 223 = some (167, 0, 3) := by decide +kernel
theorem zk_LatinRectanglesModel_226 : z_clk "LatinRectanglesModel" 226 = some (171, 0, 5) := by decide +kernel
theorem zk_LatinRectanglesModel_230 : z_clk "LatinRectanglesModel" 230 = some (175, 0, 3) := by decide +kernel
theorem zk_LatinRectanglesModel_234 : z_clk "LatinRectanglesModel" 234 = some (178, 0, 3) := by decide +kernel
theorem zk_LatinRectanglesModel_237 : z_clk "LatinRectanglesModel" 237 = some (177, 0, 3) := by decide +kernel
theorem zk_LatinRectanglesModel_240 : z_clk "LatinRectanglesModel" 240 = some (181, 0, 2) := by decide +kernel
theorem zk_LatinRectanglesModel_243 : z_clk "LatinRectanglesModel" 243 = some (183, 0, 1) := by decide +kernel
theorem zk_LatinRectanglesModel_246 : z_clk "LatinRectanglesModel" 246 = some (184, 0, 1) := by decide +kernel
theorem zk_LatinRectanglesModel_249 : z_clk "LatinRectanglesModel" 249 = some (185, 0, 1) := by decide +kernel
theorem zk_LatinRectanglesModel_252 : z_clk "LatinRectanglesModel" 252 = some (187, 0, 3) := by decide +kernel
theorem zk_LatinRectanglesModel_255 : z_clk "LatinRectanglesModel" 255 = some (197, 0, 0) := by decide +kernel
theorem zk_LatinRectanglesModel_258 : z_clk "LatinRectanglesModel" 258 = some (192, 0, 2) := by decide +kernel
theorem zk_LatinRectanglesModel_261 : z_clk "LatinRectanglesModel" 261 = some (196, 1, 5) := by decide +kernel
theorem zk_LatinRectanglesModel_265 : z_clk "LatinRectanglesModel" 265 = some (194, 0, 3) := by decide +kernel
theorem zk_LatinRectanglesModel_52 : z_clk "LatinRectanglesModel" 52 = some (124, 0, 0) := by decide +kernel
theorem zk_LatinRectanglesModel_61 : z_clk "LatinRectanglesModel" 61 = some (125, 0, 0) := by decide +kernel
theorem zk_LatinRectanglesModel_64 : z_clk "LatinRectanglesModel" 64 = some (126, 0, 0) := by decide +kernel
theorem zk_LatinRectanglesModel_88 : z_clk "LatinRectanglesModel" 88 = some (129, 0, 1) := by decide +kernel
theorem zk_LatinRectanglesModel_98 : z_clk "LatinRectanglesModel" 98 = some (130, 0, 1) := by decide +kernel
theorem zk_LatinRectangles_11 : z_clk "LatinRectangles" 11 = some (27, 2, 0) := by decide +kernel
theorem zk_LatinRectangles_111 : z_clk "LatinRectangles" 111 = some (30, 0, 1) := by decide +kernel
theorem zk_LatinRectangles_114 : z_clk "LatinRectangles" 114 = some (44, 0, 0) := by decide +kernel
theorem zk_LatinRectangles_117 : z_clk "LatinRectangles" 117 = some (58, 0, 0) := by decide +kernel
theorem zk_LatinRectangles_118 : z_clk "LatinRectangles" 118 = some (117, 1, 2) := by decide +kernel
theorem zk_LatinRectangles_137 : z_clk "LatinRectangles" 137 = some (41, 0, 0) := by decide +kernel
theorem zk_LatinRectangles_141 : z_clk "LatinRectangles" 141 = some (40, 0, 0) := by decide +kernel
theorem zk_LatinRectangles_144 : z_clk "LatinRectangles" 144 = some (113, 0, 2) := by decide +kernel
theorem zk_LatinRectangles_154 : z_clk "LatinRectangles" 154 = some (38, 0, 2) := by decide +kernel
theorem zk_LatinRectangles_158 : z_clk "LatinRectangles" 158 = some (20, 0, 0) := by decide +kernel
theorem zk_LatinRectangles_161 : z_clk "LatinRectangles" 161 = some (21, 0, 1) := by decide +kernel
theorem zk_LatinRectangles_165 : z_clk "LatinRectangles" 165 = some (23, 0, 2) := by decide +kernel
theorem zk_LatinRectangles_168 : z_clk "LatinRectangles" 168 = some (22, 0, 2) := by decide +kernel
theorem zk_LatinRectangles_171 : z_clk "LatinRectangles" 171 = some (118, 0, 1) := by decide +kernel
theorem zk_LatinRectangles_174 : z_clk "LatinRectangles" 174 = some (201, 1, 1) := by decide +kernel
theorem zk_LatinRectangles_179 : z_clk "LatinRectangles" 179 = some (42, 0, 1) := by decide +kernel
theorem zk_LatinRectangles_18 : z_clk "LatinRectangles" 18 = some (63, 3, 0) := by decide +kernel
theorem zk_LatinRectangles_184 : z_clk "LatinRectangles" 184 = some (1, 0, 1) := by decide +kernel
theorem zk_LatinRectangles_186 : z_clk "LatinRectangles" 186 = some (2, 0, 2) := by decide +kernel
theorem zk_LatinRectangles_189 : z_clk "LatinRectangles" 189 = some (3, 0, 2) := by decide +kernel
theorem zk_LatinRectangles_192 : z_clk "LatinRectangles" 192 = some (71, 0, 2) := by decide +kernel
theorem zk_LatinRectangles_194 : z_clk "LatinRectangles" 194 = some (112, 0, 1) := by decide +kernel
theorem zk_LatinRectangles_197 : z_clk "LatinRectangles" 197 = some (72, 0, 1) := by decide +kernel
theorem zk_LatinRectangles_200 : z_clk "LatinRectangles" 200 = some (73, 0, 0) := by decide +kernel
theorem zk_LatinRectangles_203 : z_clk "LatinRectangles" 203 = some (114, 0, 3) := by decide +kernel
theorem zk_LatinRectangles_207 : z_clk "LatinRectangles" 207 = some (9, 0, 3) := by decide +kernel
theorem zk_LatinRectangles_211 : z_clk "LatinRectangles" 211 = some (11, 0, 2) := by decide +kernel
theorem zk_LatinRectangles_214 : z_clk "LatinRectangles" 214 = some (17, 0, 0) := by decide +kernel
theorem zk_LatinRectangles_217 : z_clk "LatinRectangles" 217 = some (116, 0, 1) := by decide +kernel
theorem zk_LatinRectangles_220 : z_clk "LatinRectangles" 220 = some (60, 0, 2) := by decide +kernel
theorem zk_LatinRectangles_224 : z_clk "LatinRectangles" 224 = some (61, 0, 2) := by decide +kernel
theorem zk_LatinRectangles_235 : z_clk "LatinRectangles" 235 = some (45, 0, 1) := by decide +kernel
theorem zk_LatinRectangles_238 : z_clk "LatinRectangles" 238 = some (33, 0, 3) := by decide +kernel
theorem zk_LatinRectangles_243 : z_clk "LatinRectangles" 243 = some (34, 0, 2) := by decide +kernel
theorem zk_LatinRectangles_246 : z_clk "LatinRectangles" 246 = some (119, 1, 5) := by decide +kernel
theorem zk_LatinRectangles_25 : z_clk "LatinRectangles" 25 = some (47, 2, 1) := by decide +kernel
theorem zk_LatinRectangles_252 : z_clk "LatinRectangles" 252 = some (15, 0, 3) := by decide +kernel
theorem zk_LatinRectangles_258 : z_clk "LatinRectangles" 258 = some (16, 0, 3) := by decide +kernel
theorem zk_LatinRectangles_261 : z_clk "LatinRectangles" 261 = some (46, 0, 1) := by decide +kernel
theorem zk_LatinRectangles_265 : z_clk "LatinRectangles" 265 = some (115, 0, 1) := by decide +kernel
theorem zk_LatinRectangles_268 : z_clk "LatinRectangles" 268 = some (59, 0, 2) := by decide +kernel
theorem zk_LatinRectangles_275 : z_clk "LatinRectangles" 275 = some (31, 0, 1) := by decide +kernel
theorem zk_LatinRectangles_288 : z_clk "LatinRectangles" 288 = some (39, 0, 1) := by decide +kernel
theorem zk_LatinRectangles_34 : z_clk "LatinRectangles" 34 = some (19, 2, 1) := by decide +kernel
theorem zk_LatinRectangles_43 : z_clk "LatinRectangles" 43 = some (0, 2, 1) := by decide +kernel
theorem zk_LatinRectangles_50 : z_clk "LatinRectangles" 50 = some (70, 2, 1) := by decide +kernel
theorem zk_LatinRectangles_57 : z_clk "LatinRectangles" 57 = some (8, 2, 1) := by decide +kernel
theorem zk_LatinRectangles_64 : z_clk "LatinRectangles" 64 = some (43, 3, 0) := by decide +kernel
theorem zk_LatinRectangles_71 : z_clk "LatinRectangles" 71 = some (57, 3, 0) := by decide +kernel
theorem zk_LatinRectangles_87 : z_clk "LatinRectangles" 87 = some (64, 0, 1) := by decide +kernel
theorem zk_LatinRectangles_98 : z_clk "LatinRectangles" 98 = some (48, 0, 1) := by decide +kernel
theorem zk_LatinRectangles_Completions_11 : z_clk "LatinRectangles$Completions" 11 = some (27, 2, 0) := by decide +kernel
theorem zk_LatinRectangles_Completions_25 : z_clk "LatinRectangles$Completions" 25 = some (30, 0, 1) := by decide +kernel
theorem zk_LatinRectangles_Completions_29 : z_clk "LatinRectangles$Completions" 29 = some (5, 0, 1) := by decide +kernel
theorem zk_LatinRectangles_Completions_40 : z_clk "LatinRectangles$Completions" 40 = some (4, 0, 2) := by decide +kernel
theorem zk_LatinRectangles_Completions_44 : z_clk "LatinRectangles$Completions" 44 = some (38, 0, 2) := by decide +kernel
theorem zk_LatinRectangles_Completions_48 : z_clk "LatinRectangles$Completions" 48 = some (33, 0, 3) := by decide +kernel
theorem zk_LatinRectangles_Completions_52 : z_clk "LatinRectangles$Completions" 52 = some (34, 0, 2) := by decide +kernel
theorem zk_LatinRectangles_Completions_61 : z_clk "LatinRectangles$Completions" 61 = some (6, 1, 3) := by decide +kernel
theorem zk_LatinRectangles_Completions_65 : z_clk "LatinRectangles$Completions" 65 = some (7, 0, 1) := by decide +kernel
theorem zk_LatinRectangles_Completions_68 : z_clk "LatinRectangles$Completions" 68 = some (201, 1, 1) := by decide +kernel
theorem zk_LatinRectangles_Cycles_28 : z_clk "LatinRectangles$Cycles" 28 = some (10, 0, 2) := by decide +kernel
theorem zk_LatinRectangles_Cycles_32 : z_clk "LatinRectangles$Cycles" 32 = some (12, 0, 0) := by decide +kernel
theorem zk_LatinRectangles_Cycles_41 : z_clk "LatinRectangles$Cycles" 41 = some (39, 0, 1) := by decide +kernel
theorem zk_LatinRectangles_Cycles_45 : z_clk "LatinRectangles$Cycles" 45 = some (13, 0, 2) := by decide +kernel
theorem zk_LatinRectangles_Cycles_49 : z_clk "LatinRectangles$Cycles" 49 = some (9, 0, 3) := by decide +kernel
theorem zk_LatinRectangles_Cycles_53 : z_clk "LatinRectangles$Cycles" 53 = some (201, 1, 1) := by decide +kernel
theorem zk_LatinRectangles_Cycles_59 : z_clk "LatinRectangles$Cycles" 59 = some (14, 0, 1) := by decide +kernel
theorem zk_LatinRectangles_Cycles_67 : z_clk "LatinRectangles$Cycles" 67 = some (37, 0, 2) := by decide +kernel
theorem zk_LatinRectangles_Cycles_71 : z_clk "LatinRectangles$Cycles" 71 = some (18, 0, 4) := by decide +kernel
theorem zk_LatinRectangles_Forces_24 : z_clk "LatinRectangles$Forces" 24 = some (22, 0, 2) := by decide +kernel
theorem zk_LatinRectangles_Forces_28 : z_clk "LatinRectangles$Forces" 28 = some (24, 0, 3) := by decide +kernel
theorem zk_LatinRectangles_Forces_32 : z_clk "LatinRectangles$Forces" 32 = some (38, 0, 2) := by decide +kernel
theorem zk_LatinRectangles_Forces_35 : z_clk "LatinRectangles$Forces" 35 = some (201, 1, 1) := by decide +kernel
theorem zk_LatinRectangles_Forces_41 : z_clk "LatinRectangles$Forces" 41 = some (25, 0, 2) := by decide +kernel
theorem zk_LatinRectangles_Forces_44 : z_clk "LatinRectangles$Forces" 44 = some (26, 0, 2) := by decide +kernel
theorem zk_LatinRectangles_Grid_28 : z_clk "LatinRectangles$Grid" 28 = some (28, 0, 2) := by decide +kernel
theorem zk_LatinRectangles_Grid_45 : z_clk "LatinRectangles$Grid" 45 = some (29, 0, 0) := by decide +kernel
theorem zk_LatinRectangles_Grid_51 : z_clk "LatinRectangles$Grid" 51 = some (31, 0, 1) := by decide +kernel
theorem zk_LatinRectangles_Grid_55 : z_clk "LatinRectangles$Grid" 55 = some (33, 0, 3) := by decide +kernel
theorem zk_LatinRectangles_Grid_59 : z_clk "LatinRectangles$Grid" 59 = some (39, 0, 1) := by decide +kernel
theorem zk_LatinRectangles_Grid_63 : z_clk "LatinRectangles$Grid" 63 = some (38, 0, 2) := by decide +kernel
theorem zk_LatinRectangles_History_23 : z_clk "LatinRectangles$History" 23 = some (32, 0, 1) := by decide +kernel
theorem zk_LatinRectangles_History_35 : z_clk "LatinRectangles$History" 35 = some (31, 0, 1) := by decide +kernel
theorem zk_LatinRectangles_Parser_100 : z_clk "LatinRectangles$Parser" 100 = some (54, 0, 0) := by decide +kernel
theorem zk_LatinRectangles_Parser_107 : z_clk "LatinRectangles$Parser" 107 = some (38, 0, 2) := by decide +kernel
theorem zk_LatinRectangles_Parser_11 : z_clk "LatinRectangles$Parser" 11 = some (27, 2, 0) := by decide +kernel
theorem zk_LatinRectangles_Parser_110 : z_clk "LatinRectangles$Parser" 110 = some (35, 0, 3) := by decide +kernel
theorem zk_LatinRectangles_Parser_114 : z_clk "LatinRectangles$Parser" 114 = some (37, 0, 2) := by decide +kernel
theorem zk_LatinRectangles_Parser_117 : z_clk "LatinRectangles$Parser" 117 = some (36, 0, 2) := by decide +kernel
theorem zk_LatinRectangles_Parser_29 : z_clk "LatinRectangles$Parser" 29 = some (65, 0, 1) := by decide +kernel
theorem zk_LatinRectangles_Parser_35 : z_clk "LatinRectangles$Parser" 35 = some (50, 0, 0) := by decide +kernel
theorem zk_LatinRectangles_Parser_39 : z_clk "LatinRectangles$Parser" 39 = some (66, 0, 0) := by decide +kernel
theorem zk_LatinRectangles_Parser_45 : z_clk "LatinRectangles$Parser" 45 = some (51, 0, 0) := by decide +kernel
theorem zk_LatinRectangles_Parser_48 : z_clk "LatinRectangles$Parser" 48 = some (49, 0, 1) := by decide +kernel
theorem zk_LatinRectangles_Parser_57 : z_clk "LatinRectangles$Parser" 57 = some (69, 0, 1) := by decide +kernel
theorem zk_LatinRectangles_Parser_61 : z_clk "LatinRectangles$Parser" 61 = some (55, 0, 2) := by decide +kernel
theorem zk_LatinRectangles_Parser_74 : z_clk "LatinRectangles$Parser" 74 = some (28, 0, 2) := by decide +kernel
theorem zk_LatinRectangles_Parser_78 : z_clk "LatinRectangles$Parser" 78 = some (56, 0, 0) := by decide +kernel
theorem zk_LatinRectangles_Parser_94 : z_clk "LatinRectangles$Parser" 94 = some (53, 0, 2) := by decide +kernel
theorem zk_LatinRectangles_Parser_97 : z_clk "LatinRectangles$Parser" 97 = some (52, 0, 2) := by decide +kernel
theorem zk_LatinRectangles_Snapshots_20 : z_clk "LatinRectangles$Snapshots" 20 = some (32, 0, 1) := by decide +kernel
theorem zk_LatinRectangles_Snapshots_30 : z_clk "LatinRectangles$Snapshots" 30 = some (60, 0, 2) := by decide +kernel
theorem zk_LatinRectangles_Snapshots_34 : z_clk "LatinRectangles$Snapshots" 34 = some (62, 1, 4) := by decide +kernel
theorem zk_LatinRectangles_Text_40 : z_clk "LatinRectangles$Text" 40 = some (67, 0, 2) := by decide +kernel
theorem zk_LatinRectangles_Text_43 : z_clk "LatinRectangles$Text" 43 = some (68, 0, 0) := by decide +kernel
theorem zk_LatinRectangles_Transversals_26 : z_clk "LatinRectangles$Transversals" 26 = some (74, 1, 4) := by decide +kernel
theorem zk_LatinRectangles_Transversals_30 : z_clk "LatinRectangles$Transversals" 30 = some (75, 1, 4) := by decide +kernel
theorem zk_LatinRectangles_Transversals_34 : z_clk "LatinRectangles$Transversals" 34 = some (76, 1, 4) := by decide +kernel
theorem zk_LatinRectangles_Transversals_45 : z_clk "LatinRectangles$Transversals" 45 = some (77, 0, 4) := by decide +kernel
theorem zk_LatinRectangles_Transversals_49 : z_clk "LatinRectangles$Transversals" 49 = some (78, 0, 2) := by decide +kernel
theorem zp_LatinRectanglesLaw_100 : z_lookup z_prs ("LatinRectanglesLaw", 100) = none := by decide +kernel
theorem zp_LatinRectanglesLaw_101 : z_lookup z_prs ("LatinRectanglesLaw", 101) = none := by decide +kernel
theorem zp_LatinRectanglesLaw_105 : z_lookup z_prs ("LatinRectanglesLaw", 105) = none := by decide +kernel
theorem zp_LatinRectanglesLaw_108 : z_lookup z_prs ("LatinRectanglesLaw", 108) = none := by decide +kernel
theorem zp_LatinRectanglesLaw_109 : z_lookup z_prs ("LatinRectanglesLaw", 109) = none := by decide +kernel
theorem zp_LatinRectanglesLaw_111 : z_lookup z_prs ("LatinRectanglesLaw", 111) = none := by decide +kernel
theorem zp_LatinRectanglesLaw_112 : z_lookup z_prs ("LatinRectanglesLaw", 112) = none := by decide +kernel
theorem zp_LatinRectanglesLaw_115 : z_lookup z_prs ("LatinRectanglesLaw", 115) = none := by decide +kernel
theorem zp_LatinRectanglesLaw_116 : z_lookup z_prs ("LatinRectanglesLaw", 116) = none := by decide +kernel
theorem zp_LatinRectanglesLaw_118 : z_lookup z_prs ("LatinRectanglesLaw", 118) = none := by decide +kernel
theorem zp_LatinRectanglesLaw_119 : z_lookup z_prs ("LatinRectanglesLaw", 119) = none := by decide +kernel
theorem zp_LatinRectanglesLaw_121 : z_lookup z_prs ("LatinRectanglesLaw", 121) = none := by decide +kernel
theorem zp_LatinRectanglesLaw_122 : z_lookup z_prs ("LatinRectanglesLaw", 122) = none := by decide +kernel
theorem zp_LatinRectanglesLaw_125 : z_lookup z_prs ("LatinRectanglesLaw", 125) = none := by decide +kernel
theorem zp_LatinRectanglesLaw_126 : z_lookup z_prs ("LatinRectanglesLaw", 126) = none := by decide +kernel
theorem zp_LatinRectanglesLaw_128 : z_lookup z_prs ("LatinRectanglesLaw", 128) = none := by decide +kernel
theorem zp_LatinRectanglesLaw_129 : z_lookup z_prs ("LatinRectanglesLaw", 129) = none := by decide +kernel
theorem zp_LatinRectanglesLaw_131 : z_lookup z_prs ("LatinRectanglesLaw", 131) = none := by decide +kernel
theorem zp_LatinRectanglesLaw_132 : z_lookup z_prs ("LatinRectanglesLaw", 132) = none := by decide +kernel
theorem zp_LatinRectanglesLaw_135 : z_lookup z_prs ("LatinRectanglesLaw", 135) = none := by decide +kernel
theorem zp_LatinRectanglesLaw_136 : z_lookup z_prs ("LatinRectanglesLaw", 136) = none := by decide +kernel
theorem zp_LatinRectanglesLaw_139 : z_lookup z_prs ("LatinRectanglesLaw", 139) = none := by decide +kernel
theorem zp_LatinRectanglesLaw_140 : z_lookup z_prs ("LatinRectanglesLaw", 140) = none := by decide +kernel
theorem zp_LatinRectanglesLaw_142 : z_lookup z_prs ("LatinRectanglesLaw", 142) = none := by decide +kernel
theorem zp_LatinRectanglesLaw_143 : z_lookup z_prs ("LatinRectanglesLaw", 143) = none := by decide +kernel
theorem zp_LatinRectanglesLaw_145 : z_lookup z_prs ("LatinRectanglesLaw", 145) = none := by decide +kernel
theorem zp_LatinRectanglesLaw_146 : z_lookup z_prs ("LatinRectanglesLaw", 146) = none := by decide +kernel
theorem zp_LatinRectanglesLaw_148 : z_lookup z_prs ("LatinRectanglesLaw", 148) = none := by decide +kernel
theorem zp_LatinRectanglesLaw_149 : z_lookup z_prs ("LatinRectanglesLaw", 149) = none := by decide +kernel
theorem zp_LatinRectanglesLaw_15 : z_lookup z_prs ("LatinRectanglesLaw", 15) = none := by decide +kernel
theorem zp_LatinRectanglesLaw_152 : z_lookup z_prs ("LatinRectanglesLaw", 152) = none := by decide +kernel
theorem zp_LatinRectanglesLaw_153 : z_lookup z_prs ("LatinRectanglesLaw", 153) = none := by decide +kernel
theorem zp_LatinRectanglesLaw_155 : z_lookup z_prs ("LatinRectanglesLaw", 155) = none := by decide +kernel
theorem zp_LatinRectanglesLaw_156 : z_lookup z_prs ("LatinRectanglesLaw", 156) = none := by decide +kernel
theorem zp_LatinRectanglesLaw_158 : z_lookup z_prs ("LatinRectanglesLaw", 158) = none := by decide +kernel
theorem zp_LatinRectanglesLaw_159 : z_lookup z_prs ("LatinRectanglesLaw", 159) = none := by decide +kernel
theorem zp_LatinRectanglesLaw_162 : z_lookup z_prs ("LatinRectanglesLaw", 162) = none := by decide +kernel
theorem zp_LatinRectanglesLaw_163 : z_lookup z_prs ("LatinRectanglesLaw", 163) = none := by decide +kernel
theorem zp_LatinRectanglesLaw_166 : z_lookup z_prs ("LatinRectanglesLaw", 166) = none := by decide +kernel
theorem zp_LatinRectanglesLaw_167 : z_lookup z_prs ("LatinRectanglesLaw", 167) = none := by decide +kernel
theorem zp_LatinRectanglesLaw_169 : z_lookup z_prs ("LatinRectanglesLaw", 169) = none := by decide +kernel
theorem zp_LatinRectanglesLaw_170 : z_lookup z_prs ("LatinRectanglesLaw", 170) = none := by decide +kernel
theorem zp_LatinRectanglesLaw_173 : z_lookup z_prs ("LatinRectanglesLaw", 173) = none := by decide +kernel
theorem zp_LatinRectanglesLaw_174 : z_lookup z_prs ("LatinRectanglesLaw", 174) = none := by decide +kernel
theorem zp_LatinRectanglesLaw_176 : z_lookup z_prs ("LatinRectanglesLaw", 176) = none := by decide +kernel
theorem zp_LatinRectanglesLaw_177 : z_lookup z_prs ("LatinRectanglesLaw", 177) = none := by decide +kernel
theorem zp_LatinRectanglesLaw_179 : z_lookup z_prs ("LatinRectanglesLaw", 179) = none := by decide +kernel
theorem zp_LatinRectanglesLaw_18 : z_lookup z_prs ("LatinRectanglesLaw", 18) = none := by decide +kernel
theorem zp_LatinRectanglesLaw_180 : z_lookup z_prs ("LatinRectanglesLaw", 180) = none := by decide +kernel
theorem zp_LatinRectanglesLaw_182 : z_lookup z_prs ("LatinRectanglesLaw", 182) = none := by decide +kernel
theorem zp_LatinRectanglesLaw_183 : z_lookup z_prs ("LatinRectanglesLaw", 183) = none := by decide +kernel
theorem zp_LatinRectanglesLaw_185 : z_lookup z_prs ("LatinRectanglesLaw", 185) = none := by decide +kernel
theorem zp_LatinRectanglesLaw_186 : z_lookup z_prs ("LatinRectanglesLaw", 186) = none := by decide +kernel
theorem zp_LatinRectanglesLaw_189 : z_lookup z_prs ("LatinRectanglesLaw", 189) = none := by decide +kernel
theorem zp_LatinRectanglesLaw_190 : z_lookup z_prs ("LatinRectanglesLaw", 190) = none := by decide +kernel
theorem zp_LatinRectanglesLaw_192 : z_lookup z_prs ("LatinRectanglesLaw", 192) = none := by decide +kernel
theorem zp_LatinRectanglesLaw_193 : z_lookup z_prs ("LatinRectanglesLaw", 193) = none := by decide +kernel
theorem zp_LatinRectanglesLaw_195 : z_lookup z_prs ("LatinRectanglesLaw", 195) = none := by decide +kernel
theorem zp_LatinRectanglesLaw_196 : z_lookup z_prs ("LatinRectanglesLaw", 196) = none := by decide +kernel
theorem zp_LatinRectanglesLaw_199 : z_lookup z_prs ("LatinRectanglesLaw", 199) = none := by decide +kernel
theorem zp_LatinRectanglesLaw_200 : z_lookup z_prs ("LatinRectanglesLaw", 200) = none := by decide +kernel
theorem zp_LatinRectanglesLaw_202 : z_lookup z_prs ("LatinRectanglesLaw", 202) = none := by decide +kernel
theorem zp_LatinRectanglesLaw_203 : z_lookup z_prs ("LatinRectanglesLaw", 203) = none := by decide +kernel
theorem zp_LatinRectanglesLaw_205 : z_lookup z_prs ("LatinRectanglesLaw", 205) = none := by decide +kernel
theorem zp_LatinRectanglesLaw_24 : z_lookup z_prs ("LatinRectanglesLaw", 24) = none := by decide +kernel
theorem zp_LatinRectanglesLaw_28 : z_lookup z_prs ("LatinRectanglesLaw", 28) = none := by decide +kernel
theorem zp_LatinRectanglesLaw_31 : z_lookup z_prs ("LatinRectanglesLaw", 31) = none := by decide +kernel
theorem zp_LatinRectanglesLaw_34 : z_lookup z_prs ("LatinRectanglesLaw", 34) = none := by decide +kernel
theorem zp_LatinRectanglesLaw_37 : z_lookup z_prs ("LatinRectanglesLaw", 37) = none := by decide +kernel
theorem zp_LatinRectanglesLaw_40 : z_lookup z_prs ("LatinRectanglesLaw", 40) = none := by decide +kernel
theorem zp_LatinRectanglesLaw_43 : z_lookup z_prs ("LatinRectanglesLaw", 43) = none := by decide +kernel
theorem zp_LatinRectanglesLaw_46 : z_lookup z_prs ("LatinRectanglesLaw", 46) = none := by decide +kernel
theorem zp_LatinRectanglesLaw_49 : z_lookup z_prs ("LatinRectanglesLaw", 49) = none := by decide +kernel
theorem zp_LatinRectanglesLaw_52 : z_lookup z_prs ("LatinRectanglesLaw", 52) = none := by decide +kernel
theorem zp_LatinRectanglesLaw_58 : z_lookup z_prs ("LatinRectanglesLaw", 58) = none := by decide +kernel
theorem zp_LatinRectanglesLaw_61 : z_lookup z_prs ("LatinRectanglesLaw", 61) = none := by decide +kernel
theorem zp_LatinRectanglesLaw_64 : z_lookup z_prs ("LatinRectanglesLaw", 64) = none := by decide +kernel
theorem zp_LatinRectanglesLaw_68 : z_lookup z_prs ("LatinRectanglesLaw", 68) = none := by decide +kernel
theorem zp_LatinRectanglesLaw_7 : z_lookup z_prs ("LatinRectanglesLaw", 7) = none := by decide +kernel
theorem zp_LatinRectanglesLaw_71 : z_lookup z_prs ("LatinRectanglesLaw", 71) = none := by decide +kernel
theorem zp_LatinRectanglesLaw_74 : z_lookup z_prs ("LatinRectanglesLaw", 74) = none := by decide +kernel
theorem zp_LatinRectanglesLaw_77 : z_lookup z_prs ("LatinRectanglesLaw", 77) = none := by decide +kernel
theorem zp_LatinRectanglesLaw_80 : z_lookup z_prs ("LatinRectanglesLaw", 80) = none := by decide +kernel
theorem zp_LatinRectanglesLaw_83 : z_lookup z_prs ("LatinRectanglesLaw", 83) = none := by decide +kernel
theorem zp_LatinRectanglesLaw_86 : z_lookup z_ois ("LatinRectanglesLaw", 86) = none := by decide +kernel
theorem zp_LatinRectanglesLaw_89 : z_lookup z_ois ("LatinRectanglesLaw", 89) = none := by decide +kernel
theorem zp_LatinRectanglesLaw_90 : z_lookup z_prs ("LatinRectanglesLaw", 90) = none := by decide +kernel
theorem zp_LatinRectanglesLaw_94 : z_lookup z_prs ("LatinRectanglesLaw", 94) = none := by decide +kernel
theorem zp_LatinRectanglesLaw_95 : z_lookup z_prs ("LatinRectanglesLaw", 95) = none := by decide +kernel
theorem zp_LatinRectanglesModel_111 : z_lookup z_prs ("LatinRectanglesModel", 111) = none := by decide +kernel
theorem zp_LatinRectanglesModel_127 : z_lookup z_prs ("LatinRectanglesModel", 127) = none := by decide +kernel
theorem zp_LatinRectanglesModel_134 : z_lookup z_prs ("LatinRectanglesModel", 134) = none := by decide +kernel
theorem zp_LatinRectanglesModel_139 : z_lookup z_prs ("LatinRectanglesModel", 139) = none := by decide +kernel
theorem zp_LatinRectanglesModel_143 : z_lookup z_prs ("LatinRectanglesModel", 143) = none := by decide +kernel
theorem zp_LatinRectanglesModel_147 : z_lookup z_prs ("LatinRectanglesModel", 147) = none := by decide +kernel
theorem zp_LatinRectanglesModel_151 : z_lookup z_prs ("LatinRectanglesModel", 151) = none := by decide +kernel
theorem zp_LatinRectanglesModel_155 : z_lookup z_prs ("LatinRectanglesModel", 155) = none := by decide +kernel
theorem zp_LatinRectanglesModel_161 : z_lookup z_prs ("LatinRectanglesModel", 161) = none := by decide +kernel
theorem zp_LatinRectanglesModel_164 : z_lookup z_prs ("LatinRectanglesModel", 164) = none := by decide +kernel
theorem zp_LatinRectanglesModel_167 : z_lookup z_prs ("LatinRectanglesModel", 167) = none := by decide +kernel
theorem zp_LatinRectanglesModel_171 : z_lookup z_prs ("LatinRectanglesModel", 171) = none := by decide +kernel
theorem zp_LatinRectanglesModel_174 : z_lookup z_prs ("LatinRectanglesModel", 174) = none := by decide +kernel
theorem zp_LatinRectanglesModel_177 : z_lookup z_prs ("LatinRectanglesModel", 177) = none := by decide +kernel
theorem zp_LatinRectanglesModel_180 : z_lookup z_prs ("LatinRectanglesModel", 180) = none := by decide +kernel
theorem zp_LatinRectanglesModel_183 : z_lookup z_prs ("LatinRectanglesModel", 183) = none := by decide +kernel
theorem zp_LatinRectanglesModel_186 : z_lookup z_prs ("LatinRectanglesModel", 186) = none := by decide +kernel
theorem zp_LatinRectanglesModel_189 : z_lookup z_prs ("LatinRectanglesModel", 189) = none := by decide +kernel
theorem zp_LatinRectanglesModel_192 : z_lookup z_prs ("LatinRectanglesModel", 192) = none := by decide +kernel
theorem zp_LatinRectanglesModel_195 : z_lookup z_prs ("LatinRectanglesModel", 195) = none := by decide +kernel
theorem zp_LatinRectanglesModel_198 : z_lookup z_prs ("LatinRectanglesModel", 198) = none := by decide +kernel
theorem zp_LatinRectanglesModel_201 : z_lookup z_prs ("LatinRectanglesModel", 201) = none := by decide +kernel
theorem zp_LatinRectanglesModel_204 : z_lookup z_prs ("LatinRectanglesModel", 204) = none := by decide +kernel
theorem zp_LatinRectanglesModel_207 : z_lookup z_prs ("LatinRectanglesModel", 207) = none := by decide +kernel
theorem zp_LatinRectanglesModel_210 : z_lookup z_prs ("LatinRectanglesModel", 210) = none := by decide +kernel
theorem zp_LatinRectanglesModel_214 : z_lookup z_prs ("LatinRectanglesModel", 214) = none := by decide +kernel
theorem zp_LatinRectanglesModel_217 : z_lookup z_prs ("LatinRectanglesModel", 217) = none := by decide +kernel
theorem zp_LatinRectanglesModel_220 : z_lookup z_prs ("LatinRectanglesModel", 220) = none := by decide +kernel
theorem zp_LatinRectanglesModel_223 : z_lookup z_prs ("LatinRectanglesModel", 223) = none := by decide +kernel
theorem zp_LatinRectanglesModel_226 : z_lookup z_prs ("LatinRectanglesModel", 226) = none := by decide +kernel
theorem zp_LatinRectanglesModel_230 : z_lookup z_prs ("LatinRectanglesModel", 230) = none := by decide +kernel
theorem zp_LatinRectanglesModel_234 : z_lookup z_prs ("LatinRectanglesModel", 234) = none := by decide +kernel
theorem zp_LatinRectanglesModel_237 : z_lookup z_prs ("LatinRectanglesModel", 237) = none := by decide +kernel
theorem zp_LatinRectanglesModel_240 : z_lookup z_prs ("LatinRectanglesModel", 240) = none := by decide +kernel
theorem zp_LatinRectanglesModel_243 : z_lookup z_prs ("LatinRectanglesModel", 243) = none := by decide +kernel
theorem zp_LatinRectanglesModel_246 : z_lookup z_prs ("LatinRectanglesModel", 246) = none := by decide +kernel
theorem zp_LatinRectanglesModel_249 : z_lookup z_prs ("LatinRectanglesModel", 249) = none := by decide +kernel
theorem zp_LatinRectanglesModel_252 : z_lookup z_prs ("LatinRectanglesModel", 252) = none := by decide +kernel
theorem zp_LatinRectanglesModel_255 : z_lookup z_prs ("LatinRectanglesModel", 255) = none := by decide +kernel
theorem zp_LatinRectanglesModel_258 : z_lookup z_prs ("LatinRectanglesModel", 258) = none := by decide +kernel
theorem zp_LatinRectanglesModel_261 : z_lookup z_prs ("LatinRectanglesModel", 261) = none := by decide +kernel
theorem zp_LatinRectanglesModel_265 : z_lookup z_prs ("LatinRectanglesModel", 265) = none := by decide +kernel
theorem zp_LatinRectanglesModel_52 : z_lookup z_prs ("LatinRectanglesModel", 52) = none := by decide +kernel
theorem zp_LatinRectanglesModel_61 : z_lookup z_prs ("LatinRectanglesModel", 61) = none := by decide +kernel
theorem zp_LatinRectanglesModel_64 : z_lookup z_prs ("LatinRectanglesModel", 64) = none := by decide +kernel
theorem zp_LatinRectanglesModel_88 : z_lookup z_prs ("LatinRectanglesModel", 88) = none := by decide +kernel
theorem zp_LatinRectanglesModel_98 : z_lookup z_prs ("LatinRectanglesModel", 98) = none := by decide +kernel
theorem zp_LatinRectangles_11 : z_lookup z_ois ("LatinRectangles", 11) = none := by decide +kernel
theorem zp_LatinRectangles_111 : z_lookup z_prs ("LatinRectangles", 111) = none := by decide +kernel
theorem zp_LatinRectangles_114 : z_lookup z_prs ("LatinRectangles", 114) = none := by decide +kernel
theorem zp_LatinRectangles_117 : z_lookup z_prs ("LatinRectangles", 117) = none := by decide +kernel
theorem zp_LatinRectangles_118 : z_lookup z_prs ("LatinRectangles", 118) = none := by decide +kernel
theorem zp_LatinRectangles_137 : z_lookup z_prs ("LatinRectangles", 137) = none := by decide +kernel
theorem zp_LatinRectangles_141 : z_lookup z_prs ("LatinRectangles", 141) = none := by decide +kernel
theorem zp_LatinRectangles_144 : z_lookup z_prs ("LatinRectangles", 144) = none := by decide +kernel
theorem zp_LatinRectangles_154 : z_lookup z_prs ("LatinRectangles", 154) = none := by decide +kernel
theorem zp_LatinRectangles_158 : z_lookup z_prs ("LatinRectangles", 158) = none := by decide +kernel
theorem zp_LatinRectangles_161 : z_lookup z_prs ("LatinRectangles", 161) = none := by decide +kernel
theorem zp_LatinRectangles_165 : z_lookup z_prs ("LatinRectangles", 165) = none := by decide +kernel
theorem zp_LatinRectangles_168 : z_lookup z_prs ("LatinRectangles", 168) = none := by decide +kernel
theorem zp_LatinRectangles_171 : z_lookup z_prs ("LatinRectangles", 171) = none := by decide +kernel
theorem zp_LatinRectangles_174 : z_lookup z_prs ("LatinRectangles", 174) = none := by decide +kernel
theorem zp_LatinRectangles_179 : z_lookup z_prs ("LatinRectangles", 179) = none := by decide +kernel
theorem zp_LatinRectangles_18 : z_lookup z_ois ("LatinRectangles", 18) = none := by decide +kernel
theorem zp_LatinRectangles_184 : z_lookup z_prs ("LatinRectangles", 184) = none := by decide +kernel
theorem zp_LatinRectangles_186 : z_lookup z_prs ("LatinRectangles", 186) = none := by decide +kernel
theorem zp_LatinRectangles_189 : z_lookup z_prs ("LatinRectangles", 189) = none := by decide +kernel
theorem zp_LatinRectangles_192 : z_lookup z_prs ("LatinRectangles", 192) = none := by decide +kernel
theorem zp_LatinRectangles_194 : z_lookup z_prs ("LatinRectangles", 194) = none := by decide +kernel
theorem zp_LatinRectangles_197 : z_lookup z_prs ("LatinRectangles", 197) = none := by decide +kernel
theorem zp_LatinRectangles_200 : z_lookup z_prs ("LatinRectangles", 200) = none := by decide +kernel
theorem zp_LatinRectangles_203 : z_lookup z_prs ("LatinRectangles", 203) = none := by decide +kernel
theorem zp_LatinRectangles_207 : z_lookup z_prs ("LatinRectangles", 207) = none := by decide +kernel
theorem zp_LatinRectangles_211 : z_lookup z_prs ("LatinRectangles", 211) = none := by decide +kernel
theorem zp_LatinRectangles_214 : z_lookup z_prs ("LatinRectangles", 214) = none := by decide +kernel
theorem zp_LatinRectangles_217 : z_lookup z_prs ("LatinRectangles", 217) = none := by decide +kernel
theorem zp_LatinRectangles_220 : z_lookup z_prs ("LatinRectangles", 220) = none := by decide +kernel
theorem zp_LatinRectangles_224 : z_lookup z_prs ("LatinRectangles", 224) = none := by decide +kernel
theorem zp_LatinRectangles_235 : z_lookup z_prs ("LatinRectangles", 235) = none := by decide +kernel
theorem zp_LatinRectangles_238 : z_lookup z_prs ("LatinRectangles", 238) = none := by decide +kernel
theorem zp_LatinRectangles_243 : z_lookup z_prs ("LatinRectangles", 243) = none := by decide +kernel
theorem zp_LatinRectangles_246 : z_lookup z_prs ("LatinRectangles", 246) = none := by decide +kernel
theorem zp_LatinRectangles_25 : z_lookup z_ois ("LatinRectangles", 25) = none := by decide +kernel
theorem zp_LatinRectangles_252 : z_lookup z_prs ("LatinRectangles", 252) = none := by decide +kernel
theorem zp_LatinRectangles_258 : z_lookup z_prs ("LatinRectangles", 258) = none := by decide +kernel
theorem zp_LatinRectangles_261 : z_lookup z_prs ("LatinRectangles", 261) = none := by decide +kernel
theorem zp_LatinRectangles_265 : z_lookup z_prs ("LatinRectangles", 265) = none := by decide +kernel
theorem zp_LatinRectangles_268 : z_lookup z_prs ("LatinRectangles", 268) = none := by decide +kernel
theorem zp_LatinRectangles_275 : z_lookup z_prs ("LatinRectangles", 275) = none := by decide +kernel
theorem zp_LatinRectangles_288 : z_lookup z_prs ("LatinRectangles", 288) = none := by decide +kernel
theorem zp_LatinRectangles_34 : z_lookup z_ois ("LatinRectangles", 34) = none := by decide +kernel
theorem zp_LatinRectangles_43 : z_lookup z_ois ("LatinRectangles", 43) = none := by decide +kernel
theorem zp_LatinRectangles_50 : z_lookup z_ois ("LatinRectangles", 50) = none := by decide +kernel
theorem zp_LatinRectangles_57 : z_lookup z_ois ("LatinRectangles", 57) = none := by decide +kernel
theorem zp_LatinRectangles_64 : z_lookup z_ois ("LatinRectangles", 64) = none := by decide +kernel
theorem zp_LatinRectangles_71 : z_lookup z_ois ("LatinRectangles", 71) = none := by decide +kernel
theorem zp_LatinRectangles_87 : z_lookup z_prs ("LatinRectangles", 87) = none := by decide +kernel
theorem zp_LatinRectangles_98 : z_lookup z_prs ("LatinRectangles", 98) = none := by decide +kernel
theorem zp_LatinRectangles_Completions_11 : z_lookup z_ois ("LatinRectangles$Completions", 11) = none := by decide +kernel
theorem zp_LatinRectangles_Completions_25 : z_lookup z_prs ("LatinRectangles$Completions", 25) = none := by decide +kernel
theorem zp_LatinRectangles_Completions_29 : z_lookup z_prs ("LatinRectangles$Completions", 29) = none := by decide +kernel
theorem zp_LatinRectangles_Completions_40 : z_lookup z_prs ("LatinRectangles$Completions", 40) = none := by decide +kernel
theorem zp_LatinRectangles_Completions_44 : z_lookup z_prs ("LatinRectangles$Completions", 44) = none := by decide +kernel
theorem zp_LatinRectangles_Completions_48 : z_lookup z_prs ("LatinRectangles$Completions", 48) = none := by decide +kernel
theorem zp_LatinRectangles_Completions_52 : z_lookup z_prs ("LatinRectangles$Completions", 52) = none := by decide +kernel
theorem zp_LatinRectangles_Completions_61 : z_lookup z_prs ("LatinRectangles$Completions", 61) = none := by decide +kernel
theorem zp_LatinRectangles_Completions_65 : z_lookup z_prs ("LatinRectangles$Completions", 65) = none := by decide +kernel
theorem zp_LatinRectangles_Completions_68 : z_lookup z_prs ("LatinRectangles$Completions", 68) = none := by decide +kernel
theorem zp_LatinRectangles_Cycles_28 : z_lookup z_prs ("LatinRectangles$Cycles", 28) = none := by decide +kernel
theorem zp_LatinRectangles_Cycles_32 : z_lookup z_prs ("LatinRectangles$Cycles", 32) = none := by decide +kernel
theorem zp_LatinRectangles_Cycles_41 : z_lookup z_prs ("LatinRectangles$Cycles", 41) = none := by decide +kernel
theorem zp_LatinRectangles_Cycles_45 : z_lookup z_prs ("LatinRectangles$Cycles", 45) = none := by decide +kernel
theorem zp_LatinRectangles_Cycles_49 : z_lookup z_prs ("LatinRectangles$Cycles", 49) = none := by decide +kernel
theorem zp_LatinRectangles_Cycles_53 : z_lookup z_prs ("LatinRectangles$Cycles", 53) = none := by decide +kernel
theorem zp_LatinRectangles_Cycles_59 : z_lookup z_prs ("LatinRectangles$Cycles", 59) = none := by decide +kernel
theorem zp_LatinRectangles_Cycles_67 : z_lookup z_prs ("LatinRectangles$Cycles", 67) = none := by decide +kernel
theorem zp_LatinRectangles_Cycles_71 : z_lookup z_prs ("LatinRectangles$Cycles", 71) = none := by decide +kernel
theorem zp_LatinRectangles_Forces_24 : z_lookup z_prs ("LatinRectangles$Forces", 24) = none := by decide +kernel
theorem zp_LatinRectangles_Forces_28 : z_lookup z_prs ("LatinRectangles$Forces", 28) = none := by decide +kernel
theorem zp_LatinRectangles_Forces_32 : z_lookup z_prs ("LatinRectangles$Forces", 32) = none := by decide +kernel
theorem zp_LatinRectangles_Forces_35 : z_lookup z_prs ("LatinRectangles$Forces", 35) = none := by decide +kernel
theorem zp_LatinRectangles_Forces_41 : z_lookup z_prs ("LatinRectangles$Forces", 41) = none := by decide +kernel
theorem zp_LatinRectangles_Forces_44 : z_lookup z_prs ("LatinRectangles$Forces", 44) = none := by decide +kernel
theorem zp_LatinRectangles_Grid_28 : z_lookup z_prs ("LatinRectangles$Grid", 28) = none := by decide +kernel
theorem zp_LatinRectangles_Grid_45 : z_lookup z_prs ("LatinRectangles$Grid", 45) = none := by decide +kernel
theorem zp_LatinRectangles_Grid_51 : z_lookup z_prs ("LatinRectangles$Grid", 51) = none := by decide +kernel
theorem zp_LatinRectangles_Grid_55 : z_lookup z_prs ("LatinRectangles$Grid", 55) = none := by decide +kernel
theorem zp_LatinRectangles_Grid_59 : z_lookup z_prs ("LatinRectangles$Grid", 59) = none := by decide +kernel
theorem zp_LatinRectangles_Grid_63 : z_lookup z_prs ("LatinRectangles$Grid", 63) = none := by decide +kernel
theorem zp_LatinRectangles_History_23 : z_lookup z_prs ("LatinRectangles$History", 23) = none := by decide +kernel
theorem zp_LatinRectangles_History_35 : z_lookup z_prs ("LatinRectangles$History", 35) = none := by decide +kernel
theorem zp_LatinRectangles_Parser_100 : z_lookup z_prs ("LatinRectangles$Parser", 100) = none := by decide +kernel
theorem zp_LatinRectangles_Parser_107 : z_lookup z_prs ("LatinRectangles$Parser", 107) = none := by decide +kernel
theorem zp_LatinRectangles_Parser_11 : z_lookup z_ois ("LatinRectangles$Parser", 11) = none := by decide +kernel
theorem zp_LatinRectangles_Parser_110 : z_lookup z_prs ("LatinRectangles$Parser", 110) = none := by decide +kernel
theorem zp_LatinRectangles_Parser_114 : z_lookup z_prs ("LatinRectangles$Parser", 114) = none := by decide +kernel
theorem zp_LatinRectangles_Parser_117 : z_lookup z_prs ("LatinRectangles$Parser", 117) = none := by decide +kernel
theorem zp_LatinRectangles_Parser_29 : z_lookup z_prs ("LatinRectangles$Parser", 29) = none := by decide +kernel
theorem zp_LatinRectangles_Parser_35 : z_lookup z_prs ("LatinRectangles$Parser", 35) = none := by decide +kernel
theorem zp_LatinRectangles_Parser_39 : z_lookup z_prs ("LatinRectangles$Parser", 39) = none := by decide +kernel
theorem zp_LatinRectangles_Parser_45 : z_lookup z_prs ("LatinRectangles$Parser", 45) = none := by decide +kernel
theorem zp_LatinRectangles_Parser_48 : z_lookup z_prs ("LatinRectangles$Parser", 48) = none := by decide +kernel
theorem zp_LatinRectangles_Parser_57 : z_lookup z_prs ("LatinRectangles$Parser", 57) = none := by decide +kernel
theorem zp_LatinRectangles_Parser_61 : z_lookup z_prs ("LatinRectangles$Parser", 61) = none := by decide +kernel
theorem zp_LatinRectangles_Parser_74 : z_lookup z_prs ("LatinRectangles$Parser", 74) = none := by decide +kernel
theorem zp_LatinRectangles_Parser_78 : z_lookup z_prs ("LatinRectangles$Parser", 78) = none := by decide +kernel
theorem zp_LatinRectangles_Parser_94 : z_lookup z_prs ("LatinRectangles$Parser", 94) = none := by decide +kernel
theorem zp_LatinRectangles_Parser_97 : z_lookup z_prs ("LatinRectangles$Parser", 97) = none := by decide +kernel
theorem zp_LatinRectangles_Snapshots_20 : z_lookup z_prs ("LatinRectangles$Snapshots", 20) = none := by decide +kernel
theorem zp_LatinRectangles_Snapshots_30 : z_lookup z_prs ("LatinRectangles$Snapshots", 30) = none := by decide +kernel
theorem zp_LatinRectangles_Snapshots_34 : z_lookup z_prs ("LatinRectangles$Snapshots", 34) = none := by decide +kernel
theorem zp_LatinRectangles_Text_40 : z_lookup z_prs ("LatinRectangles$Text", 40) = none := by decide +kernel
theorem zp_LatinRectangles_Text_43 : z_lookup z_prs ("LatinRectangles$Text", 43) = none := by decide +kernel
theorem zp_LatinRectangles_Transversals_26 : z_lookup z_prs ("LatinRectangles$Transversals", 26) = none := by decide +kernel
theorem zp_LatinRectangles_Transversals_30 : z_lookup z_prs ("LatinRectangles$Transversals", 30) = none := by decide +kernel
theorem zp_LatinRectangles_Transversals_34 : z_lookup z_prs ("LatinRectangles$Transversals", 34) = none := by decide +kernel
theorem zp_LatinRectangles_Transversals_45 : z_lookup z_prs ("LatinRectangles$Transversals", 45) = none := by decide +kernel
theorem zp_LatinRectangles_Transversals_49 : z_lookup z_prs ("LatinRectangles$Transversals", 49) = none := by decide +kernel
theorem zq_LatinRectanglesModel_1 : z_lookup z_ois ("LatinRectanglesModel", 1) = some 1061 := by decide +kernel
theorem zq_LatinRectanglesModel_115 : z_lookup z_prs ("LatinRectanglesModel", 115) = some (0, 1202) := by decide +kernel
theorem zq_LatinRectanglesModel_120 : z_lookup z_prs ("LatinRectanglesModel", 120) = some (1, 1203) := by decide +kernel
theorem zq_LatinRectangles_3 : z_lookup z_ois ("LatinRectangles", 3) = some 101 := by decide +kernel
theorem zq_LatinRectangles_Completions_3 : z_lookup z_ois ("LatinRectangles$Completions", 3) = some 247 := by decide +kernel
theorem zq_LatinRectangles_Cycles_3 : z_lookup z_ois ("LatinRectangles$Cycles", 3) = some 287 := by decide +kernel
theorem zq_LatinRectangles_Forces_3 : z_lookup z_ois ("LatinRectangles$Forces", 3) = some 237 := by decide +kernel
theorem zq_LatinRectangles_Grid_3 : z_lookup z_ois ("LatinRectangles$Grid", 3) = some 109 := by decide +kernel
theorem zq_LatinRectangles_History_29 : z_lookup z_prs ("LatinRectangles$History", 29) = some (3, 481) := by decide +kernel
theorem zq_LatinRectangles_History_3 : z_lookup z_ois ("LatinRectangles$History", 3) = some 303 := by decide +kernel
theorem zq_LatinRectangles_Parser_3 : z_lookup z_ois ("LatinRectangles$Parser", 3) = some 213 := by decide +kernel
theorem zq_LatinRectangles_Parser_68 : z_lookup z_prs ("LatinRectangles$Parser", 68) = some (2, 670) := by decide +kernel
theorem zq_LatinRectangles_Snapshots_3 : z_lookup z_ois ("LatinRectangles$Snapshots", 3) = some 321 := by decide +kernel
theorem zq_LatinRectangles_Text_19 : z_lookup z_prs ("LatinRectangles$Text", 19) = some (3, 592) := by decide +kernel
theorem zq_LatinRectangles_Text_3 : z_lookup z_ois ("LatinRectangles$Text", 3) = some 180 := by decide +kernel
theorem zq_LatinRectangles_Text_46 : z_lookup z_prs ("LatinRectangles$Text", 46) = some (0, 614) := by decide +kernel
theorem zq_LatinRectangles_Text_51 : z_lookup z_prs ("LatinRectangles$Text", 51) = some (1, 624) := by decide +kernel
theorem zq_LatinRectangles_Transversals_3 : z_lookup z_ois ("LatinRectangles$Transversals", 3) = some 268 := by decide +kernel
theorem zq_LatinRectangles_Transversals_53 : z_lookup z_prs ("LatinRectangles$Transversals", 53) = some (2, 454) := by decide +kernel
theorem zq_java_lang_Integer_265 : z_lookup z_kss ("java/lang/Integer", 265) = some (1431655765, 401) := by decide +kernel
theorem zq_java_lang_Integer_266 : z_lookup z_kss ("java/lang/Integer", 266) = some (858993459, 402) := by decide +kernel
theorem zq_java_lang_Integer_267 : z_lookup z_kss ("java/lang/Integer", 267) = some (252645135, 403) := by decide +kernel
