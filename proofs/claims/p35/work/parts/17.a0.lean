/-! the equations of every instruction, printed by wip/p35/gen17.py; first the links -/
theorem z_Ca_ent {g : z_G} {d m L : Nat} {as l0 : List Value} {h : z_H} {P : z_Res → Prop} (hm : z_maxL m = L) (hl : decide (as.length ≤ L) = true) (h0 : as ++ List.replicate (L - as.length) z_un = l0) : z_Ca g d m as h P = z_T g d m 0 l0 [] h P := by
  subst hm
  exact z_Ca_eq hl h0
theorem z_hd_of {mi pc t : Nat} {k : Fin 4} {E : String} {ls : List Value} (h1 : z_hdF (z_own mi) pc E (z_hds mi) = some t) (h2 : z_ins mi t = some (.astore_n k, 1)) (h3 : (k : Nat) < ls.length) : z_hd mi pc E ls = some (t + 1, ls.set k z_un) := by
  simp only [z_hd, h1, h2, if_pos h3]
theorem z_hd_of2 {mi pc t : Nat} {k : Nat} {E : String} {ls : List Value} (h1 : z_hdF (z_own mi) pc E (z_hds mi) = some t) (h2 : z_ins mi t = some (.astore k, 2)) (h3 : k < ls.length) : z_hd mi pc E ls = some (t + 2, ls.set k z_un) := by
  simp only [z_hd, h1, h2, if_pos h3]
theorem zo_15 : z_own 15 = "LatinRectangles$Forces" := by decide +kernel
theorem zo_16 : z_own 16 = "LatinRectangles$Forces" := by decide +kernel
theorem zo_17 : z_own 17 = "LatinRectangles$Forces" := by decide +kernel
theorem zo_18 : z_own 18 = "LatinRectangles$Forces" := by decide +kernel
theorem zo_19 : z_own 19 = "LatinRectangles$Forces" := by decide +kernel
theorem zo_20 : z_own 20 = "LatinRectangles$Forces" := by decide +kernel
theorem zo_21 : z_own 21 = "LatinRectangles$Forces" := by decide +kernel
theorem zo_22 : z_own 22 = "LatinRectangles$Forces" := by decide +kernel
theorem zo_23 : z_own 23 = "LatinRectangles$Grid" := by decide +kernel
theorem zo_24 : z_own 24 = "LatinRectangles$Grid" := by decide +kernel
theorem zo_25 : z_own 25 = "LatinRectangles$Grid" := by decide +kernel
theorem zo_26 : z_own 26 = "LatinRectangles$Grid" := by decide +kernel
theorem zo_27 : z_own 27 = "LatinRectangles$Grid" := by decide +kernel
theorem zo_28 : z_own 28 = "LatinRectangles$Grid" := by decide +kernel
theorem zo_29 : z_own 29 = "LatinRectangles$Grid" := by decide +kernel
theorem zo_30 : z_own 30 = "LatinRectangles$Grid" := by decide +kernel
theorem zo_31 : z_own 31 = "LatinRectangles$Grid" := by decide +kernel
theorem zo_32 : z_own 32 = "LatinRectangles$Grid" := by decide +kernel
theorem zo_33 : z_own 33 = "LatinRectangles$Grid" := by decide +kernel
theorem zo_34 : z_own 34 = "LatinRectangles$Grid" := by decide +kernel
theorem zo_35 : z_own 35 = "LatinRectangles$Grid" := by decide +kernel
theorem zo_36 : z_own 36 = "LatinRectangles$Grid" := by decide +kernel
theorem zo_37 : z_own 37 = "LatinRectangles$Grid" := by decide +kernel
theorem zo_38 : z_own 38 = "LatinRectangles$History" := by decide +kernel
theorem zo_39 : z_own 39 = "LatinRectangles$History" := by decide +kernel
theorem zo_40 : z_own 40 = "LatinRectangles$History" := by decide +kernel
theorem zo_51 : z_own 51 = "LatinRectangles$Snapshots" := by decide +kernel
theorem zo_52 : z_own 52 = "LatinRectangles$Snapshots" := by decide +kernel
theorem zo_41 : z_own 41 = "LatinRectangles$Parser" := by decide +kernel
theorem zo_42 : z_own 42 = "LatinRectangles$Parser" := by decide +kernel
theorem zo_43 : z_own 43 = "LatinRectangles$Parser" := by decide +kernel
theorem zo_44 : z_own 44 = "LatinRectangles$Parser" := by decide +kernel
theorem zo_45 : z_own 45 = "LatinRectangles$Parser" := by decide +kernel
theorem zo_46 : z_own 46 = "LatinRectangles$Parser" := by decide +kernel
theorem zo_47 : z_own 47 = "LatinRectangles$Parser" := by decide +kernel
theorem zo_48 : z_own 48 = "LatinRectangles$Parser" := by decide +kernel
theorem zo_49 : z_own 49 = "LatinRectangles$Parser" := by decide +kernel
theorem zo_50 : z_own 50 = "LatinRectangles$Parser" := by decide +kernel
theorem zo_53 : z_own 53 = "LatinRectangles$Text" := by decide +kernel
theorem zo_54 : z_own 54 = "LatinRectangles$Text" := by decide +kernel
theorem zo_55 : z_own 55 = "LatinRectangles$Text" := by decide +kernel
theorem zo_56 : z_own 56 = "LatinRectangles$Text" := by decide +kernel
theorem zo_57 : z_own 57 = "LatinRectangles$Text" := by decide +kernel
theorem zo_58 : z_own 58 = "LatinRectangles$Text" := by decide +kernel
theorem zo_59 : z_own 59 = "LatinRectangles$Text" := by decide +kernel
theorem zo_0 : z_own 0 = "LatinRectangles$Completions" := by decide +kernel
theorem zo_1 : z_own 1 = "LatinRectangles$Completions" := by decide +kernel
theorem zo_2 : z_own 2 = "LatinRectangles$Completions" := by decide +kernel
theorem zo_3 : z_own 3 = "LatinRectangles$Completions" := by decide +kernel
theorem zo_4 : z_own 4 = "LatinRectangles$Completions" := by decide +kernel
theorem zo_5 : z_own 5 = "LatinRectangles$Completions" := by decide +kernel
theorem zo_6 : z_own 6 = "LatinRectangles$Completions" := by decide +kernel
theorem zo_7 : z_own 7 = "LatinRectangles$Completions" := by decide +kernel
theorem zo_8 : z_own 8 = "LatinRectangles$Cycles" := by decide +kernel
theorem zo_9 : z_own 9 = "LatinRectangles$Cycles" := by decide +kernel
theorem zo_10 : z_own 10 = "LatinRectangles$Cycles" := by decide +kernel
theorem zo_11 : z_own 11 = "LatinRectangles$Cycles" := by decide +kernel
theorem zo_12 : z_own 12 = "LatinRectangles$Cycles" := by decide +kernel
theorem zo_13 : z_own 13 = "LatinRectangles$Cycles" := by decide +kernel
theorem zo_14 : z_own 14 = "LatinRectangles$Cycles" := by decide +kernel
theorem zo_60 : z_own 60 = "LatinRectangles$Transversals" := by decide +kernel
theorem zo_61 : z_own 61 = "LatinRectangles$Transversals" := by decide +kernel
theorem zo_62 : z_own 62 = "LatinRectangles$Transversals" := by decide +kernel
theorem zo_63 : z_own 63 = "LatinRectangles$Transversals" := by decide +kernel
theorem zo_64 : z_own 64 = "LatinRectangles$Transversals" := by decide +kernel
theorem zo_65 : z_own 65 = "LatinRectangles$Transversals" := by decide +kernel
theorem zo_66 : z_own 66 = "LatinRectangles$Transversals" := by decide +kernel
theorem zo_67 : z_own 67 = "LatinRectangles" := by decide +kernel
theorem zo_68 : z_own 68 = "LatinRectangles" := by decide +kernel
theorem zo_69 : z_own 69 = "LatinRectangles" := by decide +kernel
theorem zo_70 : z_own 70 = "LatinRectangles" := by decide +kernel
theorem zo_71 : z_own 71 = "LatinRectangles" := by decide +kernel
theorem zo_72 : z_own 72 = "LatinRectangles" := by decide +kernel
theorem zo_73 : z_own 73 = "LatinRectangles" := by decide +kernel
theorem zo_74 : z_own 74 = "LatinRectangles" := by decide +kernel
theorem zo_75 : z_own 75 = "LatinRectangles" := by decide +kernel
theorem zo_76 : z_own 76 = "LatinRectangles" := by decide +kernel
theorem zo_77 : z_own 77 = "LatinRectangles" := by decide +kernel
theorem zo_78 : z_own 78 = "LatinRectangles" := by decide +kernel
theorem zo_79 : z_own 79 = "LatinRectangles" := by decide +kernel
theorem zo_80 : z_own 80 = "LatinRectangles" := by decide +kernel
theorem zo_81 : z_own 81 = "LatinRectangles" := by decide +kernel
theorem zo_82 : z_own 82 = "LatinRectangles" := by decide +kernel
theorem zo_83 : z_own 83 = "LatinRectangles" := by decide +kernel
theorem zo_84 : z_own 84 = "LatinRectangles" := by decide +kernel
theorem zo_85 : z_own 85 = "LatinRectangles" := by decide +kernel
theorem zo_86 : z_own 86 = "LatinRectangles" := by decide +kernel
theorem zo_87 : z_own 87 = "LatinRectangles" := by decide +kernel
theorem zo_88 : z_own 88 = "LatinRectangles" := by decide +kernel
theorem zo_89 : z_own 89 = "LatinRectangles" := by decide +kernel
theorem zo_90 : z_own 90 = "LatinRectangles" := by decide +kernel
theorem zo_91 : z_own 91 = "LatinRectangles" := by decide +kernel
theorem zo_92 : z_own 92 = "LatinRectangles" := by decide +kernel
theorem zo_93 : z_own 93 = "LatinRectangles" := by decide +kernel
theorem zo_107 : z_own 107 = "java/lang/AbstractStringBuilder" := by decide +kernel
theorem zo_108 : z_own 108 = "java/lang/AbstractStringBuilder" := by decide +kernel
theorem zo_109 : z_own 109 = "java/lang/AbstractStringBuilder" := by decide +kernel
theorem zo_110 : z_own 110 = "java/lang/AbstractStringBuilder" := by decide +kernel
theorem zo_111 : z_own 111 = "java/lang/AbstractStringBuilder" := by decide +kernel
theorem zo_112 : z_own 112 = "java/lang/AbstractStringBuilder" := by decide +kernel
theorem zo_113 : z_own 113 = "java/lang/AbstractStringBuilder" := by decide +kernel
theorem zo_114 : z_own 114 = "java/lang/AbstractStringBuilder" := by decide +kernel
theorem zo_115 : z_own 115 = "java/lang/AbstractStringBuilder" := by decide +kernel
theorem zo_116 : z_own 116 = "java/lang/AbstractStringBuilder" := by decide +kernel
theorem zo_117 : z_own 117 = "java/lang/AbstractStringBuilder" := by decide +kernel
theorem zo_118 : z_own 118 = "java/lang/Integer" := by decide +kernel
theorem zo_119 : z_own 119 = "java/lang/Integer" := by decide +kernel
theorem zo_120 : z_own 120 = "java/lang/Integer" := by decide +kernel
theorem zo_121 : z_own 121 = "java/lang/Integer" := by decide +kernel
theorem zo_122 : z_own 122 = "java/lang/String" := by decide +kernel
theorem zo_123 : z_own 123 = "java/lang/String" := by decide +kernel
theorem zo_124 : z_own 124 = "java/lang/String" := by decide +kernel
theorem zo_125 : z_own 125 = "java/lang/String" := by decide +kernel
theorem zo_126 : z_own 126 = "java/lang/String" := by decide +kernel
theorem zo_127 : z_own 127 = "java/lang/String" := by decide +kernel
theorem zo_128 : z_own 128 = "java/lang/String" := by decide +kernel
theorem zo_129 : z_own 129 = "java/lang/StringBuilder" := by decide +kernel
theorem zo_130 : z_own 130 = "java/lang/StringBuilder" := by decide +kernel
theorem zo_131 : z_own 131 = "java/lang/StringBuilder" := by decide +kernel
theorem zo_132 : z_own 132 = "java/lang/StringBuilder" := by decide +kernel
theorem zo_133 : z_own 133 = "java/lang/StringBuilder" := by decide +kernel
theorem zo_134 : z_own 134 = "java/lang/StringBuilder" := by decide +kernel
theorem zo_135 : z_own 135 = "java/lang/StringLatin1" := by decide +kernel
theorem zo_136 : z_own 136 = "java/lang/StringLatin1" := by decide +kernel
theorem zo_137 : z_own 137 = "java/util/Arrays" := by decide +kernel
theorem zo_138 : z_own 138 = "java/util/Arrays" := by decide +kernel
theorem zo_139 : z_own 139 = "java/util/Arrays" := by decide +kernel
theorem zo_140 : z_own 140 = "java/util/Arrays" := by decide +kernel
theorem zo_141 : z_own 141 = "jdk/internal/util/ArraysSupport" := by decide +kernel
theorem zo_94 : z_own 94 = "LatinRectanglesLaw$Grid" := by decide +kernel
theorem zo_95 : z_own 95 = "LatinRectanglesLaw$Grid" := by decide +kernel
theorem zo_96 : z_own 96 = "LatinRectanglesLaw$Grid" := by decide +kernel
theorem zo_97 : z_own 97 = "LatinRectanglesLaw$Grid" := by decide +kernel
theorem zo_98 : z_own 98 = "LatinRectanglesLaw$Grid" := by decide +kernel
theorem zo_99 : z_own 99 = "LatinRectanglesLaw$Grid" := by decide +kernel
theorem zo_100 : z_own 100 = "LatinRectanglesLaw$Grid" := by decide +kernel
theorem zo_101 : z_own 101 = "LatinRectanglesLaw$Grid" := by decide +kernel
theorem zo_102 : z_own 102 = "LatinRectanglesLaw$Grid" := by decide +kernel
theorem zo_103 : z_own 103 = "LatinRectanglesLaw$Grid" := by decide +kernel
theorem zo_104 : z_own 104 = "LatinRectanglesLaw$Grid" := by decide +kernel
theorem zo_105 : z_own 105 = "LatinRectanglesLaw$Grid" := by decide +kernel
theorem zo_106 : z_own 106 = "LatinRectanglesLaw$Grid" := by decide +kernel
theorem zo_142 : z_own 142 = "LatinRectanglesLaw" := by decide +kernel
theorem zo_143 : z_own 143 = "LatinRectanglesLaw" := by decide +kernel
theorem zo_144 : z_own 144 = "LatinRectanglesLaw" := by decide +kernel
theorem zo_145 : z_own 145 = "LatinRectanglesLaw" := by decide +kernel
theorem zo_146 : z_own 146 = "LatinRectanglesLaw" := by decide +kernel
theorem zo_147 : z_own 147 = "LatinRectanglesLaw" := by decide +kernel
theorem zo_148 : z_own 148 = "LatinRectanglesLaw" := by decide +kernel
theorem zo_149 : z_own 149 = "LatinRectanglesLaw" := by decide +kernel
theorem zo_150 : z_own 150 = "LatinRectanglesLaw" := by decide +kernel
theorem zo_151 : z_own 151 = "LatinRectanglesLaw" := by decide +kernel
theorem zo_152 : z_own 152 = "LatinRectanglesLaw" := by decide +kernel
theorem zo_153 : z_own 153 = "LatinRectanglesLaw" := by decide +kernel
theorem zo_154 : z_own 154 = "LatinRectanglesLaw" := by decide +kernel
theorem zc_1 : (vwCl[0]?).map (fun q => q.1) = some (z_own 1) := by decide +kernel
theorem zc_10 : (vwCl[1]?).map (fun q => q.1) = some (z_own 10) := by decide +kernel
theorem zc_100 : (vwCl[10]?).map (fun q => q.1) = some (z_own 100) := by decide +kernel
theorem zc_101 : (vwCl[10]?).map (fun q => q.1) = some (z_own 101) := by decide +kernel
theorem zc_102 : (vwCl[10]?).map (fun q => q.1) = some (z_own 102) := by decide +kernel
theorem zc_103 : (vwCl[10]?).map (fun q => q.1) = some (z_own 103) := by decide +kernel
theorem zc_104 : (vwCl[10]?).map (fun q => q.1) = some (z_own 104) := by decide +kernel
theorem zc_105 : (vwCl[10]?).map (fun q => q.1) = some (z_own 105) := by decide +kernel
theorem zc_106 : (vwCl[10]?).map (fun q => q.1) = some (z_own 106) := by decide +kernel
theorem zc_11 : (vwCl[1]?).map (fun q => q.1) = some (z_own 11) := by decide +kernel
theorem zc_12 : (vwCl[1]?).map (fun q => q.1) = some (z_own 12) := by decide +kernel
theorem zc_123 : (vwCl[11]?).map (fun q => q.1) = some (z_own 123) := by decide +kernel
theorem zc_124 : (vwCl[11]?).map (fun q => q.1) = some (z_own 124) := by decide +kernel
theorem zc_125 : (vwCl[11]?).map (fun q => q.1) = some (z_own 125) := by decide +kernel
theorem zc_127 : (vwCl[11]?).map (fun q => q.1) = some (z_own 127) := by decide +kernel
theorem zc_128 : (vwCl[11]?).map (fun q => q.1) = some (z_own 128) := by decide +kernel
theorem zc_13 : (vwCl[1]?).map (fun q => q.1) = some (z_own 13) := by decide +kernel
theorem zc_130 : (vwCl[12]?).map (fun q => q.1) = some (z_own 130) := by decide +kernel
theorem zc_131 : (vwCl[12]?).map (fun q => q.1) = some (z_own 131) := by decide +kernel
theorem zc_132 : (vwCl[12]?).map (fun q => q.1) = some (z_own 132) := by decide +kernel
theorem zc_133 : (vwCl[12]?).map (fun q => q.1) = some (z_own 133) := by decide +kernel
theorem zc_134 : (vwCl[12]?).map (fun q => q.1) = some (z_own 134) := by decide +kernel
theorem zc_14 : (vwCl[1]?).map (fun q => q.1) = some (z_own 14) := by decide +kernel
theorem zc_16 : (vwCl[2]?).map (fun q => q.1) = some (z_own 16) := by decide +kernel
theorem zc_17 : (vwCl[2]?).map (fun q => q.1) = some (z_own 17) := by decide +kernel
theorem zc_18 : (vwCl[2]?).map (fun q => q.1) = some (z_own 18) := by decide +kernel
theorem zc_19 : (vwCl[2]?).map (fun q => q.1) = some (z_own 19) := by decide +kernel
theorem zc_2 : (vwCl[0]?).map (fun q => q.1) = some (z_own 2) := by decide +kernel
theorem zc_20 : (vwCl[2]?).map (fun q => q.1) = some (z_own 20) := by decide +kernel
theorem zc_21 : (vwCl[2]?).map (fun q => q.1) = some (z_own 21) := by decide +kernel
theorem zc_22 : (vwCl[2]?).map (fun q => q.1) = some (z_own 22) := by decide +kernel
theorem zc_24 : (vwCl[3]?).map (fun q => q.1) = some (z_own 24) := by decide +kernel
theorem zc_25 : (vwCl[3]?).map (fun q => q.1) = some (z_own 25) := by decide +kernel
theorem zc_26 : (vwCl[3]?).map (fun q => q.1) = some (z_own 26) := by decide +kernel
theorem zc_27 : (vwCl[3]?).map (fun q => q.1) = some (z_own 27) := by decide +kernel
theorem zc_28 : (vwCl[3]?).map (fun q => q.1) = some (z_own 28) := by decide +kernel
theorem zc_29 : (vwCl[3]?).map (fun q => q.1) = some (z_own 29) := by decide +kernel
theorem zc_3 : (vwCl[0]?).map (fun q => q.1) = some (z_own 3) := by decide +kernel
theorem zc_30 : (vwCl[3]?).map (fun q => q.1) = some (z_own 30) := by decide +kernel
theorem zc_31 : (vwCl[3]?).map (fun q => q.1) = some (z_own 31) := by decide +kernel
theorem zc_32 : (vwCl[3]?).map (fun q => q.1) = some (z_own 32) := by decide +kernel
theorem zc_33 : (vwCl[3]?).map (fun q => q.1) = some (z_own 33) := by decide +kernel
theorem zc_34 : (vwCl[3]?).map (fun q => q.1) = some (z_own 34) := by decide +kernel
theorem zc_35 : (vwCl[3]?).map (fun q => q.1) = some (z_own 35) := by decide +kernel
theorem zc_36 : (vwCl[3]?).map (fun q => q.1) = some (z_own 36) := by decide +kernel
theorem zc_37 : (vwCl[3]?).map (fun q => q.1) = some (z_own 37) := by decide +kernel
theorem zc_39 : (vwCl[4]?).map (fun q => q.1) = some (z_own 39) := by decide +kernel
theorem zc_4 : (vwCl[0]?).map (fun q => q.1) = some (z_own 4) := by decide +kernel
theorem zc_40 : (vwCl[4]?).map (fun q => q.1) = some (z_own 40) := by decide +kernel
theorem zc_42 : (vwCl[5]?).map (fun q => q.1) = some (z_own 42) := by decide +kernel
theorem zc_43 : (vwCl[5]?).map (fun q => q.1) = some (z_own 43) := by decide +kernel
theorem zc_44 : (vwCl[5]?).map (fun q => q.1) = some (z_own 44) := by decide +kernel
theorem zc_45 : (vwCl[5]?).map (fun q => q.1) = some (z_own 45) := by decide +kernel
theorem zc_46 : (vwCl[5]?).map (fun q => q.1) = some (z_own 46) := by decide +kernel
theorem zc_47 : (vwCl[5]?).map (fun q => q.1) = some (z_own 47) := by decide +kernel
theorem zc_48 : (vwCl[5]?).map (fun q => q.1) = some (z_own 48) := by decide +kernel
theorem zc_49 : (vwCl[5]?).map (fun q => q.1) = some (z_own 49) := by decide +kernel
theorem zc_5 : (vwCl[0]?).map (fun q => q.1) = some (z_own 5) := by decide +kernel
theorem zc_50 : (vwCl[5]?).map (fun q => q.1) = some (z_own 50) := by decide +kernel
theorem zc_52 : (vwCl[6]?).map (fun q => q.1) = some (z_own 52) := by decide +kernel
theorem zc_54 : (vwCl[7]?).map (fun q => q.1) = some (z_own 54) := by decide +kernel
theorem zc_55 : (vwCl[7]?).map (fun q => q.1) = some (z_own 55) := by decide +kernel
theorem zc_56 : (vwCl[7]?).map (fun q => q.1) = some (z_own 56) := by decide +kernel
theorem zc_57 : (vwCl[7]?).map (fun q => q.1) = some (z_own 57) := by decide +kernel
theorem zc_58 : (vwCl[7]?).map (fun q => q.1) = some (z_own 58) := by decide +kernel
theorem zc_59 : (vwCl[7]?).map (fun q => q.1) = some (z_own 59) := by decide +kernel
theorem zc_61 : (vwCl[8]?).map (fun q => q.1) = some (z_own 61) := by decide +kernel
theorem zc_62 : (vwCl[8]?).map (fun q => q.1) = some (z_own 62) := by decide +kernel
theorem zc_65 : (vwCl[8]?).map (fun q => q.1) = some (z_own 65) := by decide +kernel
theorem zc_66 : (vwCl[8]?).map (fun q => q.1) = some (z_own 66) := by decide +kernel
theorem zc_68 : (vwCl[9]?).map (fun q => q.1) = some (z_own 68) := by decide +kernel
theorem zc_69 : (vwCl[9]?).map (fun q => q.1) = some (z_own 69) := by decide +kernel
theorem zc_7 : (vwCl[0]?).map (fun q => q.1) = some (z_own 7) := by decide +kernel
theorem zc_70 : (vwCl[9]?).map (fun q => q.1) = some (z_own 70) := by decide +kernel
theorem zc_71 : (vwCl[9]?).map (fun q => q.1) = some (z_own 71) := by decide +kernel
theorem zc_72 : (vwCl[9]?).map (fun q => q.1) = some (z_own 72) := by decide +kernel
theorem zc_73 : (vwCl[9]?).map (fun q => q.1) = some (z_own 73) := by decide +kernel
theorem zc_74 : (vwCl[9]?).map (fun q => q.1) = some (z_own 74) := by decide +kernel
theorem zc_75 : (vwCl[9]?).map (fun q => q.1) = some (z_own 75) := by decide +kernel
theorem zc_76 : (vwCl[9]?).map (fun q => q.1) = some (z_own 76) := by decide +kernel
theorem zc_77 : (vwCl[9]?).map (fun q => q.1) = some (z_own 77) := by decide +kernel
theorem zc_78 : (vwCl[9]?).map (fun q => q.1) = some (z_own 78) := by decide +kernel
theorem zc_79 : (vwCl[9]?).map (fun q => q.1) = some (z_own 79) := by decide +kernel
theorem zc_80 : (vwCl[9]?).map (fun q => q.1) = some (z_own 80) := by decide +kernel
theorem zc_81 : (vwCl[9]?).map (fun q => q.1) = some (z_own 81) := by decide +kernel
theorem zc_82 : (vwCl[9]?).map (fun q => q.1) = some (z_own 82) := by decide +kernel
theorem zc_83 : (vwCl[9]?).map (fun q => q.1) = some (z_own 83) := by decide +kernel
theorem zc_84 : (vwCl[9]?).map (fun q => q.1) = some (z_own 84) := by decide +kernel
theorem zc_85 : (vwCl[9]?).map (fun q => q.1) = some (z_own 85) := by decide +kernel
theorem zc_86 : (vwCl[9]?).map (fun q => q.1) = some (z_own 86) := by decide +kernel
theorem zc_87 : (vwCl[9]?).map (fun q => q.1) = some (z_own 87) := by decide +kernel
theorem zc_88 : (vwCl[9]?).map (fun q => q.1) = some (z_own 88) := by decide +kernel
theorem zc_89 : (vwCl[9]?).map (fun q => q.1) = some (z_own 89) := by decide +kernel
theorem zc_9 : (vwCl[1]?).map (fun q => q.1) = some (z_own 9) := by decide +kernel
theorem zc_90 : (vwCl[9]?).map (fun q => q.1) = some (z_own 90) := by decide +kernel
theorem zc_91 : (vwCl[9]?).map (fun q => q.1) = some (z_own 91) := by decide +kernel
theorem zc_95 : (vwCl[10]?).map (fun q => q.1) = some (z_own 95) := by decide +kernel
theorem zc_96 : (vwCl[10]?).map (fun q => q.1) = some (z_own 96) := by decide +kernel
theorem zc_97 : (vwCl[10]?).map (fun q => q.1) = some (z_own 97) := by decide +kernel
theorem zc_98 : (vwCl[10]?).map (fun q => q.1) = some (z_own 98) := by decide +kernel
theorem zc_99 : (vwCl[10]?).map (fun q => q.1) = some (z_own 99) := by decide +kernel
theorem zf_LatinRectanglesLaw_105 : z_fl "LatinRectanglesLaw" 105 = some (10, 1, false, false) := by decide +kernel
theorem zf_LatinRectanglesLaw_196 : z_fl "LatinRectanglesLaw" 196 = some (10, 7, false, false) := by decide +kernel
theorem zf_LatinRectanglesLaw_202 : z_fl "LatinRectanglesLaw" 202 = some (10, 8, true, false) := by decide +kernel
theorem zf_LatinRectanglesLaw_208 : z_fl "LatinRectanglesLaw" 208 = some (10, 9, true, false) := by decide +kernel
theorem zf_LatinRectanglesLaw_218 : z_fl "LatinRectanglesLaw" 218 = some (10, 11, true, false) := by decide +kernel
theorem zf_LatinRectanglesLaw_224 : z_fl "LatinRectanglesLaw" 224 = some (10, 10, true, false) := by decide +kernel
theorem zf_LatinRectanglesLaw_48 : z_fl "LatinRectanglesLaw" 48 = some (10, 0, false, false) := by decide +kernel
theorem zf_LatinRectanglesLaw_62 : z_fl "LatinRectanglesLaw" 62 = some (10, 4, true, false) := by decide +kernel
theorem zf_LatinRectanglesLaw_66 : z_fl "LatinRectanglesLaw" 66 = some (10, 5, true, false) := by decide +kernel
theorem zf_LatinRectanglesLaw_70 : z_fl "LatinRectanglesLaw" 70 = some (10, 3, false, false) := by decide +kernel
theorem zf_LatinRectanglesLaw_75 : z_fl "LatinRectanglesLaw" 75 = some (10, 6, true, false) := by decide +kernel
theorem zf_LatinRectanglesLaw_79 : z_fl "LatinRectanglesLaw" 79 = some (10, 2, false, false) := by decide +kernel
theorem zf_LatinRectanglesLaw_Grid_13 : z_fl "LatinRectanglesLaw$Grid" 13 = some (10, 1, false, false) := by decide +kernel
theorem zf_LatinRectanglesLaw_Grid_18 : z_fl "LatinRectanglesLaw$Grid" 18 = some (10, 4, true, false) := by decide +kernel
theorem zf_LatinRectanglesLaw_Grid_23 : z_fl "LatinRectanglesLaw$Grid" 23 = some (10, 5, true, false) := by decide +kernel
theorem zf_LatinRectanglesLaw_Grid_28 : z_fl "LatinRectanglesLaw$Grid" 28 = some (10, 6, true, false) := by decide +kernel
theorem zf_LatinRectanglesLaw_Grid_48 : z_fl "LatinRectanglesLaw$Grid" 48 = some (10, 7, false, false) := by decide +kernel
theorem zf_LatinRectanglesLaw_Grid_51 : z_fl "LatinRectanglesLaw$Grid" 51 = some (10, 9, true, false) := by decide +kernel
theorem zf_LatinRectanglesLaw_Grid_62 : z_fl "LatinRectanglesLaw$Grid" 62 = some (10, 8, true, false) := by decide +kernel
theorem zf_LatinRectanglesLaw_Grid_7 : z_fl "LatinRectanglesLaw$Grid" 7 = some (10, 0, false, false) := by decide +kernel
theorem zf_LatinRectanglesLaw_Grid_71 : z_fl "LatinRectanglesLaw$Grid" 71 = some (10, 10, true, false) := by decide +kernel
theorem zf_LatinRectanglesLaw_Grid_74 : z_fl "LatinRectanglesLaw$Grid" 74 = some (10, 11, true, false) := by decide +kernel
theorem zf_LatinRectangles_102 : z_fl "LatinRectangles" 102 = some (5, 3, false, false) := by decide +kernel
theorem zf_LatinRectangles_105 : z_fl "LatinRectangles" 105 = some (5, 2, false, false) := by decide +kernel
theorem zf_LatinRectangles_108 : z_fl "LatinRectangles" 108 = some (5, 1, true, true) := by decide +kernel
theorem zf_LatinRectangles_12 : z_fl "LatinRectangles" 12 = some (9, 0, true, true) := by decide +kernel
theorem zf_LatinRectangles_122 : z_fl "LatinRectangles" 122 = some (3, 5, false, false) := by decide +kernel
theorem zf_LatinRectangles_125 : z_fl "LatinRectangles" 125 = some (3, 6, false, false) := by decide +kernel
theorem zf_LatinRectangles_128 : z_fl "LatinRectangles" 128 = some (3, 7, false, false) := by decide +kernel
theorem zf_LatinRectangles_131 : z_fl "LatinRectangles" 131 = some (3, 8, false, false) := by decide +kernel
theorem zf_LatinRectangles_134 : z_fl "LatinRectangles" 134 = some (3, 9, false, false) := by decide +kernel
theorem zf_LatinRectangles_147 : z_fl "LatinRectangles" 147 = some (3, 0, true, true) := by decide +kernel
theorem zf_LatinRectangles_150 : z_fl "LatinRectangles" 150 = some (3, 1, true, true) := by decide +kernel
theorem zf_LatinRectangles_19 : z_fl "LatinRectangles" 19 = some (9, 1, true, true) := by decide +kernel
theorem zf_LatinRectangles_28 : z_fl "LatinRectangles" 28 = some (9, 2, true, true) := by decide +kernel
theorem zf_LatinRectangles_37 : z_fl "LatinRectangles" 37 = some (9, 3, true, true) := by decide +kernel
theorem zf_LatinRectangles_44 : z_fl "LatinRectangles" 44 = some (9, 4, true, true) := by decide +kernel
theorem zf_LatinRectangles_51 : z_fl "LatinRectangles" 51 = some (9, 5, true, true) := by decide +kernel
theorem zf_LatinRectangles_58 : z_fl "LatinRectangles" 58 = some (9, 6, true, true) := by decide +kernel
theorem zf_LatinRectangles_65 : z_fl "LatinRectangles" 65 = some (9, 7, true, true) := by decide +kernel
theorem zf_LatinRectangles_72 : z_fl "LatinRectangles" 72 = some (9, 8, true, true) := by decide +kernel
theorem zf_LatinRectangles_76 : z_fl "LatinRectangles" 76 = some (9, 9, true, true) := by decide +kernel
theorem zf_LatinRectangles_80 : z_fl "LatinRectangles" 80 = some (9, 10, false, false) := by decide +kernel
theorem zf_LatinRectangles_84 : z_fl "LatinRectangles" 84 = some (7, 1, false, false) := by decide +kernel
theorem zf_LatinRectangles_Completions_12 : z_fl "LatinRectangles$Completions" 12 = some (0, 1, true, true) := by decide +kernel
theorem zf_LatinRectangles_Completions_18 : z_fl "LatinRectangles$Completions" 18 = some (0, 2, true, true) := by decide +kernel
theorem zf_LatinRectangles_Completions_22 : z_fl "LatinRectangles$Completions" 22 = some (0, 0, true, true) := by decide +kernel
theorem zf_LatinRectangles_Completions_33 : z_fl "LatinRectangles$Completions" 33 = some (3, 6, false, false) := by decide +kernel
theorem zf_LatinRectangles_Completions_37 : z_fl "LatinRectangles$Completions" 37 = some (3, 0, true, true) := by decide +kernel
theorem zf_LatinRectangles_Completions_55 : z_fl "LatinRectangles$Completions" 55 = some (0, 3, false, false) := by decide +kernel
theorem zf_LatinRectangles_Completions_58 : z_fl "LatinRectangles$Completions" 58 = some (3, 5, false, false) := by decide +kernel
theorem zf_LatinRectangles_Cycles_15 : z_fl "LatinRectangles$Cycles" 15 = some (1, 0, true, true) := by decide +kernel
theorem zf_LatinRectangles_Cycles_19 : z_fl "LatinRectangles$Cycles" 19 = some (3, 6, false, false) := by decide +kernel
theorem zf_LatinRectangles_Cycles_25 : z_fl "LatinRectangles$Cycles" 25 = some (3, 0, true, true) := by decide +kernel
theorem zf_LatinRectangles_Cycles_38 : z_fl "LatinRectangles$Cycles" 38 = some (3, 5, false, false) := by decide +kernel
theorem zf_LatinRectangles_Cycles_63 : z_fl "LatinRectangles$Cycles" 63 = some (3, 1, true, true) := by decide +kernel
theorem zf_LatinRectangles_Cycles_9 : z_fl "LatinRectangles$Cycles" 9 = some (1, 1, true, true) := by decide +kernel
theorem zf_LatinRectangles_Forces_15 : z_fl "LatinRectangles$Forces" 15 = some (3, 5, false, false) := by decide +kernel
theorem zf_LatinRectangles_Forces_21 : z_fl "LatinRectangles$Forces" 21 = some (3, 6, false, false) := by decide +kernel
theorem zf_LatinRectangles_Forces_9 : z_fl "LatinRectangles$Forces" 9 = some (2, 0, true, true) := by decide +kernel
theorem zf_LatinRectangles_Grid_15 : z_fl "LatinRectangles$Grid" 15 = some (3, 1, true, true) := by decide +kernel
theorem zf_LatinRectangles_Grid_19 : z_fl "LatinRectangles$Grid" 19 = some (3, 2, true, true) := by decide +kernel
theorem zf_LatinRectangles_Grid_22 : z_fl "LatinRectangles$Grid" 22 = some (3, 3, true, true) := by decide +kernel
theorem zf_LatinRectangles_Grid_25 : z_fl "LatinRectangles$Grid" 25 = some (3, 4, true, true) := by decide +kernel
theorem zf_LatinRectangles_Grid_32 : z_fl "LatinRectangles$Grid" 32 = some (3, 5, false, false) := by decide +kernel
theorem zf_LatinRectangles_Grid_36 : z_fl "LatinRectangles$Grid" 36 = some (3, 6, false, false) := by decide +kernel
theorem zf_LatinRectangles_Grid_39 : z_fl "LatinRectangles$Grid" 39 = some (3, 8, false, false) := by decide +kernel
theorem zf_LatinRectangles_Grid_42 : z_fl "LatinRectangles$Grid" 42 = some (3, 9, false, false) := by decide +kernel
theorem zf_LatinRectangles_Grid_48 : z_fl "LatinRectangles$Grid" 48 = some (3, 7, false, false) := by decide +kernel
theorem zf_LatinRectangles_Grid_9 : z_fl "LatinRectangles$Grid" 9 = some (3, 0, true, true) := by decide +kernel
theorem zf_LatinRectangles_History_11 : z_fl "LatinRectangles$History" 11 = some (4, 0, true, true) := by decide +kernel
theorem zf_LatinRectangles_History_16 : z_fl "LatinRectangles$History" 16 = some (4, 1, false, false) := by decide +kernel
theorem zf_LatinRectangles_History_20 : z_fl "LatinRectangles$History" 20 = some (4, 2, false, false) := by decide +kernel
theorem zf_LatinRectangles_Parser_103 : z_fl "LatinRectangles$Parser" 103 = some (3, 0, true, true) := by decide +kernel
theorem zf_LatinRectangles_Parser_12 : z_fl "LatinRectangles$Parser" 12 = some (5, 1, true, true) := by decide +kernel
theorem zf_LatinRectangles_Parser_18 : z_fl "LatinRectangles$Parser" 18 = some (5, 0, true, true) := by decide +kernel
theorem zf_LatinRectangles_Parser_22 : z_fl "LatinRectangles$Parser" 22 = some (5, 2, false, false) := by decide +kernel
theorem zf_LatinRectangles_Parser_26 : z_fl "LatinRectangles$Parser" 26 = some (5, 3, false, false) := by decide +kernel
theorem zf_LatinRectangles_Parser_42 : z_fl "LatinRectangles$Parser" 42 = some (7, 4, false, false) := by decide +kernel
theorem zf_LatinRectangles_Parser_52 : z_fl "LatinRectangles$Parser" 52 = some (7, 5, false, false) := by decide +kernel
theorem zf_LatinRectangles_Parser_65 : z_fl "LatinRectangles$Parser" 65 = some (7, 6, false, false) := by decide +kernel
theorem zf_LatinRectangles_Parser_85 : z_fl "LatinRectangles$Parser" 85 = some (3, 9, false, false) := by decide +kernel
theorem zf_LatinRectangles_Parser_88 : z_fl "LatinRectangles$Parser" 88 = some (3, 5, false, false) := by decide +kernel
theorem zf_LatinRectangles_Parser_91 : z_fl "LatinRectangles$Parser" 91 = some (3, 6, false, false) := by decide +kernel
theorem zf_LatinRectangles_Snapshots_11 : z_fl "LatinRectangles$Snapshots" 11 = some (6, 0, true, true) := by decide +kernel
theorem zf_LatinRectangles_Snapshots_16 : z_fl "LatinRectangles$Snapshots" 16 = some (6, 1, true, true) := by decide +kernel
theorem zf_LatinRectangles_Text_15 : z_fl "LatinRectangles$Text" 15 = some (7, 1, false, false) := by decide +kernel
theorem zf_LatinRectangles_Text_25 : z_fl "LatinRectangles$Text" 25 = some (7, 2, false, false) := by decide +kernel
theorem zf_LatinRectangles_Text_28 : z_fl "LatinRectangles$Text" 28 = some (7, 3, false, false) := by decide +kernel
theorem zf_LatinRectangles_Text_31 : z_fl "LatinRectangles$Text" 31 = some (7, 5, false, false) := by decide +kernel
theorem zf_LatinRectangles_Text_34 : z_fl "LatinRectangles$Text" 34 = some (7, 4, false, false) := by decide +kernel
theorem zf_LatinRectangles_Text_37 : z_fl "LatinRectangles$Text" 37 = some (7, 6, false, false) := by decide +kernel
theorem zf_LatinRectangles_Text_9 : z_fl "LatinRectangles$Text" 9 = some (7, 0, true, true) := by decide +kernel
theorem zf_LatinRectangles_Transversals_15 : z_fl "LatinRectangles$Transversals" 15 = some (8, 0, true, true) := by decide +kernel
theorem zf_LatinRectangles_Transversals_19 : z_fl "LatinRectangles$Transversals" 19 = some (8, 2, false, false) := by decide +kernel
theorem zf_LatinRectangles_Transversals_23 : z_fl "LatinRectangles$Transversals" 23 = some (8, 3, false, false) := by decide +kernel
theorem zf_LatinRectangles_Transversals_37 : z_fl "LatinRectangles$Transversals" 37 = some (3, 5, false, false) := by decide +kernel
theorem zf_LatinRectangles_Transversals_42 : z_fl "LatinRectangles$Transversals" 42 = some (3, 6, false, false) := by decide +kernel
theorem zf_LatinRectangles_Transversals_58 : z_fl "LatinRectangles$Transversals" 58 = some (3, 0, true, true) := by decide +kernel
theorem zf_LatinRectangles_Transversals_9 : z_fl "LatinRectangles$Transversals" 9 = some (8, 1, true, true) := by decide +kernel
theorem zf_java_lang_AbstractStringBuilder_15 : z_fl "java/lang/AbstractStringBuilder" 15 = some (12, 0, true, false) := by decide +kernel
theorem zf_java_lang_AbstractStringBuilder_22 : z_fl "java/lang/AbstractStringBuilder" 22 = some (12, 1, false, false) := by decide +kernel
theorem zf_java_lang_AbstractStringBuilder_79 : z_fl "java/lang/AbstractStringBuilder" 79 = some (12, 3, false, false) := by decide +kernel
theorem zf_java_lang_String_1048 : z_fl "java/lang/String" 1048 = some (12, 2, false, false) := by decide +kernel
theorem zf_java_lang_String_15 : z_fl "java/lang/String" 15 = some (11, 1, false, true) := by decide +kernel
theorem zf_java_lang_String_9 : z_fl "java/lang/String" 9 = some (11, 0, true, true) := by decide +kernel
theorem zk_LatinRectanglesLaw_102 : z_clk "LatinRectanglesLaw" 102 = some (70, 0, 1) := by decide +kernel
theorem zk_LatinRectanglesLaw_108 : z_clk "LatinRectanglesLaw" 108 = some (147, 1, 3) := by decide +kernel
theorem zk_LatinRectanglesLaw_112 : z_clk "LatinRectanglesLaw" 112 = some (152, 1, 2) := by decide +kernel
theorem zk_LatinRectanglesLaw_116 : z_clk "LatinRectanglesLaw" 116 = some (153, 1, 3) := by decide +kernel
theorem zk_LatinRectanglesLaw_119 : z_clk "LatinRectanglesLaw" 119 = some (149, 1, 3) := by decide +kernel
theorem zk_LatinRectanglesLaw_123 : z_clk "LatinRectanglesLaw" 123 = some (97, 0, 2) := by decide +kernel
theorem zk_LatinRectanglesLaw_127 : z_clk "LatinRectanglesLaw" 127 = some (86, 0, 0) := by decide +kernel
theorem zk_LatinRectanglesLaw_13 : z_clk "LatinRectanglesLaw" 13 = some (124, 0, 1) := by decide +kernel
theorem zk_LatinRectanglesLaw_130 : z_clk "LatinRectanglesLaw" 130 = some (105, 0, 0) := by decide +kernel
theorem zk_LatinRectanglesLaw_133 : z_clk "LatinRectanglesLaw" 133 = some (106, 0, 2) := by decide +kernel
theorem zk_LatinRectanglesLaw_137 : z_clk "LatinRectanglesLaw" 137 = some (150, 1, 2) := by decide +kernel
theorem zk_LatinRectanglesLaw_141 : z_clk "LatinRectanglesLaw" 141 = some (103, 0, 1) := by decide +kernel
theorem zk_LatinRectanglesLaw_145 : z_clk "LatinRectanglesLaw" 145 = some (104, 0, 3) := by decide +kernel
theorem zk_LatinRectanglesLaw_149 : z_clk "LatinRectanglesLaw" 149 = some (144, 1, 1) := by decide +kernel
theorem zk_LatinRectanglesLaw_152 : z_clk "LatinRectanglesLaw" 152 = some (151, 1, 4) := by decide +kernel
theorem zk_LatinRectanglesLaw_156 : z_clk "LatinRectanglesLaw" 156 = some (148, 1, 4) := by decide +kernel
theorem zk_LatinRectanglesLaw_159 : z_clk "LatinRectanglesLaw" 159 = some (84, 0, 3) := by decide +kernel
theorem zk_LatinRectanglesLaw_165 : z_clk "LatinRectanglesLaw" 165 = some (85, 0, 2) := by decide +kernel
theorem zk_LatinRectanglesLaw_169 : z_clk "LatinRectanglesLaw" 169 = some (87, 0, 1) := by decide +kernel
theorem zk_LatinRectanglesLaw_17 : z_clk "LatinRectanglesLaw" 17 = some (68, 0, 5) := by decide +kernel
theorem zk_LatinRectanglesLaw_171 : z_clk "LatinRectanglesLaw" 171 = some (88, 0, 3) := by decide +kernel
theorem zk_LatinRectanglesLaw_174 : z_clk "LatinRectanglesLaw" 174 = some (96, 0, 2) := by decide +kernel
theorem zk_LatinRectanglesLaw_177 : z_clk "LatinRectanglesLaw" 177 = some (71, 0, 2) := by decide +kernel
theorem zk_LatinRectanglesLaw_180 : z_clk "LatinRectanglesLaw" 180 = some (72, 0, 2) := by decide +kernel
theorem zk_LatinRectanglesLaw_183 : z_clk "LatinRectanglesLaw" 183 = some (73, 0, 2) := by decide +kernel
theorem zk_LatinRectanglesLaw_184 : z_clk "LatinRectanglesLaw" 184 = some (75, 0, 2) := by decide +kernel
theorem zk_LatinRectanglesLaw_186 : z_clk "LatinRectanglesLaw" 186 = some (74, 0, 0) := by decide +kernel
theorem zk_LatinRectanglesLaw_189 : z_clk "LatinRectanglesLaw" 189 = some (98, 0, 1) := by decide +kernel
theorem zk_LatinRectanglesLaw_193 : z_clk "LatinRectanglesLaw" 193 = some (76, 0, 1) := by decide +kernel
theorem zk_LatinRectanglesLaw_199 : z_clk "LatinRectanglesLaw" 199 = some (77, 0, 2) := by decide +kernel
theorem zk_LatinRectanglesLaw_205 : z_clk "LatinRectanglesLaw" 205 = some (78, 0, 2) := by decide +kernel
theorem zk_LatinRectanglesLaw_211 : z_clk "LatinRectanglesLaw" 211 = some (79, 0, 0) := by decide +kernel
theorem zk_LatinRectanglesLaw_214 : z_clk "LatinRectanglesLaw" 214 = some (101, 0, 0) := by decide +kernel
theorem zk_LatinRectanglesLaw_215 : z_clk "LatinRectanglesLaw" 215 = some (80, 0, 2) := by decide +kernel
theorem zk_LatinRectanglesLaw_221 : z_clk "LatinRectanglesLaw" 221 = some (81, 0, 1) := by decide +kernel
theorem zk_LatinRectanglesLaw_228 : z_clk "LatinRectanglesLaw" 228 = some (82, 0, 3) := by decide +kernel
theorem zk_LatinRectanglesLaw_230 : z_clk "LatinRectanglesLaw" 230 = some (83, 0, 0) := by decide +kernel
theorem zk_LatinRectanglesLaw_25 : z_clk "LatinRectanglesLaw" 25 = some (67, 2, 0) := by decide +kernel
theorem zk_LatinRectanglesLaw_26 : z_clk "LatinRectanglesLaw" 26 = some (146, 1, 2) := by decide +kernel
theorem zk_LatinRectanglesLaw_32 : z_clk "LatinRectanglesLaw" 32 = some (143, 1, 2) := by decide +kernel
theorem zk_LatinRectanglesLaw_38 : z_clk "LatinRectanglesLaw" 38 = some (94, 2, 2) := by decide +kernel
theorem zk_LatinRectanglesLaw_43 : z_clk "LatinRectanglesLaw" 43 = some (130, 0, 1) := by decide +kernel
theorem zk_LatinRectanglesLaw_52 : z_clk "LatinRectanglesLaw" 52 = some (132, 0, 1) := by decide +kernel
theorem zk_LatinRectanglesLaw_55 : z_clk "LatinRectanglesLaw" 55 = some (131, 0, 1) := by decide +kernel
theorem zk_LatinRectanglesLaw_58 : z_clk "LatinRectanglesLaw" 58 = some (95, 0, 3) := by decide +kernel
theorem zk_LatinRectanglesLaw_7 : z_clk "LatinRectanglesLaw" 7 = some (123, 0, 0) := by decide +kernel
theorem zk_LatinRectanglesLaw_84 : z_clk "LatinRectanglesLaw" 84 = some (129, 2, 0) := by decide +kernel
theorem zk_LatinRectanglesLaw_85 : z_clk "LatinRectanglesLaw" 85 = some (145, 1, 2) := by decide +kernel
theorem zk_LatinRectanglesLaw_89 : z_clk "LatinRectanglesLaw" 89 = some (133, 0, 0) := by decide +kernel
theorem zk_LatinRectanglesLaw_93 : z_clk "LatinRectanglesLaw" 93 = some (142, 1, 2) := by decide +kernel
theorem zk_LatinRectanglesLaw_97 : z_clk "LatinRectanglesLaw" 97 = some (134, 0, 0) := by decide +kernel
theorem zk_LatinRectanglesLaw_98 : z_clk "LatinRectanglesLaw" 98 = some (69, 0, 1) := by decide +kernel
theorem zk_LatinRectanglesLaw_Grid_31 : z_clk "LatinRectanglesLaw$Grid" 31 = some (95, 0, 3) := by decide +kernel
theorem zk_LatinRectanglesLaw_Grid_35 : z_clk "LatinRectanglesLaw$Grid" 35 = some (96, 0, 2) := by decide +kernel
theorem zk_LatinRectanglesLaw_Grid_39 : z_clk "LatinRectanglesLaw$Grid" 39 = some (121, 1, 1) := by decide +kernel
theorem zk_LatinRectanglesLaw_Grid_45 : z_clk "LatinRectanglesLaw$Grid" 45 = some (120, 1, 1) := by decide +kernel
theorem zk_LatinRectanglesLaw_Grid_54 : z_clk "LatinRectanglesLaw$Grid" 54 = some (99, 0, 2) := by decide +kernel
theorem zk_LatinRectanglesLaw_Grid_58 : z_clk "LatinRectanglesLaw$Grid" 58 = some (100, 0, 0) := by decide +kernel
theorem zk_LatinRectanglesLaw_Grid_77 : z_clk "LatinRectanglesLaw$Grid" 77 = some (102, 0, 2) := by decide +kernel
theorem zk_LatinRectanglesLaw_Grid_81 : z_clk "LatinRectanglesLaw$Grid" 81 = some (106, 0, 2) := by decide +kernel
theorem zk_LatinRectangles_11 : z_clk "LatinRectangles" 11 = some (23, 2, 0) := by decide +kernel
theorem zk_LatinRectangles_111 : z_clk "LatinRectangles" 111 = some (26, 0, 1) := by decide +kernel
theorem zk_LatinRectangles_114 : z_clk "LatinRectangles" 114 = some (39, 0, 0) := by decide +kernel
theorem zk_LatinRectangles_117 : z_clk "LatinRectangles" 117 = some (52, 0, 0) := by decide +kernel
theorem zk_LatinRectangles_118 : z_clk "LatinRectangles" 118 = some (92, 1, 2) := by decide +kernel
theorem zk_LatinRectangles_137 : z_clk "LatinRectangles" 137 = some (37, 0, 0) := by decide +kernel
theorem zk_LatinRectangles_141 : z_clk "LatinRectangles" 141 = some (36, 0, 0) := by decide +kernel
theorem zk_LatinRectangles_144 : z_clk "LatinRectangles" 144 = some (90, 0, 2) := by decide +kernel
theorem zk_LatinRectangles_154 : z_clk "LatinRectangles" 154 = some (34, 0, 2) := by decide +kernel
theorem zk_LatinRectangles_158 : z_clk "LatinRectangles" 158 = some (16, 0, 0) := by decide +kernel
theorem zk_LatinRectangles_161 : z_clk "LatinRectangles" 161 = some (17, 0, 1) := by decide +kernel
theorem zk_LatinRectangles_165 : z_clk "LatinRectangles" 165 = some (19, 0, 2) := by decide +kernel
theorem zk_LatinRectangles_168 : z_clk "LatinRectangles" 168 = some (18, 0, 2) := by decide +kernel
theorem zk_LatinRectangles_174 : z_clk "LatinRectangles" 174 = some (121, 1, 1) := by decide +kernel
theorem zk_LatinRectangles_18 : z_clk "LatinRectangles" 18 = some (53, 3, 0) := by decide +kernel
theorem zk_LatinRectangles_184 : z_clk "LatinRectangles" 184 = some (1, 0, 1) := by decide +kernel
theorem zk_LatinRectangles_186 : z_clk "LatinRectangles" 186 = some (2, 0, 2) := by decide +kernel
theorem zk_LatinRectangles_189 : z_clk "LatinRectangles" 189 = some (3, 0, 2) := by decide +kernel
theorem zk_LatinRectangles_192 : z_clk "LatinRectangles" 192 = some (61, 0, 2) := by decide +kernel
theorem zk_LatinRectangles_194 : z_clk "LatinRectangles" 194 = some (89, 0, 1) := by decide +kernel
theorem zk_LatinRectangles_197 : z_clk "LatinRectangles" 197 = some (62, 0, 1) := by decide +kernel
theorem zk_LatinRectangles_203 : z_clk "LatinRectangles" 203 = some (91, 0, 3) := by decide +kernel
theorem zk_LatinRectangles_207 : z_clk "LatinRectangles" 207 = some (9, 0, 3) := by decide +kernel
theorem zk_LatinRectangles_214 : z_clk "LatinRectangles" 214 = some (13, 0, 0) := by decide +kernel
theorem zk_LatinRectangles_235 : z_clk "LatinRectangles" 235 = some (40, 0, 1) := by decide +kernel
theorem zk_LatinRectangles_238 : z_clk "LatinRectangles" 238 = some (29, 0, 3) := by decide +kernel
theorem zk_LatinRectangles_243 : z_clk "LatinRectangles" 243 = some (30, 0, 2) := by decide +kernel
theorem zk_LatinRectangles_246 : z_clk "LatinRectangles" 246 = some (93, 1, 5) := by decide +kernel
theorem zk_LatinRectangles_25 : z_clk "LatinRectangles" 25 = some (41, 2, 1) := by decide +kernel
theorem zk_LatinRectangles_252 : z_clk "LatinRectangles" 252 = some (11, 0, 3) := by decide +kernel
theorem zk_LatinRectangles_258 : z_clk "LatinRectangles" 258 = some (12, 0, 3) := by decide +kernel
theorem zk_LatinRectangles_288 : z_clk "LatinRectangles" 288 = some (35, 0, 1) := by decide +kernel
theorem zk_LatinRectangles_34 : z_clk "LatinRectangles" 34 = some (15, 2, 1) := by decide +kernel
theorem zk_LatinRectangles_43 : z_clk "LatinRectangles" 43 = some (0, 2, 1) := by decide +kernel
theorem zk_LatinRectangles_50 : z_clk "LatinRectangles" 50 = some (60, 2, 1) := by decide +kernel
theorem zk_LatinRectangles_57 : z_clk "LatinRectangles" 57 = some (8, 2, 1) := by decide +kernel
theorem zk_LatinRectangles_64 : z_clk "LatinRectangles" 64 = some (38, 3, 0) := by decide +kernel
theorem zk_LatinRectangles_71 : z_clk "LatinRectangles" 71 = some (51, 3, 0) := by decide +kernel
theorem zk_LatinRectangles_87 : z_clk "LatinRectangles" 87 = some (54, 0, 1) := by decide +kernel
theorem zk_LatinRectangles_98 : z_clk "LatinRectangles" 98 = some (42, 0, 1) := by decide +kernel
theorem zk_LatinRectangles_Completions_11 : z_clk "LatinRectangles$Completions" 11 = some (23, 2, 0) := by decide +kernel
theorem zk_LatinRectangles_Completions_25 : z_clk "LatinRectangles$Completions" 25 = some (26, 0, 1) := by decide +kernel
theorem zk_LatinRectangles_Completions_29 : z_clk "LatinRectangles$Completions" 29 = some (5, 0, 1) := by decide +kernel
theorem zk_LatinRectangles_Completions_40 : z_clk "LatinRectangles$Completions" 40 = some (4, 0, 2) := by decide +kernel
theorem zk_LatinRectangles_Completions_44 : z_clk "LatinRectangles$Completions" 44 = some (34, 0, 2) := by decide +kernel
theorem zk_LatinRectangles_Completions_48 : z_clk "LatinRectangles$Completions" 48 = some (29, 0, 3) := by decide +kernel
theorem zk_LatinRectangles_Completions_52 : z_clk "LatinRectangles$Completions" 52 = some (30, 0, 2) := by decide +kernel
theorem zk_LatinRectangles_Completions_61 : z_clk "LatinRectangles$Completions" 61 = some (6, 1, 3) := by decide +kernel
theorem zk_LatinRectangles_Completions_65 : z_clk "LatinRectangles$Completions" 65 = some (7, 0, 1) := by decide +kernel
theorem zk_LatinRectangles_Completions_68 : z_clk "LatinRectangles$Completions" 68 = some (121, 1, 1) := by decide +kernel
theorem zk_LatinRectangles_Cycles_28 : z_clk "LatinRectangles$Cycles" 28 = some (10, 0, 2) := by decide +kernel
theorem zk_LatinRectangles_Cycles_67 : z_clk "LatinRectangles$Cycles" 67 = some (33, 0, 2) := by decide +kernel
theorem zk_LatinRectangles_Cycles_71 : z_clk "LatinRectangles$Cycles" 71 = some (14, 0, 4) := by decide +kernel
theorem zk_LatinRectangles_Forces_24 : z_clk "LatinRectangles$Forces" 24 = some (18, 0, 2) := by decide +kernel
theorem zk_LatinRectangles_Forces_28 : z_clk "LatinRectangles$Forces" 28 = some (20, 0, 3) := by decide +kernel
theorem zk_LatinRectangles_Forces_32 : z_clk "LatinRectangles$Forces" 32 = some (34, 0, 2) := by decide +kernel
theorem zk_LatinRectangles_Forces_35 : z_clk "LatinRectangles$Forces" 35 = some (121, 1, 1) := by decide +kernel
theorem zk_LatinRectangles_Forces_41 : z_clk "LatinRectangles$Forces" 41 = some (21, 0, 2) := by decide +kernel
theorem zk_LatinRectangles_Forces_44 : z_clk "LatinRectangles$Forces" 44 = some (22, 0, 2) := by decide +kernel
theorem zk_LatinRectangles_Grid_28 : z_clk "LatinRectangles$Grid" 28 = some (24, 0, 2) := by decide +kernel
theorem zk_LatinRectangles_Grid_45 : z_clk "LatinRectangles$Grid" 45 = some (25, 0, 0) := by decide +kernel
theorem zk_LatinRectangles_Grid_51 : z_clk "LatinRectangles$Grid" 51 = some (27, 0, 1) := by decide +kernel
theorem zk_LatinRectangles_Grid_55 : z_clk "LatinRectangles$Grid" 55 = some (29, 0, 3) := by decide +kernel
theorem zk_LatinRectangles_Grid_59 : z_clk "LatinRectangles$Grid" 59 = some (35, 0, 1) := by decide +kernel
theorem zk_LatinRectangles_Grid_63 : z_clk "LatinRectangles$Grid" 63 = some (34, 0, 2) := by decide +kernel
theorem zk_LatinRectangles_History_23 : z_clk "LatinRectangles$History" 23 = some (28, 0, 1) := by decide +kernel
theorem zk_LatinRectangles_Parser_100 : z_clk "LatinRectangles$Parser" 100 = some (48, 0, 0) := by decide +kernel
theorem zk_LatinRectangles_Parser_107 : z_clk "LatinRectangles$Parser" 107 = some (34, 0, 2) := by decide +kernel
theorem zk_LatinRectangles_Parser_11 : z_clk "LatinRectangles$Parser" 11 = some (23, 2, 0) := by decide +kernel
theorem zk_LatinRectangles_Parser_110 : z_clk "LatinRectangles$Parser" 110 = some (31, 0, 3) := by decide +kernel
theorem zk_LatinRectangles_Parser_114 : z_clk "LatinRectangles$Parser" 114 = some (33, 0, 2) := by decide +kernel
theorem zk_LatinRectangles_Parser_117 : z_clk "LatinRectangles$Parser" 117 = some (32, 0, 2) := by decide +kernel
theorem zk_LatinRectangles_Parser_29 : z_clk "LatinRectangles$Parser" 29 = some (55, 0, 1) := by decide +kernel
theorem zk_LatinRectangles_Parser_35 : z_clk "LatinRectangles$Parser" 35 = some (44, 0, 0) := by decide +kernel
theorem zk_LatinRectangles_Parser_39 : z_clk "LatinRectangles$Parser" 39 = some (56, 0, 0) := by decide +kernel
theorem zk_LatinRectangles_Parser_45 : z_clk "LatinRectangles$Parser" 45 = some (45, 0, 0) := by decide +kernel
theorem zk_LatinRectangles_Parser_48 : z_clk "LatinRectangles$Parser" 48 = some (43, 0, 1) := by decide +kernel
theorem zk_LatinRectangles_Parser_57 : z_clk "LatinRectangles$Parser" 57 = some (59, 0, 1) := by decide +kernel
theorem zk_LatinRectangles_Parser_61 : z_clk "LatinRectangles$Parser" 61 = some (49, 0, 2) := by decide +kernel
theorem zk_LatinRectangles_Parser_74 : z_clk "LatinRectangles$Parser" 74 = some (24, 0, 2) := by decide +kernel
theorem zk_LatinRectangles_Parser_78 : z_clk "LatinRectangles$Parser" 78 = some (50, 0, 0) := by decide +kernel
theorem zk_LatinRectangles_Parser_94 : z_clk "LatinRectangles$Parser" 94 = some (47, 0, 2) := by decide +kernel
theorem zk_LatinRectangles_Parser_97 : z_clk "LatinRectangles$Parser" 97 = some (46, 0, 2) := by decide +kernel
theorem zk_LatinRectangles_Text_40 : z_clk "LatinRectangles$Text" 40 = some (57, 0, 2) := by decide +kernel
theorem zk_LatinRectangles_Text_43 : z_clk "LatinRectangles$Text" 43 = some (58, 0, 0) := by decide +kernel
theorem zk_LatinRectangles_Transversals_26 : z_clk "LatinRectangles$Transversals" 26 = some (63, 1, 4) := by decide +kernel
theorem zk_LatinRectangles_Transversals_30 : z_clk "LatinRectangles$Transversals" 30 = some (64, 1, 4) := by decide +kernel
theorem zk_LatinRectangles_Transversals_45 : z_clk "LatinRectangles$Transversals" 45 = some (65, 0, 4) := by decide +kernel
theorem zk_LatinRectangles_Transversals_49 : z_clk "LatinRectangles$Transversals" 49 = some (66, 0, 2) := by decide +kernel
theorem zk_java_lang_AbstractStringBuilder_100 : z_clk "java/lang/AbstractStringBuilder" 100 = some (109, 4, 1) := by decide +kernel
theorem zk_java_lang_AbstractStringBuilder_104 : z_clk "java/lang/AbstractStringBuilder" 104 = some (110, 4, 1) := by decide +kernel
theorem zk_java_lang_AbstractStringBuilder_108 : z_clk "java/lang/AbstractStringBuilder" 108 = some (137, 1, 2) := by decide +kernel
theorem zk_java_lang_AbstractStringBuilder_114 : z_clk "java/lang/AbstractStringBuilder" 114 = some (141, 1, 3) := by decide +kernel
theorem zk_java_lang_AbstractStringBuilder_191 : z_clk "java/lang/AbstractStringBuilder" 191 = some (136, 1, 1) := by decide +kernel
theorem zk_java_lang_AbstractStringBuilder_208 : z_clk "java/lang/AbstractStringBuilder" 208 = some (117, 4, 2) := by decide +kernel
theorem zk_java_lang_AbstractStringBuilder_245 : z_clk "java/lang/AbstractStringBuilder" 245 = some (119, 1, 1) := by decide +kernel
theorem zk_java_lang_AbstractStringBuilder_248 : z_clk "java/lang/AbstractStringBuilder" 248 = some (118, 1, 3) := by decide +kernel
theorem zk_java_lang_AbstractStringBuilder_32 : z_clk "java/lang/AbstractStringBuilder" 32 = some (123, 0, 0) := by decide +kernel
theorem zk_java_lang_AbstractStringBuilder_397 : z_clk "java/lang/AbstractStringBuilder" 397 = some (116, 4, 1) := by decide +kernel
theorem zk_java_lang_AbstractStringBuilder_399 : z_clk "java/lang/AbstractStringBuilder" 399 = some (125, 0, 3) := by decide +kernel
theorem zk_java_lang_AbstractStringBuilder_40 : z_clk "java/lang/AbstractStringBuilder" 40 = some (127, 0, 0) := by decide +kernel
theorem zk_java_lang_AbstractStringBuilder_83 : z_clk "java/lang/AbstractStringBuilder" 83 = some (115, 4, 0) := by decide +kernel
theorem zk_java_lang_StringBuilder_1 : z_clk "java/lang/StringBuilder" 1 = some (107, 2, 1) := by decide +kernel
theorem zk_java_lang_StringBuilder_137 : z_clk "java/lang/StringBuilder" 137 = some (122, 2, 1) := by decide +kernel
theorem zk_java_lang_StringBuilder_29 : z_clk "java/lang/StringBuilder" 29 = some (111, 5, 1) := by decide +kernel
theorem zk_java_lang_StringBuilder_343 : z_clk "java/lang/StringBuilder" 343 = some (108, 5, 0) := by decide +kernel
theorem zk_java_lang_StringBuilder_50 : z_clk "java/lang/StringBuilder" 50 = some (112, 5, 1) := by decide +kernel
theorem zk_java_lang_StringBuilder_53 : z_clk "java/lang/StringBuilder" 53 = some (113, 5, 1) := by decide +kernel
theorem zk_java_lang_String_1047 : z_clk "java/lang/String" 1047 = some (115, 4, 0) := by decide +kernel
theorem zk_java_lang_String_335 : z_clk "java/lang/String" 335 = some (127, 0, 0) := by decide +kernel
theorem zk_java_lang_String_489 : z_clk "java/lang/String" 489 = some (126, 2, 2) := by decide +kernel
theorem zk_java_lang_String_492 : z_clk "java/lang/String" 492 = some (128, 0, 0) := by decide +kernel
theorem zk_java_lang_String_495 : z_clk "java/lang/String" 495 = some (135, 1, 2) := by decide +kernel
theorem zk_java_lang_String_54 : z_clk "java/lang/String" 54 = some (139, 1, 3) := by decide +kernel
theorem zk_java_lang_String_549 : z_clk "java/lang/String" 549 = some (134, 4, 0) := by decide +kernel
theorem zk_java_lang_String_552 : z_clk "java/lang/String" 552 = some (114, 4, 0) := by decide +kernel
theorem zk_java_util_Arrays_339 : z_clk "java/util/Arrays" 339 = some (140, 1, 3) := by decide +kernel
theorem zk_java_util_Arrays_343 : z_clk "java/util/Arrays" 343 = some (138, 1, 2) := by decide +kernel
theorem zq_ccs_LatinRectanglesLaw_Grid_65 : z_lookup z_ccs ("LatinRectanglesLaw$Grid", 65) = some (0, 1114) := by decide +kernel
theorem zq_ccs_java_util_Arrays_311 : z_lookup z_ccs ("java/util/Arrays", 311) = some (1, 467) := by decide +kernel
theorem zq_cns_LatinRectanglesLaw_102 : z_lookup z_cns ("LatinRectanglesLaw", 102) = none := by decide +kernel
theorem zq_cns_LatinRectanglesLaw_123 : z_lookup z_cns ("LatinRectanglesLaw", 123) = none := by decide +kernel
theorem zq_cns_LatinRectanglesLaw_127 : z_lookup z_cns ("LatinRectanglesLaw", 127) = none := by decide +kernel
theorem zq_cns_LatinRectanglesLaw_13 : z_lookup z_cns ("LatinRectanglesLaw", 13) = none := by decide +kernel
theorem zq_cns_LatinRectanglesLaw_130 : z_lookup z_cns ("LatinRectanglesLaw", 130) = none := by decide +kernel
theorem zq_cns_LatinRectanglesLaw_133 : z_lookup z_cns ("LatinRectanglesLaw", 133) = none := by decide +kernel
theorem zq_cns_LatinRectanglesLaw_141 : z_lookup z_cns ("LatinRectanglesLaw", 141) = none := by decide +kernel
theorem zq_cns_LatinRectanglesLaw_145 : z_lookup z_cns ("LatinRectanglesLaw", 145) = none := by decide +kernel
theorem zq_cns_LatinRectanglesLaw_159 : z_lookup z_cns ("LatinRectanglesLaw", 159) = none := by decide +kernel
theorem zq_cns_LatinRectanglesLaw_165 : z_lookup z_cns ("LatinRectanglesLaw", 165) = none := by decide +kernel
theorem zq_cns_LatinRectanglesLaw_169 : z_lookup z_cns ("LatinRectanglesLaw", 169) = none := by decide +kernel
theorem zq_cns_LatinRectanglesLaw_17 : z_lookup z_cns ("LatinRectanglesLaw", 17) = none := by decide +kernel
theorem zq_cns_LatinRectanglesLaw_171 : z_lookup z_cns ("LatinRectanglesLaw", 171) = none := by decide +kernel
theorem zq_cns_LatinRectanglesLaw_174 : z_lookup z_cns ("LatinRectanglesLaw", 174) = none := by decide +kernel
theorem zq_cns_LatinRectanglesLaw_177 : z_lookup z_cns ("LatinRectanglesLaw", 177) = none := by decide +kernel
theorem zq_cns_LatinRectanglesLaw_180 : z_lookup z_cns ("LatinRectanglesLaw", 180) = none := by decide +kernel
theorem zq_cns_LatinRectanglesLaw_183 : z_lookup z_cns ("LatinRectanglesLaw", 183) = none := by decide +kernel
theorem zq_cns_LatinRectanglesLaw_184 : z_lookup z_cns ("LatinRectanglesLaw", 184) = none := by decide +kernel
theorem zq_cns_LatinRectanglesLaw_186 : z_lookup z_cns ("LatinRectanglesLaw", 186) = none := by decide +kernel
theorem zq_cns_LatinRectanglesLaw_189 : z_lookup z_cns ("LatinRectanglesLaw", 189) = none := by decide +kernel
theorem zq_cns_LatinRectanglesLaw_193 : z_lookup z_cns ("LatinRectanglesLaw", 193) = none := by decide +kernel
theorem zq_cns_LatinRectanglesLaw_199 : z_lookup z_cns ("LatinRectanglesLaw", 199) = none := by decide +kernel
theorem zq_cns_LatinRectanglesLaw_205 : z_lookup z_cns ("LatinRectanglesLaw", 205) = none := by decide +kernel
theorem zq_cns_LatinRectanglesLaw_211 : z_lookup z_cns ("LatinRectanglesLaw", 211) = none := by decide +kernel
theorem zq_cns_LatinRectanglesLaw_214 : z_lookup z_cns ("LatinRectanglesLaw", 214) = none := by decide +kernel
theorem zq_cns_LatinRectanglesLaw_215 : z_lookup z_cns ("LatinRectanglesLaw", 215) = none := by decide +kernel
theorem zq_cns_LatinRectanglesLaw_221 : z_lookup z_cns ("LatinRectanglesLaw", 221) = none := by decide +kernel
theorem zq_cns_LatinRectanglesLaw_228 : z_lookup z_cns ("LatinRectanglesLaw", 228) = none := by decide +kernel
theorem zq_cns_LatinRectanglesLaw_230 : z_lookup z_cns ("LatinRectanglesLaw", 230) = none := by decide +kernel
theorem zq_cns_LatinRectanglesLaw_43 : z_lookup z_cns ("LatinRectanglesLaw", 43) = none := by decide +kernel
theorem zq_cns_LatinRectanglesLaw_52 : z_lookup z_cns ("LatinRectanglesLaw", 52) = none := by decide +kernel
theorem zq_cns_LatinRectanglesLaw_55 : z_lookup z_cns ("LatinRectanglesLaw", 55) = none := by decide +kernel
theorem zq_cns_LatinRectanglesLaw_58 : z_lookup z_cns ("LatinRectanglesLaw", 58) = none := by decide +kernel
theorem zq_cns_LatinRectanglesLaw_7 : z_lookup z_cns ("LatinRectanglesLaw", 7) = none := by decide +kernel
theorem zq_cns_LatinRectanglesLaw_89 : z_lookup z_cns ("LatinRectanglesLaw", 89) = none := by decide +kernel
theorem zq_cns_LatinRectanglesLaw_97 : z_lookup z_cns ("LatinRectanglesLaw", 97) = none := by decide +kernel
theorem zq_cns_LatinRectanglesLaw_98 : z_lookup z_cns ("LatinRectanglesLaw", 98) = none := by decide +kernel
theorem zq_cns_LatinRectanglesLaw_Grid_31 : z_lookup z_cns ("LatinRectanglesLaw$Grid", 31) = none := by decide +kernel
theorem zq_cns_LatinRectanglesLaw_Grid_35 : z_lookup z_cns ("LatinRectanglesLaw$Grid", 35) = none := by decide +kernel
theorem zq_cns_LatinRectanglesLaw_Grid_54 : z_lookup z_cns ("LatinRectanglesLaw$Grid", 54) = none := by decide +kernel
theorem zq_cns_LatinRectanglesLaw_Grid_58 : z_lookup z_cns ("LatinRectanglesLaw$Grid", 58) = none := by decide +kernel
theorem zq_cns_LatinRectanglesLaw_Grid_67 : z_lookup z_cns ("LatinRectanglesLaw$Grid", 67) = some (0, 1115) := by decide +kernel
theorem zq_cns_LatinRectanglesLaw_Grid_77 : z_lookup z_cns ("LatinRectanglesLaw$Grid", 77) = none := by decide +kernel
theorem zq_cns_LatinRectanglesLaw_Grid_81 : z_lookup z_cns ("LatinRectanglesLaw$Grid", 81) = none := by decide +kernel
theorem zq_cns_LatinRectangles_111 : z_lookup z_cns ("LatinRectangles", 111) = none := by decide +kernel
theorem zq_cns_LatinRectangles_114 : z_lookup z_cns ("LatinRectangles", 114) = none := by decide +kernel
theorem zq_cns_LatinRectangles_117 : z_lookup z_cns ("LatinRectangles", 117) = none := by decide +kernel
theorem zq_cns_LatinRectangles_137 : z_lookup z_cns ("LatinRectangles", 137) = none := by decide +kernel
theorem zq_cns_LatinRectangles_141 : z_lookup z_cns ("LatinRectangles", 141) = none := by decide +kernel
theorem zq_cns_LatinRectangles_144 : z_lookup z_cns ("LatinRectangles", 144) = none := by decide +kernel
theorem zq_cns_LatinRectangles_154 : z_lookup z_cns ("LatinRectangles", 154) = none := by decide +kernel
theorem zq_cns_LatinRectangles_158 : z_lookup z_cns ("LatinRectangles", 158) = none := by decide +kernel
theorem zq_cns_LatinRectangles_161 : z_lookup z_cns ("LatinRectangles", 161) = none := by decide +kernel
theorem zq_cns_LatinRectangles_165 : z_lookup z_cns ("LatinRectangles", 165) = none := by decide +kernel
theorem zq_cns_LatinRectangles_168 : z_lookup z_cns ("LatinRectangles", 168) = none := by decide +kernel
theorem zq_cns_LatinRectangles_184 : z_lookup z_cns ("LatinRectangles", 184) = none := by decide +kernel
theorem zq_cns_LatinRectangles_186 : z_lookup z_cns ("LatinRectangles", 186) = none := by decide +kernel
theorem zq_cns_LatinRectangles_189 : z_lookup z_cns ("LatinRectangles", 189) = none := by decide +kernel
theorem zq_cns_LatinRectangles_192 : z_lookup z_cns ("LatinRectangles", 192) = none := by decide +kernel
theorem zq_cns_LatinRectangles_194 : z_lookup z_cns ("LatinRectangles", 194) = none := by decide +kernel
theorem zq_cns_LatinRectangles_197 : z_lookup z_cns ("LatinRectangles", 197) = none := by decide +kernel
theorem zq_cns_LatinRectangles_203 : z_lookup z_cns ("LatinRectangles", 203) = none := by decide +kernel
theorem zq_cns_LatinRectangles_207 : z_lookup z_cns ("LatinRectangles", 207) = none := by decide +kernel
theorem zq_cns_LatinRectangles_214 : z_lookup z_cns ("LatinRectangles", 214) = none := by decide +kernel
theorem zq_cns_LatinRectangles_235 : z_lookup z_cns ("LatinRectangles", 235) = none := by decide +kernel
theorem zq_cns_LatinRectangles_238 : z_lookup z_cns ("LatinRectangles", 238) = none := by decide +kernel
theorem zq_cns_LatinRectangles_243 : z_lookup z_cns ("LatinRectangles", 243) = none := by decide +kernel
theorem zq_cns_LatinRectangles_252 : z_lookup z_cns ("LatinRectangles", 252) = none := by decide +kernel
theorem zq_cns_LatinRectangles_258 : z_lookup z_cns ("LatinRectangles", 258) = none := by decide +kernel
theorem zq_cns_LatinRectangles_288 : z_lookup z_cns ("LatinRectangles", 288) = none := by decide +kernel
theorem zq_cns_LatinRectangles_87 : z_lookup z_cns ("LatinRectangles", 87) = none := by decide +kernel
theorem zq_cns_LatinRectangles_98 : z_lookup z_cns ("LatinRectangles", 98) = none := by decide +kernel
theorem zq_cns_LatinRectangles_Completions_25 : z_lookup z_cns ("LatinRectangles$Completions", 25) = none := by decide +kernel
theorem zq_cns_LatinRectangles_Completions_29 : z_lookup z_cns ("LatinRectangles$Completions", 29) = none := by decide +kernel
theorem zq_cns_LatinRectangles_Completions_40 : z_lookup z_cns ("LatinRectangles$Completions", 40) = none := by decide +kernel
theorem zq_cns_LatinRectangles_Completions_44 : z_lookup z_cns ("LatinRectangles$Completions", 44) = none := by decide +kernel
theorem zq_cns_LatinRectangles_Completions_48 : z_lookup z_cns ("LatinRectangles$Completions", 48) = none := by decide +kernel
theorem zq_cns_LatinRectangles_Completions_52 : z_lookup z_cns ("LatinRectangles$Completions", 52) = none := by decide +kernel
theorem zq_cns_LatinRectangles_Completions_65 : z_lookup z_cns ("LatinRectangles$Completions", 65) = none := by decide +kernel
theorem zq_cns_LatinRectangles_Cycles_28 : z_lookup z_cns ("LatinRectangles$Cycles", 28) = none := by decide +kernel
theorem zq_cns_LatinRectangles_Cycles_67 : z_lookup z_cns ("LatinRectangles$Cycles", 67) = none := by decide +kernel
theorem zq_cns_LatinRectangles_Cycles_71 : z_lookup z_cns ("LatinRectangles$Cycles", 71) = none := by decide +kernel
theorem zq_cns_LatinRectangles_Forces_24 : z_lookup z_cns ("LatinRectangles$Forces", 24) = none := by decide +kernel
theorem zq_cns_LatinRectangles_Forces_28 : z_lookup z_cns ("LatinRectangles$Forces", 28) = none := by decide +kernel
theorem zq_cns_LatinRectangles_Forces_32 : z_lookup z_cns ("LatinRectangles$Forces", 32) = none := by decide +kernel
theorem zq_cns_LatinRectangles_Forces_41 : z_lookup z_cns ("LatinRectangles$Forces", 41) = none := by decide +kernel
theorem zq_cns_LatinRectangles_Forces_44 : z_lookup z_cns ("LatinRectangles$Forces", 44) = none := by decide +kernel
theorem zq_cns_LatinRectangles_Grid_28 : z_lookup z_cns ("LatinRectangles$Grid", 28) = none := by decide +kernel
theorem zq_cns_LatinRectangles_Grid_45 : z_lookup z_cns ("LatinRectangles$Grid", 45) = none := by decide +kernel
theorem zq_cns_LatinRectangles_Grid_51 : z_lookup z_cns ("LatinRectangles$Grid", 51) = none := by decide +kernel
theorem zq_cns_LatinRectangles_Grid_55 : z_lookup z_cns ("LatinRectangles$Grid", 55) = none := by decide +kernel
theorem zq_cns_LatinRectangles_Grid_59 : z_lookup z_cns ("LatinRectangles$Grid", 59) = none := by decide +kernel
theorem zq_cns_LatinRectangles_Grid_63 : z_lookup z_cns ("LatinRectangles$Grid", 63) = none := by decide +kernel
theorem zq_cns_LatinRectangles_History_23 : z_lookup z_cns ("LatinRectangles$History", 23) = none := by decide +kernel
theorem zq_cns_LatinRectangles_Parser_100 : z_lookup z_cns ("LatinRectangles$Parser", 100) = none := by decide +kernel
theorem zq_cns_LatinRectangles_Parser_107 : z_lookup z_cns ("LatinRectangles$Parser", 107) = none := by decide +kernel
theorem zq_cns_LatinRectangles_Parser_110 : z_lookup z_cns ("LatinRectangles$Parser", 110) = none := by decide +kernel
theorem zq_cns_LatinRectangles_Parser_114 : z_lookup z_cns ("LatinRectangles$Parser", 114) = none := by decide +kernel
theorem zq_cns_LatinRectangles_Parser_117 : z_lookup z_cns ("LatinRectangles$Parser", 117) = none := by decide +kernel
theorem zq_cns_LatinRectangles_Parser_29 : z_lookup z_cns ("LatinRectangles$Parser", 29) = none := by decide +kernel
theorem zq_cns_LatinRectangles_Parser_35 : z_lookup z_cns ("LatinRectangles$Parser", 35) = none := by decide +kernel
theorem zq_cns_LatinRectangles_Parser_39 : z_lookup z_cns ("LatinRectangles$Parser", 39) = none := by decide +kernel
theorem zq_cns_LatinRectangles_Parser_45 : z_lookup z_cns ("LatinRectangles$Parser", 45) = none := by decide +kernel
theorem zq_cns_LatinRectangles_Parser_48 : z_lookup z_cns ("LatinRectangles$Parser", 48) = none := by decide +kernel
theorem zq_cns_LatinRectangles_Parser_57 : z_lookup z_cns ("LatinRectangles$Parser", 57) = none := by decide +kernel
theorem zq_cns_LatinRectangles_Parser_61 : z_lookup z_cns ("LatinRectangles$Parser", 61) = none := by decide +kernel
theorem zq_cns_LatinRectangles_Parser_74 : z_lookup z_cns ("LatinRectangles$Parser", 74) = none := by decide +kernel
theorem zq_cns_LatinRectangles_Parser_78 : z_lookup z_cns ("LatinRectangles$Parser", 78) = none := by decide +kernel
theorem zq_cns_LatinRectangles_Parser_94 : z_lookup z_cns ("LatinRectangles$Parser", 94) = none := by decide +kernel
theorem zq_cns_LatinRectangles_Parser_97 : z_lookup z_cns ("LatinRectangles$Parser", 97) = none := by decide +kernel
theorem zq_cns_LatinRectangles_Text_40 : z_lookup z_cns ("LatinRectangles$Text", 40) = none := by decide +kernel
theorem zq_cns_LatinRectangles_Text_43 : z_lookup z_cns ("LatinRectangles$Text", 43) = none := by decide +kernel
theorem zq_cns_LatinRectangles_Text_46 : z_lookup z_cns ("LatinRectangles$Text", 46) = none := by decide +kernel
theorem zq_cns_LatinRectangles_Text_51 : z_lookup z_cns ("LatinRectangles$Text", 51) = none := by decide +kernel
theorem zq_cns_LatinRectangles_Transversals_45 : z_lookup z_cns ("LatinRectangles$Transversals", 45) = none := by decide +kernel
theorem zq_cns_LatinRectangles_Transversals_49 : z_lookup z_cns ("LatinRectangles$Transversals", 49) = none := by decide +kernel
theorem zq_cns_java_lang_AbstractStringBuilder_100 : z_lookup z_cns ("java/lang/AbstractStringBuilder", 100) = none := by decide +kernel
theorem zq_cns_java_lang_AbstractStringBuilder_104 : z_lookup z_cns ("java/lang/AbstractStringBuilder", 104) = none := by decide +kernel
theorem zq_cns_java_lang_AbstractStringBuilder_208 : z_lookup z_cns ("java/lang/AbstractStringBuilder", 208) = none := by decide +kernel
theorem zq_cns_java_lang_AbstractStringBuilder_32 : z_lookup z_cns ("java/lang/AbstractStringBuilder", 32) = none := by decide +kernel
theorem zq_cns_java_lang_AbstractStringBuilder_397 : z_lookup z_cns ("java/lang/AbstractStringBuilder", 397) = none := by decide +kernel
theorem zq_cns_java_lang_AbstractStringBuilder_399 : z_lookup z_cns ("java/lang/AbstractStringBuilder", 399) = none := by decide +kernel
theorem zq_cns_java_lang_AbstractStringBuilder_40 : z_lookup z_cns ("java/lang/AbstractStringBuilder", 40) = none := by decide +kernel
theorem zq_cns_java_lang_AbstractStringBuilder_83 : z_lookup z_cns ("java/lang/AbstractStringBuilder", 83) = none := by decide +kernel
theorem zq_cns_java_lang_String_1047 : z_lookup z_cns ("java/lang/String", 1047) = none := by decide +kernel
theorem zq_cns_java_lang_String_335 : z_lookup z_cns ("java/lang/String", 335) = none := by decide +kernel
theorem zq_cns_java_lang_String_492 : z_lookup z_cns ("java/lang/String", 492) = none := by decide +kernel
theorem zq_cns_java_lang_String_549 : z_lookup z_cns ("java/lang/String", 549) = none := by decide +kernel
theorem zq_cns_java_lang_String_552 : z_lookup z_cns ("java/lang/String", 552) = none := by decide +kernel
theorem zq_cns_java_util_Arrays_310 : z_lookup z_cns ("java/util/Arrays", 310) = some (1, 461) := by decide +kernel
theorem zq_cps_LatinRectanglesLaw_108 : z_lookup z_cps ("LatinRectanglesLaw", 108) = none := by decide +kernel
theorem zq_cps_LatinRectanglesLaw_112 : z_lookup z_cps ("LatinRectanglesLaw", 112) = none := by decide +kernel
theorem zq_cps_LatinRectanglesLaw_116 : z_lookup z_cps ("LatinRectanglesLaw", 116) = none := by decide +kernel
theorem zq_cps_LatinRectanglesLaw_119 : z_lookup z_cps ("LatinRectanglesLaw", 119) = none := by decide +kernel
theorem zq_cps_LatinRectanglesLaw_137 : z_lookup z_cps ("LatinRectanglesLaw", 137) = none := by decide +kernel
theorem zq_cps_LatinRectanglesLaw_149 : z_lookup z_cps ("LatinRectanglesLaw", 149) = none := by decide +kernel
theorem zq_cps_LatinRectanglesLaw_152 : z_lookup z_cps ("LatinRectanglesLaw", 152) = none := by decide +kernel
theorem zq_cps_LatinRectanglesLaw_156 : z_lookup z_cps ("LatinRectanglesLaw", 156) = none := by decide +kernel
theorem zq_cps_LatinRectanglesLaw_26 : z_lookup z_cps ("LatinRectanglesLaw", 26) = none := by decide +kernel
theorem zq_cps_LatinRectanglesLaw_32 : z_lookup z_cps ("LatinRectanglesLaw", 32) = none := by decide +kernel
theorem zq_cps_LatinRectanglesLaw_85 : z_lookup z_cps ("LatinRectanglesLaw", 85) = none := by decide +kernel
theorem zq_cps_LatinRectanglesLaw_93 : z_lookup z_cps ("LatinRectanglesLaw", 93) = none := by decide +kernel
theorem zq_cps_LatinRectanglesLaw_Grid_39 : z_lookup z_cps ("LatinRectanglesLaw$Grid", 39) = none := by decide +kernel
theorem zq_cps_LatinRectanglesLaw_Grid_45 : z_lookup z_cps ("LatinRectanglesLaw$Grid", 45) = none := by decide +kernel
theorem zq_cps_LatinRectangles_118 : z_lookup z_cps ("LatinRectangles", 118) = none := by decide +kernel
theorem zq_cps_LatinRectangles_174 : z_lookup z_cps ("LatinRectangles", 174) = none := by decide +kernel
theorem zq_cps_LatinRectangles_246 : z_lookup z_cps ("LatinRectangles", 246) = none := by decide +kernel
theorem zq_cps_LatinRectangles_Completions_61 : z_lookup z_cps ("LatinRectangles$Completions", 61) = none := by decide +kernel
theorem zq_cps_LatinRectangles_Completions_68 : z_lookup z_cps ("LatinRectangles$Completions", 68) = none := by decide +kernel
theorem zq_cps_LatinRectangles_Forces_35 : z_lookup z_cps ("LatinRectangles$Forces", 35) = none := by decide +kernel
theorem zq_cps_LatinRectangles_History_29 : z_lookup z_cps ("LatinRectangles$History", 29) = none := by decide +kernel
theorem zq_cps_LatinRectangles_Parser_68 : z_lookup z_cps ("LatinRectangles$Parser", 68) = none := by decide +kernel
theorem zq_cps_LatinRectangles_Text_19 : z_lookup z_cps ("LatinRectangles$Text", 19) = none := by decide +kernel
theorem zq_cps_LatinRectangles_Transversals_26 : z_lookup z_cps ("LatinRectangles$Transversals", 26) = none := by decide +kernel
theorem zq_cps_LatinRectangles_Transversals_30 : z_lookup z_cps ("LatinRectangles$Transversals", 30) = none := by decide +kernel
theorem zq_cps_java_lang_AbstractStringBuilder_108 : z_lookup z_cps ("java/lang/AbstractStringBuilder", 108) = none := by decide +kernel
theorem zq_cps_java_lang_AbstractStringBuilder_114 : z_lookup z_cps ("java/lang/AbstractStringBuilder", 114) = none := by decide +kernel
theorem zq_cps_java_lang_AbstractStringBuilder_191 : z_lookup z_cps ("java/lang/AbstractStringBuilder", 191) = none := by decide +kernel
theorem zq_cps_java_lang_AbstractStringBuilder_245 : z_lookup z_cps ("java/lang/AbstractStringBuilder", 245) = none := by decide +kernel
theorem zq_cps_java_lang_AbstractStringBuilder_248 : z_lookup z_cps ("java/lang/AbstractStringBuilder", 248) = none := by decide +kernel
theorem zq_cps_java_lang_StringLatin1_9 : z_lookup z_cps ("java/lang/StringLatin1", 9) = none := by decide +kernel
theorem zq_cps_java_lang_String_212 : z_lookup z_cps ("java/lang/String", 212) = some 546 := by decide +kernel
theorem zq_cps_java_lang_String_495 : z_lookup z_cps ("java/lang/String", 495) = none := by decide +kernel
theorem zq_cps_java_lang_String_54 : z_lookup z_cps ("java/lang/String", 54) = none := by decide +kernel
theorem zq_cps_java_util_Arrays_150 : z_lookup z_cps ("java/util/Arrays", 150) = some 471 := by decide +kernel
theorem zq_cps_java_util_Arrays_304 : z_lookup z_cps ("java/util/Arrays", 304) = none := by decide +kernel
theorem zq_cps_java_util_Arrays_339 : z_lookup z_cps ("java/util/Arrays", 339) = none := by decide +kernel
theorem zq_cps_java_util_Arrays_343 : z_lookup z_cps ("java/util/Arrays", 343) = none := by decide +kernel
theorem zq_cps_jdk_internal_util_ArraysSupport_194 : z_lookup z_cps ("jdk/internal/util/ArraysSupport", 194) = none := by decide +kernel
theorem zq_gss_java_lang_AbstractStringBuilder_18 : z_lookup z_gss ("java/lang/AbstractStringBuilder", 18) = some (0, 339) := by decide +kernel
theorem zq_gss_java_lang_Integer_83 : z_lookup z_gss ("java/lang/Integer", 83) = some (1, 561) := by decide +kernel
theorem zq_gss_java_lang_String_38 : z_lookup z_gss ("java/lang/String", 38) = some (0, 513) := by decide +kernel
theorem zq_kss_LatinRectanglesLaw_23 : z_lookup z_kss ("LatinRectanglesLaw", 23) = some (1664525, 367) := by decide +kernel
theorem zq_kss_LatinRectanglesLaw_24 : z_lookup z_kss ("LatinRectanglesLaw", 24) = some (1013904223, 368) := by decide +kernel
theorem zq_kss_java_lang_AbstractStringBuilder_39 : z_lookup z_kss ("java/lang/AbstractStringBuilder", 39) = some (2147483647, 457) := by decide +kernel
theorem zq_kss_java_lang_Integer_264 : z_lookup z_kss ("java/lang/Integer", 264) = some (65536, 964) := by decide +kernel
theorem zq_kss_java_lang_Integer_265 : z_lookup z_kss ("java/lang/Integer", 265) = some (1431655765, 958) := by decide +kernel
theorem zq_kss_java_lang_Integer_266 : z_lookup z_kss ("java/lang/Integer", 266) = some (858993459, 959) := by decide +kernel
theorem zq_kss_java_lang_Integer_267 : z_lookup z_kss ("java/lang/Integer", 267) = some (252645135, 960) := by decide +kernel
theorem zq_kss_jdk_internal_util_ArraysSupport_200 : z_lookup z_kss ("jdk/internal/util/ArraysSupport", 200) = some (2147483639, 453) := by decide +kernel
theorem zq_mas_LatinRectanglesLaw_Grid_16 : z_lookup z_mas ("LatinRectanglesLaw$Grid", 16) = some (0, 375) := by decide +kernel
theorem zq_mas_LatinRectanglesLaw_Grid_21 : z_lookup z_mas ("LatinRectanglesLaw$Grid", 21) = some (1, 376) := by decide +kernel
theorem zq_mas_LatinRectanglesLaw_Grid_26 : z_lookup z_mas ("LatinRectanglesLaw$Grid", 26) = some (2, 378) := by decide +kernel
theorem zq_mas_LatinRectangles_History_9 : z_lookup z_mas ("LatinRectangles$History", 9) = some (0, 267) := by decide +kernel
theorem zq_mas_LatinRectangles_Snapshots_9 : z_lookup z_mas ("LatinRectangles$Snapshots", 9) = some (0, 285) := by decide +kernel
theorem zq_ois_LatinRectanglesLaw_25 : z_lookup z_ois ("LatinRectanglesLaw", 25) = none := by decide +kernel
theorem zq_ois_LatinRectanglesLaw_38 : z_lookup z_ois ("LatinRectanglesLaw", 38) = none := by decide +kernel
theorem zq_ois_LatinRectanglesLaw_84 : z_lookup z_ois ("LatinRectanglesLaw", 84) = none := by decide +kernel
theorem zq_ois_LatinRectanglesLaw_Grid_1 : z_lookup z_ois ("LatinRectanglesLaw$Grid", 1) = some 374 := by decide +kernel
theorem zq_ois_LatinRectangles_11 : z_lookup z_ois ("LatinRectangles", 11) = none := by decide +kernel
theorem zq_ois_LatinRectangles_18 : z_lookup z_ois ("LatinRectangles", 18) = none := by decide +kernel
theorem zq_ois_LatinRectangles_25 : z_lookup z_ois ("LatinRectangles", 25) = none := by decide +kernel
theorem zq_ois_LatinRectangles_3 : z_lookup z_ois ("LatinRectangles", 3) = some 66 := by decide +kernel
theorem zq_ois_LatinRectangles_34 : z_lookup z_ois ("LatinRectangles", 34) = none := by decide +kernel
theorem zq_ois_LatinRectangles_43 : z_lookup z_ois ("LatinRectangles", 43) = none := by decide +kernel
theorem zq_ois_LatinRectangles_50 : z_lookup z_ois ("LatinRectangles", 50) = none := by decide +kernel
theorem zq_ois_LatinRectangles_57 : z_lookup z_ois ("LatinRectangles", 57) = none := by decide +kernel
theorem zq_ois_LatinRectangles_64 : z_lookup z_ois ("LatinRectangles", 64) = none := by decide +kernel
theorem zq_ois_LatinRectangles_71 : z_lookup z_ois ("LatinRectangles", 71) = none := by decide +kernel
theorem zq_ois_LatinRectangles_Completions_11 : z_lookup z_ois ("LatinRectangles$Completions", 11) = none := by decide +kernel
theorem zq_ois_LatinRectangles_Completions_3 : z_lookup z_ois ("LatinRectangles$Completions", 3) = some 211 := by decide +kernel
theorem zq_ois_LatinRectangles_Cycles_3 : z_lookup z_ois ("LatinRectangles$Cycles", 3) = some 251 := by decide +kernel
theorem zq_ois_LatinRectangles_Forces_3 : z_lookup z_ois ("LatinRectangles$Forces", 3) = some 201 := by decide +kernel
theorem zq_ois_LatinRectangles_Grid_3 : z_lookup z_ois ("LatinRectangles$Grid", 3) = some 74 := by decide +kernel
theorem zq_ois_LatinRectangles_History_3 : z_lookup z_ois ("LatinRectangles$History", 3) = some 266 := by decide +kernel
theorem zq_ois_LatinRectangles_Parser_11 : z_lookup z_ois ("LatinRectangles$Parser", 11) = none := by decide +kernel
theorem zq_ois_LatinRectangles_Parser_3 : z_lookup z_ois ("LatinRectangles$Parser", 3) = some 177 := by decide +kernel
theorem zq_ois_LatinRectangles_Snapshots_3 : z_lookup z_ois ("LatinRectangles$Snapshots", 3) = some 284 := by decide +kernel
theorem zq_ois_LatinRectangles_Text_3 : z_lookup z_ois ("LatinRectangles$Text", 3) = some 144 := by decide +kernel
theorem zq_ois_LatinRectangles_Transversals_3 : z_lookup z_ois ("LatinRectangles$Transversals", 3) = some 232 := by decide +kernel
theorem zq_ois_java_lang_AbstractStringBuilder_3 : z_lookup z_ois ("java/lang/AbstractStringBuilder", 3) = some 338 := by decide +kernel
theorem zq_ois_java_lang_StringBuilder_1 : z_lookup z_ois ("java/lang/StringBuilder", 1) = none := by decide +kernel
theorem zq_ois_java_lang_StringBuilder_137 : z_lookup z_ois ("java/lang/StringBuilder", 137) = none := by decide +kernel
theorem zq_ois_java_lang_StringBuilder_29 : z_lookup z_ois ("java/lang/StringBuilder", 29) = none := by decide +kernel
theorem zq_ois_java_lang_StringBuilder_343 : z_lookup z_ois ("java/lang/StringBuilder", 343) = none := by decide +kernel
theorem zq_ois_java_lang_StringBuilder_50 : z_lookup z_ois ("java/lang/StringBuilder", 50) = none := by decide +kernel
theorem zq_ois_java_lang_StringBuilder_53 : z_lookup z_ois ("java/lang/StringBuilder", 53) = none := by decide +kernel
theorem zq_ois_java_lang_String_1 : z_lookup z_ois ("java/lang/String", 1) = some 613 := by decide +kernel
theorem zq_ois_java_lang_String_489 : z_lookup z_ois ("java/lang/String", 489) = none := by decide +kernel
theorem zq_prs_LatinRectanglesLaw_102 : z_lookup z_prs ("LatinRectanglesLaw", 102) = none := by decide +kernel
theorem zq_prs_LatinRectanglesLaw_108 : z_lookup z_prs ("LatinRectanglesLaw", 108) = none := by decide +kernel
theorem zq_prs_LatinRectanglesLaw_112 : z_lookup z_prs ("LatinRectanglesLaw", 112) = none := by decide +kernel
theorem zq_prs_LatinRectanglesLaw_116 : z_lookup z_prs ("LatinRectanglesLaw", 116) = none := by decide +kernel
theorem zq_prs_LatinRectanglesLaw_119 : z_lookup z_prs ("LatinRectanglesLaw", 119) = none := by decide +kernel
theorem zq_prs_LatinRectanglesLaw_123 : z_lookup z_prs ("LatinRectanglesLaw", 123) = none := by decide +kernel
theorem zq_prs_LatinRectanglesLaw_127 : z_lookup z_prs ("LatinRectanglesLaw", 127) = none := by decide +kernel
theorem zq_prs_LatinRectanglesLaw_13 : z_lookup z_prs ("LatinRectanglesLaw", 13) = none := by decide +kernel
theorem zq_prs_LatinRectanglesLaw_130 : z_lookup z_prs ("LatinRectanglesLaw", 130) = none := by decide +kernel
theorem zq_prs_LatinRectanglesLaw_133 : z_lookup z_prs ("LatinRectanglesLaw", 133) = none := by decide +kernel
theorem zq_prs_LatinRectanglesLaw_137 : z_lookup z_prs ("LatinRectanglesLaw", 137) = none := by decide +kernel
theorem zq_prs_LatinRectanglesLaw_141 : z_lookup z_prs ("LatinRectanglesLaw", 141) = none := by decide +kernel
theorem zq_prs_LatinRectanglesLaw_145 : z_lookup z_prs ("LatinRectanglesLaw", 145) = none := by decide +kernel
theorem zq_prs_LatinRectanglesLaw_149 : z_lookup z_prs ("LatinRectanglesLaw", 149) = none := by decide +kernel
theorem zq_prs_LatinRectanglesLaw_152 : z_lookup z_prs ("LatinRectanglesLaw", 152) = none := by decide +kernel
theorem zq_prs_LatinRectanglesLaw_156 : z_lookup z_prs ("LatinRectanglesLaw", 156) = none := by decide +kernel
theorem zq_prs_LatinRectanglesLaw_159 : z_lookup z_prs ("LatinRectanglesLaw", 159) = none := by decide +kernel
theorem zq_prs_LatinRectanglesLaw_165 : z_lookup z_prs ("LatinRectanglesLaw", 165) = none := by decide +kernel
theorem zq_prs_LatinRectanglesLaw_169 : z_lookup z_prs ("LatinRectanglesLaw", 169) = none := by decide +kernel
theorem zq_prs_LatinRectanglesLaw_17 : z_lookup z_prs ("LatinRectanglesLaw", 17) = none := by decide +kernel
theorem zq_prs_LatinRectanglesLaw_171 : z_lookup z_prs ("LatinRectanglesLaw", 171) = none := by decide +kernel
theorem zq_prs_LatinRectanglesLaw_174 : z_lookup z_prs ("LatinRectanglesLaw", 174) = none := by decide +kernel
theorem zq_prs_LatinRectanglesLaw_177 : z_lookup z_prs ("LatinRectanglesLaw", 177) = none := by decide +kernel
theorem zq_prs_LatinRectanglesLaw_180 : z_lookup z_prs ("LatinRectanglesLaw", 180) = none := by decide +kernel
theorem zq_prs_LatinRectanglesLaw_183 : z_lookup z_prs ("LatinRectanglesLaw", 183) = none := by decide +kernel
theorem zq_prs_LatinRectanglesLaw_184 : z_lookup z_prs ("LatinRectanglesLaw", 184) = none := by decide +kernel
theorem zq_prs_LatinRectanglesLaw_186 : z_lookup z_prs ("LatinRectanglesLaw", 186) = none := by decide +kernel
theorem zq_prs_LatinRectanglesLaw_189 : z_lookup z_prs ("LatinRectanglesLaw", 189) = none := by decide +kernel
theorem zq_prs_LatinRectanglesLaw_193 : z_lookup z_prs ("LatinRectanglesLaw", 193) = none := by decide +kernel
theorem zq_prs_LatinRectanglesLaw_199 : z_lookup z_prs ("LatinRectanglesLaw", 199) = none := by decide +kernel
theorem zq_prs_LatinRectanglesLaw_205 : z_lookup z_prs ("LatinRectanglesLaw", 205) = none := by decide +kernel
theorem zq_prs_LatinRectanglesLaw_211 : z_lookup z_prs ("LatinRectanglesLaw", 211) = none := by decide +kernel
theorem zq_prs_LatinRectanglesLaw_214 : z_lookup z_prs ("LatinRectanglesLaw", 214) = none := by decide +kernel
theorem zq_prs_LatinRectanglesLaw_215 : z_lookup z_prs ("LatinRectanglesLaw", 215) = none := by decide +kernel
theorem zq_prs_LatinRectanglesLaw_221 : z_lookup z_prs ("LatinRectanglesLaw", 221) = none := by decide +kernel
theorem zq_prs_LatinRectanglesLaw_228 : z_lookup z_prs ("LatinRectanglesLaw", 228) = none := by decide +kernel
theorem zq_prs_LatinRectanglesLaw_230 : z_lookup z_prs ("LatinRectanglesLaw", 230) = none := by decide +kernel
theorem zq_prs_LatinRectanglesLaw_26 : z_lookup z_prs ("LatinRectanglesLaw", 26) = none := by decide +kernel
theorem zq_prs_LatinRectanglesLaw_32 : z_lookup z_prs ("LatinRectanglesLaw", 32) = none := by decide +kernel
theorem zq_prs_LatinRectanglesLaw_43 : z_lookup z_prs ("LatinRectanglesLaw", 43) = none := by decide +kernel
theorem zq_prs_LatinRectanglesLaw_52 : z_lookup z_prs ("LatinRectanglesLaw", 52) = none := by decide +kernel
theorem zq_prs_LatinRectanglesLaw_55 : z_lookup z_prs ("LatinRectanglesLaw", 55) = none := by decide +kernel
theorem zq_prs_LatinRectanglesLaw_58 : z_lookup z_prs ("LatinRectanglesLaw", 58) = none := by decide +kernel
theorem zq_prs_LatinRectanglesLaw_7 : z_lookup z_prs ("LatinRectanglesLaw", 7) = none := by decide +kernel
theorem zq_prs_LatinRectanglesLaw_85 : z_lookup z_prs ("LatinRectanglesLaw", 85) = none := by decide +kernel
theorem zq_prs_LatinRectanglesLaw_89 : z_lookup z_prs ("LatinRectanglesLaw", 89) = none := by decide +kernel
theorem zq_prs_LatinRectanglesLaw_93 : z_lookup z_prs ("LatinRectanglesLaw", 93) = none := by decide +kernel
theorem zq_prs_LatinRectanglesLaw_97 : z_lookup z_prs ("LatinRectanglesLaw", 97) = none := by decide +kernel
theorem zq_prs_LatinRectanglesLaw_98 : z_lookup z_prs ("LatinRectanglesLaw", 98) = none := by decide +kernel
theorem zq_prs_LatinRectanglesLaw_Grid_31 : z_lookup z_prs ("LatinRectanglesLaw$Grid", 31) = none := by decide +kernel
theorem zq_prs_LatinRectanglesLaw_Grid_35 : z_lookup z_prs ("LatinRectanglesLaw$Grid", 35) = none := by decide +kernel
theorem zq_prs_LatinRectanglesLaw_Grid_39 : z_lookup z_prs ("LatinRectanglesLaw$Grid", 39) = none := by decide +kernel
theorem zq_prs_LatinRectanglesLaw_Grid_45 : z_lookup z_prs ("LatinRectanglesLaw$Grid", 45) = none := by decide +kernel
theorem zq_prs_LatinRectanglesLaw_Grid_54 : z_lookup z_prs ("LatinRectanglesLaw$Grid", 54) = none := by decide +kernel
theorem zq_prs_LatinRectanglesLaw_Grid_58 : z_lookup z_prs ("LatinRectanglesLaw$Grid", 58) = none := by decide +kernel
theorem zq_prs_LatinRectanglesLaw_Grid_77 : z_lookup z_prs ("LatinRectanglesLaw$Grid", 77) = none := by decide +kernel
theorem zq_prs_LatinRectanglesLaw_Grid_81 : z_lookup z_prs ("LatinRectanglesLaw$Grid", 81) = none := by decide +kernel
theorem zq_prs_LatinRectangles_111 : z_lookup z_prs ("LatinRectangles", 111) = none := by decide +kernel
theorem zq_prs_LatinRectangles_114 : z_lookup z_prs ("LatinRectangles", 114) = none := by decide +kernel
theorem zq_prs_LatinRectangles_117 : z_lookup z_prs ("LatinRectangles", 117) = none := by decide +kernel
theorem zq_prs_LatinRectangles_118 : z_lookup z_prs ("LatinRectangles", 118) = none := by decide +kernel
theorem zq_prs_LatinRectangles_137 : z_lookup z_prs ("LatinRectangles", 137) = none := by decide +kernel
theorem zq_prs_LatinRectangles_141 : z_lookup z_prs ("LatinRectangles", 141) = none := by decide +kernel
theorem zq_prs_LatinRectangles_144 : z_lookup z_prs ("LatinRectangles", 144) = none := by decide +kernel
theorem zq_prs_LatinRectangles_154 : z_lookup z_prs ("LatinRectangles", 154) = none := by decide +kernel
theorem zq_prs_LatinRectangles_158 : z_lookup z_prs ("LatinRectangles", 158) = none := by decide +kernel
theorem zq_prs_LatinRectangles_161 : z_lookup z_prs ("LatinRectangles", 161) = none := by decide +kernel
theorem zq_prs_LatinRectangles_165 : z_lookup z_prs ("LatinRectangles", 165) = none := by decide +kernel
theorem zq_prs_LatinRectangles_168 : z_lookup z_prs ("LatinRectangles", 168) = none := by decide +kernel
theorem zq_prs_LatinRectangles_174 : z_lookup z_prs ("LatinRectangles", 174) = none := by decide +kernel
theorem zq_prs_LatinRectangles_184 : z_lookup z_prs ("LatinRectangles", 184) = none := by decide +kernel
theorem zq_prs_LatinRectangles_186 : z_lookup z_prs ("LatinRectangles", 186) = none := by decide +kernel
theorem zq_prs_LatinRectangles_189 : z_lookup z_prs ("LatinRectangles", 189) = none := by decide +kernel
theorem zq_prs_LatinRectangles_192 : z_lookup z_prs ("LatinRectangles", 192) = none := by decide +kernel
theorem zq_prs_LatinRectangles_194 : z_lookup z_prs ("LatinRectangles", 194) = none := by decide +kernel
theorem zq_prs_LatinRectangles_197 : z_lookup z_prs ("LatinRectangles", 197) = none := by decide +kernel
theorem zq_prs_LatinRectangles_203 : z_lookup z_prs ("LatinRectangles", 203) = none := by decide +kernel
theorem zq_prs_LatinRectangles_207 : z_lookup z_prs ("LatinRectangles", 207) = none := by decide +kernel
theorem zq_prs_LatinRectangles_214 : z_lookup z_prs ("LatinRectangles", 214) = none := by decide +kernel
theorem zq_prs_LatinRectangles_235 : z_lookup z_prs ("LatinRectangles", 235) = none := by decide +kernel
theorem zq_prs_LatinRectangles_238 : z_lookup z_prs ("LatinRectangles", 238) = none := by decide +kernel
theorem zq_prs_LatinRectangles_243 : z_lookup z_prs ("LatinRectangles", 243) = none := by decide +kernel
theorem zq_prs_LatinRectangles_246 : z_lookup z_prs ("LatinRectangles", 246) = none := by decide +kernel
theorem zq_prs_LatinRectangles_252 : z_lookup z_prs ("LatinRectangles", 252) = none := by decide +kernel
theorem zq_prs_LatinRectangles_258 : z_lookup z_prs ("LatinRectangles", 258) = none := by decide +kernel
theorem zq_prs_LatinRectangles_288 : z_lookup z_prs ("LatinRectangles", 288) = none := by decide +kernel
theorem zq_prs_LatinRectangles_87 : z_lookup z_prs ("LatinRectangles", 87) = none := by decide +kernel
theorem zq_prs_LatinRectangles_98 : z_lookup z_prs ("LatinRectangles", 98) = none := by decide +kernel
theorem zq_prs_LatinRectangles_Completions_25 : z_lookup z_prs ("LatinRectangles$Completions", 25) = none := by decide +kernel
theorem zq_prs_LatinRectangles_Completions_29 : z_lookup z_prs ("LatinRectangles$Completions", 29) = none := by decide +kernel
theorem zq_prs_LatinRectangles_Completions_40 : z_lookup z_prs ("LatinRectangles$Completions", 40) = none := by decide +kernel
theorem zq_prs_LatinRectangles_Completions_44 : z_lookup z_prs ("LatinRectangles$Completions", 44) = none := by decide +kernel
theorem zq_prs_LatinRectangles_Completions_48 : z_lookup z_prs ("LatinRectangles$Completions", 48) = none := by decide +kernel
theorem zq_prs_LatinRectangles_Completions_52 : z_lookup z_prs ("LatinRectangles$Completions", 52) = none := by decide +kernel
theorem zq_prs_LatinRectangles_Completions_61 : z_lookup z_prs ("LatinRectangles$Completions", 61) = none := by decide +kernel
theorem zq_prs_LatinRectangles_Completions_65 : z_lookup z_prs ("LatinRectangles$Completions", 65) = none := by decide +kernel
theorem zq_prs_LatinRectangles_Completions_68 : z_lookup z_prs ("LatinRectangles$Completions", 68) = none := by decide +kernel
theorem zq_prs_LatinRectangles_Cycles_28 : z_lookup z_prs ("LatinRectangles$Cycles", 28) = none := by decide +kernel
theorem zq_prs_LatinRectangles_Cycles_67 : z_lookup z_prs ("LatinRectangles$Cycles", 67) = none := by decide +kernel
theorem zq_prs_LatinRectangles_Cycles_71 : z_lookup z_prs ("LatinRectangles$Cycles", 71) = none := by decide +kernel
theorem zq_prs_LatinRectangles_Forces_24 : z_lookup z_prs ("LatinRectangles$Forces", 24) = none := by decide +kernel
theorem zq_prs_LatinRectangles_Forces_28 : z_lookup z_prs ("LatinRectangles$Forces", 28) = none := by decide +kernel
theorem zq_prs_LatinRectangles_Forces_32 : z_lookup z_prs ("LatinRectangles$Forces", 32) = none := by decide +kernel
theorem zq_prs_LatinRectangles_Forces_35 : z_lookup z_prs ("LatinRectangles$Forces", 35) = none := by decide +kernel
theorem zq_prs_LatinRectangles_Forces_41 : z_lookup z_prs ("LatinRectangles$Forces", 41) = none := by decide +kernel
theorem zq_prs_LatinRectangles_Forces_44 : z_lookup z_prs ("LatinRectangles$Forces", 44) = none := by decide +kernel
theorem zq_prs_LatinRectangles_Grid_28 : z_lookup z_prs ("LatinRectangles$Grid", 28) = none := by decide +kernel
theorem zq_prs_LatinRectangles_Grid_45 : z_lookup z_prs ("LatinRectangles$Grid", 45) = none := by decide +kernel
theorem zq_prs_LatinRectangles_Grid_51 : z_lookup z_prs ("LatinRectangles$Grid", 51) = none := by decide +kernel
theorem zq_prs_LatinRectangles_Grid_55 : z_lookup z_prs ("LatinRectangles$Grid", 55) = none := by decide +kernel
theorem zq_prs_LatinRectangles_Grid_59 : z_lookup z_prs ("LatinRectangles$Grid", 59) = none := by decide +kernel
theorem zq_prs_LatinRectangles_Grid_63 : z_lookup z_prs ("LatinRectangles$Grid", 63) = none := by decide +kernel
theorem zq_prs_LatinRectangles_History_23 : z_lookup z_prs ("LatinRectangles$History", 23) = none := by decide +kernel
theorem zq_prs_LatinRectangles_History_29 : z_lookup z_prs ("LatinRectangles$History", 29) = some (3, 941) := by decide +kernel
theorem zq_prs_LatinRectangles_Parser_100 : z_lookup z_prs ("LatinRectangles$Parser", 100) = none := by decide +kernel
theorem zq_prs_LatinRectangles_Parser_107 : z_lookup z_prs ("LatinRectangles$Parser", 107) = none := by decide +kernel
theorem zq_prs_LatinRectangles_Parser_110 : z_lookup z_prs ("LatinRectangles$Parser", 110) = none := by decide +kernel
theorem zq_prs_LatinRectangles_Parser_114 : z_lookup z_prs ("LatinRectangles$Parser", 114) = none := by decide +kernel
theorem zq_prs_LatinRectangles_Parser_117 : z_lookup z_prs ("LatinRectangles$Parser", 117) = none := by decide +kernel
theorem zq_prs_LatinRectangles_Parser_29 : z_lookup z_prs ("LatinRectangles$Parser", 29) = none := by decide +kernel
theorem zq_prs_LatinRectangles_Parser_35 : z_lookup z_prs ("LatinRectangles$Parser", 35) = none := by decide +kernel
theorem zq_prs_LatinRectangles_Parser_39 : z_lookup z_prs ("LatinRectangles$Parser", 39) = none := by decide +kernel
theorem zq_prs_LatinRectangles_Parser_45 : z_lookup z_prs ("LatinRectangles$Parser", 45) = none := by decide +kernel
theorem zq_prs_LatinRectangles_Parser_48 : z_lookup z_prs ("LatinRectangles$Parser", 48) = none := by decide +kernel
theorem zq_prs_LatinRectangles_Parser_57 : z_lookup z_prs ("LatinRectangles$Parser", 57) = none := by decide +kernel
theorem zq_prs_LatinRectangles_Parser_61 : z_lookup z_prs ("LatinRectangles$Parser", 61) = none := by decide +kernel
theorem zq_prs_LatinRectangles_Parser_68 : z_lookup z_prs ("LatinRectangles$Parser", 68) = some (2, 800) := by decide +kernel
theorem zq_prs_LatinRectangles_Parser_74 : z_lookup z_prs ("LatinRectangles$Parser", 74) = none := by decide +kernel
theorem zq_prs_LatinRectangles_Parser_78 : z_lookup z_prs ("LatinRectangles$Parser", 78) = none := by decide +kernel
theorem zq_prs_LatinRectangles_Parser_94 : z_lookup z_prs ("LatinRectangles$Parser", 94) = none := by decide +kernel
theorem zq_prs_LatinRectangles_Parser_97 : z_lookup z_prs ("LatinRectangles$Parser", 97) = none := by decide +kernel
theorem zq_prs_LatinRectangles_Text_19 : z_lookup z_prs ("LatinRectangles$Text", 19) = some (3, 768) := by decide +kernel
theorem zq_prs_LatinRectangles_Text_40 : z_lookup z_prs ("LatinRectangles$Text", 40) = none := by decide +kernel
theorem zq_prs_LatinRectangles_Text_43 : z_lookup z_prs ("LatinRectangles$Text", 43) = none := by decide +kernel
theorem zq_prs_LatinRectangles_Text_46 : z_lookup z_prs ("LatinRectangles$Text", 46) = some (0, 790) := by decide +kernel
theorem zq_prs_LatinRectangles_Text_51 : z_lookup z_prs ("LatinRectangles$Text", 51) = some (1, 791) := by decide +kernel
theorem zq_prs_LatinRectangles_Transversals_26 : z_lookup z_prs ("LatinRectangles$Transversals", 26) = none := by decide +kernel
theorem zq_prs_LatinRectangles_Transversals_30 : z_lookup z_prs ("LatinRectangles$Transversals", 30) = none := by decide +kernel
theorem zq_prs_LatinRectangles_Transversals_45 : z_lookup z_prs ("LatinRectangles$Transversals", 45) = none := by decide +kernel
theorem zq_prs_LatinRectangles_Transversals_49 : z_lookup z_prs ("LatinRectangles$Transversals", 49) = none := by decide +kernel
theorem zq_prs_java_lang_AbstractStringBuilder_100 : z_lookup z_prs ("java/lang/AbstractStringBuilder", 100) = none := by decide +kernel
theorem zq_prs_java_lang_AbstractStringBuilder_104 : z_lookup z_prs ("java/lang/AbstractStringBuilder", 104) = none := by decide +kernel
theorem zq_prs_java_lang_AbstractStringBuilder_108 : z_lookup z_prs ("java/lang/AbstractStringBuilder", 108) = none := by decide +kernel
theorem zq_prs_java_lang_AbstractStringBuilder_114 : z_lookup z_prs ("java/lang/AbstractStringBuilder", 114) = none := by decide +kernel
theorem zq_prs_java_lang_AbstractStringBuilder_191 : z_lookup z_prs ("java/lang/AbstractStringBuilder", 191) = none := by decide +kernel
theorem zq_prs_java_lang_AbstractStringBuilder_208 : z_lookup z_prs ("java/lang/AbstractStringBuilder", 208) = none := by decide +kernel
theorem zq_prs_java_lang_AbstractStringBuilder_245 : z_lookup z_prs ("java/lang/AbstractStringBuilder", 245) = none := by decide +kernel
theorem zq_prs_java_lang_AbstractStringBuilder_248 : z_lookup z_prs ("java/lang/AbstractStringBuilder", 248) = none := by decide +kernel
theorem zq_prs_java_lang_AbstractStringBuilder_32 : z_lookup z_prs ("java/lang/AbstractStringBuilder", 32) = none := by decide +kernel
theorem zq_prs_java_lang_AbstractStringBuilder_397 : z_lookup z_prs ("java/lang/AbstractStringBuilder", 397) = none := by decide +kernel
theorem zq_prs_java_lang_AbstractStringBuilder_399 : z_lookup z_prs ("java/lang/AbstractStringBuilder", 399) = none := by decide +kernel
theorem zq_prs_java_lang_AbstractStringBuilder_40 : z_lookup z_prs ("java/lang/AbstractStringBuilder", 40) = none := by decide +kernel
theorem zq_prs_java_lang_AbstractStringBuilder_83 : z_lookup z_prs ("java/lang/AbstractStringBuilder", 83) = none := by decide +kernel
theorem zq_prs_java_lang_StringLatin1_9 : z_lookup z_prs ("java/lang/StringLatin1", 9) = some (4, 676) := by decide +kernel
theorem zq_prs_java_lang_String_1047 : z_lookup z_prs ("java/lang/String", 1047) = none := by decide +kernel
theorem zq_prs_java_lang_String_335 : z_lookup z_prs ("java/lang/String", 335) = none := by decide +kernel
theorem zq_prs_java_lang_String_492 : z_lookup z_prs ("java/lang/String", 492) = none := by decide +kernel
theorem zq_prs_java_lang_String_495 : z_lookup z_prs ("java/lang/String", 495) = none := by decide +kernel
theorem zq_prs_java_lang_String_54 : z_lookup z_prs ("java/lang/String", 54) = none := by decide +kernel
theorem zq_prs_java_lang_String_549 : z_lookup z_prs ("java/lang/String", 549) = none := by decide +kernel
theorem zq_prs_java_lang_String_552 : z_lookup z_prs ("java/lang/String", 552) = none := by decide +kernel
theorem zq_prs_java_util_Arrays_304 : z_lookup z_prs ("java/util/Arrays", 304) = some (3, 468) := by decide +kernel
theorem zq_prs_java_util_Arrays_339 : z_lookup z_prs ("java/util/Arrays", 339) = none := by decide +kernel
theorem zq_prs_java_util_Arrays_343 : z_lookup z_prs ("java/util/Arrays", 343) = none := by decide +kernel
theorem zq_prs_jdk_internal_util_ArraysSupport_194 : z_lookup z_prs ("jdk/internal/util/ArraysSupport", 194) = some (2, 450) := by decide +kernel
theorem zq_srs_LatinRectanglesLaw_23 : z_lookup z_srs ("LatinRectanglesLaw", 23) = none := by decide +kernel
theorem zq_srs_LatinRectanglesLaw_24 : z_lookup z_srs ("LatinRectanglesLaw", 24) = none := by decide +kernel
theorem zq_srs_java_lang_AbstractStringBuilder_39 : z_lookup z_srs ("java/lang/AbstractStringBuilder", 39) = none := by decide +kernel
theorem zq_srs_jdk_internal_util_ArraysSupport_200 : z_lookup z_srs ("jdk/internal/util/ArraysSupport", 200) = none := by decide +kernel
