set_option maxRecDepth 100000 in
theorem lk_0_0 : ((List.range 60).map (0 + ·)).all (lkB 0) = true := by decide +kernel
set_option maxRecDepth 100000 in
theorem lk_0_60 : ((List.range 60).map (60 + ·)).all (lkB 0) = true := by decide +kernel
set_option maxRecDepth 100000 in
theorem lk_0_120 : ((List.range 60).map (120 + ·)).all (lkB 0) = true := by decide +kernel
set_option maxRecDepth 100000 in
theorem lk_0_180 : ((List.range 60).map (180 + ·)).all (lkB 0) = true := by decide +kernel
set_option maxRecDepth 100000 in
theorem lk_0_240 : ((List.range 60).map (240 + ·)).all (lkB 0) = true := by decide +kernel
set_option maxRecDepth 100000 in
theorem lk_0_300 : ((List.range 60).map (300 + ·)).all (lkB 0) = true := by decide +kernel
set_option maxRecDepth 100000 in
theorem lk_0_360 : ((List.range 60).map (360 + ·)).all (lkB 0) = true := by decide +kernel
set_option maxRecDepth 100000 in
theorem lk_0_420 : ((List.range 60).map (420 + ·)).all (lkB 0) = true := by decide +kernel
set_option maxRecDepth 100000 in
theorem lk_0_480 : ((List.range 60).map (480 + ·)).all (lkB 0) = true := by decide +kernel
set_option maxRecDepth 100000 in
theorem lk_0_540 : ((List.range 60).map (540 + ·)).all (lkB 0) = true := by decide +kernel
set_option maxRecDepth 100000 in
theorem lk_0_600 : ((List.range 60).map (600 + ·)).all (lkB 0) = true := by decide +kernel
set_option maxRecDepth 100000 in
theorem lk_0_660 : ((List.range 13).map (660 + ·)).all (lkB 0) = true := by decide +kernel
set_option maxRecDepth 100000 in
theorem lk_1 : (List.range 106).all (lkB 1) = true := by decide +kernel
set_option maxRecDepth 100000 in
theorem lk_2 : (List.range 3).all (lkB 2) = true := by decide +kernel
set_option maxRecDepth 100000 in
theorem lk_3 : (List.range 11).all (lkB 3) = true := by decide +kernel
set_option maxRecDepth 100000 in
theorem lk_4 : (List.range 7).all (lkB 4) = true := by decide +kernel
set_option maxRecDepth 100000 in
theorem lk_5 : (List.range 10).all (lkB 5) = true := by decide +kernel
set_option maxRecDepth 100000 in
theorem lk_6 : (List.range 10).all (lkB 6) = true := by decide +kernel
set_option maxRecDepth 100000 in
theorem lk_7 : (List.range 21).all (lkB 7) = true := by decide +kernel
set_option maxRecDepth 100000 in
theorem lk_8 : (List.range 25).all (lkB 8) = true := by decide +kernel
set_option maxRecDepth 100000 in
theorem lk_9 : (List.range 28).all (lkB 9) = true := by decide +kernel
set_option maxRecDepth 100000 in
theorem lk_10 : (List.range 9).all (lkB 10) = true := by decide +kernel
set_option maxRecDepth 100000 in
theorem lk_11 : (List.range 22).all (lkB 11) = true := by decide +kernel
set_option maxRecDepth 100000 in
theorem lk_12 : (List.range 14).all (lkB 12) = true := by decide +kernel
set_option maxRecDepth 100000 in
theorem lk_13 : (List.range 23).all (lkB 13) = true := by decide +kernel
set_option maxRecDepth 100000 in
theorem lk_14 : (List.range 32).all (lkB 14) = true := by decide +kernel
set_option maxRecDepth 100000 in
theorem lk_15 : (List.range 15).all (lkB 15) = true := by decide +kernel
set_option maxRecDepth 100000 in
theorem lk_16 : (List.range 99).all (lkB 16) = true := by decide +kernel
set_option maxRecDepth 100000 in
theorem lk_27 : (List.range 81).all (lkB 27) = true := by decide +kernel
set_option maxRecDepth 100000 in
theorem lk_28 : (List.range 10).all (lkB 28) = true := by decide +kernel
set_option maxRecDepth 100000 in
theorem lk_29 : (List.range 36).all (lkB 29) = true := by decide +kernel
set_option maxRecDepth 100000 in
theorem lk_30 : (List.range 17).all (lkB 30) = true := by decide +kernel
set_option maxRecDepth 100000 in
theorem lk_31 : (List.range 33).all (lkB 31) = true := by decide +kernel
set_option maxRecDepth 100000 in
theorem lk_32 : (List.range 24).all (lkB 32) = true := by decide +kernel
set_option maxRecDepth 100000 in
theorem lk_33 : (List.range 8).all (lkB 33) = true := by decide +kernel
set_option maxRecDepth 100000 in
theorem lk_34 : (List.range 10).all (lkB 34) = true := by decide +kernel
set_option maxRecDepth 100000 in
theorem lk_35 : (List.range 11).all (lkB 35) = true := by decide +kernel
set_option maxRecDepth 100000 in
theorem lk_36 : (List.range 69).all (lkB 36) = true := by decide +kernel
set_option maxRecDepth 100000 in
theorem lk_37 : (List.range 32).all (lkB 37) = true := by decide +kernel
set_option maxRecDepth 100000 in
theorem lk_38 : (List.range 14).all (lkB 38) = true := by decide +kernel
set_option maxRecDepth 100000 in
theorem lk_39 : (List.range 33).all (lkB 39) = true := by decide +kernel
set_option maxRecDepth 100000 in
theorem lk_40 : (List.range 33).all (lkB 40) = true := by decide +kernel
set_option maxRecDepth 100000 in
theorem lk_41 : (List.range 81).all (lkB 41) = true := by decide +kernel
set_option maxRecDepth 100000 in
theorem lk_42 : (List.range 65).all (lkB 42) = true := by decide +kernel
set_option maxRecDepth 100000 in
theorem lk_43 : (List.range 42).all (lkB 43) = true := by decide +kernel
set_option maxRecDepth 100000 in
theorem lk_44 : (List.range 23).all (lkB 44) = true := by decide +kernel
set_option maxRecDepth 100000 in
theorem lk_45 : (List.range 29).all (lkB 45) = true := by decide +kernel
set_option maxRecDepth 100000 in
theorem lk_46 : (List.range 41).all (lkB 46) = true := by decide +kernel
set_option maxRecDepth 100000 in
theorem lk_47 : (List.range 8).all (lkB 47) = true := by decide +kernel
set_option maxRecDepth 100000 in
theorem lk_48 : (List.range 42).all (lkB 48) = true := by decide +kernel
set_option maxRecDepth 100000 in
theorem lk_49 : (List.range 39).all (lkB 49) = true := by decide +kernel
set_option maxRecDepth 100000 in
theorem lk_50 : (List.range 21).all (lkB 50) = true := by decide +kernel
set_option maxRecDepth 100000 in
theorem lk_51 : (List.range 33).all (lkB 51) = true := by decide +kernel
set_option maxRecDepth 100000 in
theorem lk_52_0 : ((List.range 60).map (0 + ·)).all (lkB 52) = true := by decide +kernel
set_option maxRecDepth 100000 in
theorem lk_52_60 : ((List.range 60).map (60 + ·)).all (lkB 52) = true := by decide +kernel
set_option maxRecDepth 100000 in
theorem lk_52_120 : ((List.range 30).map (120 + ·)).all (lkB 52) = true := by decide +kernel
set_option maxRecDepth 100000 in
theorem lk_53 : (List.range 31).all (lkB 53) = true := by decide +kernel
set_option maxRecDepth 100000 in
theorem lk_54 : (List.range 69).all (lkB 54) = true := by decide +kernel
set_option maxRecDepth 100000 in
theorem lk_55 : (List.range 18).all (lkB 55) = true := by decide +kernel
set_option maxRecDepth 100000 in
theorem lk_56 : (List.range 46).all (lkB 56) = true := by decide +kernel
set_option maxRecDepth 100000 in
theorem lk_57 : (List.range 16).all (lkB 57) = true := by decide +kernel
set_option maxRecDepth 100000 in
theorem lk_58 : (List.range 80).all (lkB 58) = true := by decide +kernel
set_option maxRecDepth 100000 in
theorem lk_59 : (List.range 17).all (lkB 59) = true := by decide +kernel
set_option maxRecDepth 100000 in
theorem lk_60 : (List.range 6).all (lkB 60) = true := by decide +kernel
set_option maxRecDepth 100000 in
theorem lk_61 : (List.range 26).all (lkB 61) = true := by decide +kernel
set_option maxRecDepth 100000 in
theorem lk_62 : (List.range 27).all (lkB 62) = true := by decide +kernel
set_option maxRecDepth 100000 in
theorem lk_63 : (List.range 18).all (lkB 63) = true := by decide +kernel
set_option maxRecDepth 100000 in
theorem lk_64 : (List.range 14).all (lkB 64) = true := by decide +kernel
set_option maxRecDepth 100000 in
theorem lk_65 : (List.range 15).all (lkB 65) = true := by decide +kernel
set_option maxRecDepth 100000 in
theorem lk_66 : (List.range 35).all (lkB 66) = true := by decide +kernel
set_option maxRecDepth 100000 in
theorem lk_67 : (List.range 25).all (lkB 67) = true := by decide +kernel
set_option maxRecDepth 100000 in
theorem lk_68 : (List.range 25).all (lkB 68) = true := by decide +kernel
set_option maxRecDepth 100000 in
theorem lk_69 : (List.range 14).all (lkB 69) = true := by decide +kernel
set_option maxRecDepth 100000 in
theorem lk_70 : (List.range 14).all (lkB 70) = true := by decide +kernel
set_option maxRecDepth 100000 in
theorem lk_71 : (List.range 40).all (lkB 71) = true := by decide +kernel
set_option maxRecDepth 100000 in
theorem lk_72 : (List.range 28).all (lkB 72) = true := by decide +kernel
set_option maxRecDepth 100000 in
theorem lk_73 : (List.range 42).all (lkB 73) = true := by decide +kernel
set_option maxRecDepth 100000 in
theorem lk_74 : (List.range 14).all (lkB 74) = true := by decide +kernel
set_option maxRecDepth 100000 in
theorem lk_75 : (List.range 22).all (lkB 75) = true := by decide +kernel
set_option maxRecDepth 100000 in
theorem lk_76 : (List.range 24).all (lkB 76) = true := by decide +kernel
set_option maxRecDepth 100000 in
theorem lk_77 : (List.range 16).all (lkB 77) = true := by decide +kernel
set_option maxRecDepth 100000 in
theorem lk_78 : (List.range 13).all (lkB 78) = true := by decide +kernel
set_option maxRecDepth 100000 in
theorem lk_79 : (List.range 70).all (lkB 79) = true := by decide +kernel
set_option maxRecDepth 100000 in
theorem lk_80 : (List.range 32).all (lkB 80) = true := by decide +kernel
set_option maxRecDepth 100000 in
theorem lk_81 : (List.range 47).all (lkB 81) = true := by decide +kernel
set_option maxRecDepth 100000 in
theorem lk_82 : (List.range 66).all (lkB 82) = true := by decide +kernel
set_option maxRecDepth 100000 in
theorem lk_83 : (List.range 4).all (lkB 83) = true := by decide +kernel
set_option maxRecDepth 100000 in
theorem lk_84 : (List.range 63).all (lkB 84) = true := by decide +kernel
set_option maxRecDepth 100000 in
theorem lk_85 : (List.range 20).all (lkB 85) = true := by decide +kernel
set_option maxRecDepth 100000 in
theorem lk_86 : (List.range 18).all (lkB 86) = true := by decide +kernel
set_option maxRecDepth 100000 in
theorem lk_87 : (List.range 12).all (lkB 87) = true := by decide +kernel
set_option maxRecDepth 100000 in
theorem lk_88 : (List.range 28).all (lkB 88) = true := by decide +kernel
set_option maxRecDepth 100000 in
theorem lk_89 : (List.range 7).all (lkB 89) = true := by decide +kernel
set_option maxRecDepth 100000 in
theorem lk_90 : (List.range 21).all (lkB 90) = true := by decide +kernel
set_option maxRecDepth 100000 in
theorem lk_91 : (List.range 31).all (lkB 91) = true := by decide +kernel
set_option maxRecDepth 100000 in
theorem lk_92 : (List.range 8).all (lkB 92) = true := by decide +kernel
set_option maxRecDepth 100000 in
theorem lk_93 : (List.range 33).all (lkB 93) = true := by decide +kernel
set_option maxRecDepth 100000 in
theorem lk_94 : (List.range 20).all (lkB 94) = true := by decide +kernel
set_option maxRecDepth 100000 in
theorem lk_95 : (List.range 33).all (lkB 95) = true := by decide +kernel
set_option maxRecDepth 100000 in
theorem lk_96 : (List.range 34).all (lkB 96) = true := by decide +kernel
set_option maxRecDepth 100000 in
theorem lk_97 : (List.range 63).all (lkB 97) = true := by decide +kernel
set_option maxRecDepth 100000 in
theorem lk_98 : (List.range 18).all (lkB 98) = true := by decide +kernel
set_option maxRecDepth 100000 in
theorem lk_99 : (List.range 52).all (lkB 99) = true := by decide +kernel
set_option maxRecDepth 100000 in
theorem lk_101 : (List.range 52).all (lkB 101) = true := by decide +kernel
set_option maxRecDepth 100000 in
theorem lk_102 : (List.range 47).all (lkB 102) = true := by decide +kernel
set_option maxRecDepth 100000 in
theorem lk_103 : (List.range 19).all (lkB 103) = true := by decide +kernel
set_option maxRecDepth 100000 in
theorem lk_104 : (List.range 18).all (lkB 104) = true := by decide +kernel
set_option maxRecDepth 100000 in
theorem lk_105_0 : ((List.range 60).map (0 + ·)).all (lkB 105) = true := by decide +kernel
set_option maxRecDepth 100000 in
theorem lk_105_60 : ((List.range 60).map (60 + ·)).all (lkB 105) = true := by decide +kernel
set_option maxRecDepth 100000 in
theorem lk_105_120 : ((List.range 60).map (120 + ·)).all (lkB 105) = true := by decide +kernel
set_option maxRecDepth 100000 in
theorem lk_105_180 : ((List.range 60).map (180 + ·)).all (lkB 105) = true := by decide +kernel
set_option maxRecDepth 100000 in
theorem lk_105_240 : ((List.range 15).map (240 + ·)).all (lkB 105) = true := by decide +kernel
set_option maxRecDepth 100000 in
theorem lk_106 : (List.range 59).all (lkB 106) = true := by decide +kernel
set_option maxRecDepth 100000 in
theorem lk_107 : (List.range 47).all (lkB 107) = true := by decide +kernel
set_option maxRecDepth 100000 in
theorem lk_108 : (List.range 5).all (lkB 108) = true := by decide +kernel
set_option maxRecDepth 100000 in
theorem lk_109 : (List.range 10).all (lkB 109) = true := by decide +kernel
set_option maxRecDepth 100000 in
theorem lk_110 : (List.range 7).all (lkB 110) = true := by decide +kernel
set_option maxRecDepth 100000 in
theorem lk_111 : (List.range 20).all (lkB 111) = true := by decide +kernel
set_option maxRecDepth 100000 in
theorem lk_112 : (List.range 28).all (lkB 112) = true := by decide +kernel
set_option maxRecDepth 100000 in
theorem lk_113 : (List.range 41).all (lkB 113) = true := by decide +kernel
set_option maxRecDepth 100000 in
theorem lk_114 : (List.range 5).all (lkB 114) = true := by decide +kernel
set_option maxRecDepth 100000 in
theorem lk_115 : (List.range 7).all (lkB 115) = true := by decide +kernel
set_option maxRecDepth 100000 in
theorem lk_116 : (List.range 9).all (lkB 116) = true := by decide +kernel
set_option maxRecDepth 100000 in
theorem lk_117 : (List.range 7).all (lkB 117) = true := by decide +kernel
set_option maxRecDepth 100000 in
theorem lk_118 : (List.range 13).all (lkB 118) = true := by decide +kernel
set_option maxRecDepth 100000 in
theorem lk_119 : (List.range 46).all (lkB 119) = true := by decide +kernel
set_option maxRecDepth 100000 in
theorem lk_120 : (List.range 58).all (lkB 120) = true := by decide +kernel
set_option maxRecDepth 100000 in
theorem lk_121 : (List.range 17).all (lkB 121) = true := by decide +kernel
set_option maxRecDepth 100000 in
theorem lk_122 : (List.range 38).all (lkB 122) = true := by decide +kernel
set_option maxRecDepth 100000 in
theorem lk_123 : (List.range 74).all (lkB 123) = true := by decide +kernel
set_option maxRecDepth 100000 in
theorem lk_124 : (List.range 59).all (lkB 124) = true := by decide +kernel
set_option maxRecDepth 100000 in
theorem lk_125 : (List.range 82).all (lkB 125) = true := by decide +kernel
set_option maxRecDepth 100000 in
theorem lk_126 : (List.range 15).all (lkB 126) = true := by decide +kernel
set_option maxRecDepth 100000 in
theorem lk_127 : (List.range 11).all (lkB 127) = true := by decide +kernel
set_option maxRecDepth 100000 in
theorem lk_128_0 : ((List.range 60).map (0 + ·)).all (lkB 128) = true := by decide +kernel
set_option maxRecDepth 100000 in
theorem lk_128_60 : ((List.range 60).map (60 + ·)).all (lkB 128) = true := by decide +kernel
set_option maxRecDepth 100000 in
theorem lk_128_120 : ((List.range 24).map (120 + ·)).all (lkB 128) = true := by decide +kernel
set_option maxRecDepth 100000 in
theorem lk_129 : (List.range 11).all (lkB 129) = true := by decide +kernel
set_option maxRecDepth 100000 in
theorem lk_130 : (List.range 57).all (lkB 130) = true := by decide +kernel
set_option maxRecDepth 100000 in
theorem lk_131 : (List.range 12).all (lkB 131) = true := by decide +kernel
set_option maxRecDepth 100000 in
theorem lk_132 : (List.range 11).all (lkB 132) = true := by decide +kernel
set_option maxRecDepth 100000 in
theorem lk_133 : (List.range 96).all (lkB 133) = true := by decide +kernel
set_option maxRecDepth 100000 in
theorem lk_134 : (List.range 35).all (lkB 134) = true := by decide +kernel
set_option maxRecDepth 100000 in
theorem lk_135 : (List.range 40).all (lkB 135) = true := by decide +kernel
set_option maxRecDepth 100000 in
theorem lk_136 : (List.range 22).all (lkB 136) = true := by decide +kernel
set_option maxRecDepth 100000 in
theorem lk_137 : (List.range 60).all (lkB 137) = true := by decide +kernel
set_option maxRecDepth 100000 in
theorem lk_138 : (List.range 40).all (lkB 138) = true := by decide +kernel
set_option maxRecDepth 100000 in
theorem lk_139 : (List.range 24).all (lkB 139) = true := by decide +kernel
set_option maxRecDepth 100000 in
theorem lk_140 : (List.range 43).all (lkB 140) = true := by decide +kernel
set_option maxRecDepth 100000 in
theorem lk_141 : (List.range 7).all (lkB 141) = true := by decide +kernel
set_option maxRecDepth 100000 in
theorem lk_142 : (List.range 11).all (lkB 142) = true := by decide +kernel
set_option maxRecDepth 100000 in
theorem lk_143_0 : ((List.range 60).map (0 + ·)).all (lkB 143) = true := by decide +kernel
set_option maxRecDepth 100000 in
theorem lk_143_60 : ((List.range 60).map (60 + ·)).all (lkB 143) = true := by decide +kernel
set_option maxRecDepth 100000 in
theorem lk_143_120 : ((List.range 60).map (120 + ·)).all (lkB 143) = true := by decide +kernel
set_option maxRecDepth 100000 in
theorem lk_143_180 : ((List.range 22).map (180 + ·)).all (lkB 143) = true := by decide +kernel
set_option maxRecDepth 100000 in
theorem lk_144 : (List.range 31).all (lkB 144) = true := by decide +kernel
set_option maxRecDepth 100000 in
theorem lk_145 : (List.range 95).all (lkB 145) = true := by decide +kernel
set_option maxRecDepth 100000 in
theorem lk_146 : (List.range 64).all (lkB 146) = true := by decide +kernel
set_option maxRecDepth 100000 in
theorem lk_147 : (List.range 25).all (lkB 147) = true := by decide +kernel
set_option maxRecDepth 100000 in
theorem lk_148 : (List.range 24).all (lkB 148) = true := by decide +kernel
set_option maxRecDepth 100000 in
theorem lk_149 : (List.range 16).all (lkB 149) = true := by decide +kernel
set_option maxRecDepth 100000 in
theorem lk_150 : (List.range 87).all (lkB 150) = true := by decide +kernel
set_option maxRecDepth 100000 in
theorem lk_151 : (List.range 47).all (lkB 151) = true := by decide +kernel
set_option maxRecDepth 100000 in
theorem lk_152 : (List.range 3).all (lkB 152) = true := by decide +kernel
set_option maxRecDepth 100000 in
theorem lk_153 : (List.range 5).all (lkB 153) = true := by decide +kernel
set_option maxRecDepth 100000 in
theorem lk_154 : (List.range 13).all (lkB 154) = true := by decide +kernel
set_option maxRecDepth 100000 in
theorem lk_155 : (List.range 5).all (lkB 155) = true := by decide +kernel
set_option maxRecDepth 100000 in
theorem lk_156 : (List.range 11).all (lkB 156) = true := by decide +kernel
set_option maxRecDepth 100000 in
theorem lk_157 : (List.range 19).all (lkB 157) = true := by decide +kernel
set_option maxRecDepth 100000 in
theorem lk_158 : (List.range 5).all (lkB 158) = true := by decide +kernel
set_option maxRecDepth 100000 in
theorem lk_159 : (List.range 5).all (lkB 159) = true := by decide +kernel
set_option maxRecDepth 100000 in
theorem lk_160 : (List.range 8).all (lkB 160) = true := by decide +kernel
set_option maxRecDepth 100000 in
theorem lk_161 : (List.range 20).all (lkB 161) = true := by decide +kernel
set_option maxRecDepth 100000 in
theorem lk_162 : (List.range 11).all (lkB 162) = true := by decide +kernel
set_option maxRecDepth 100000 in
theorem lk_163 : (List.range 16).all (lkB 163) = true := by decide +kernel
set_option maxRecDepth 100000 in
theorem lk_164 : (List.range 17).all (lkB 164) = true := by decide +kernel
set_option maxRecDepth 100000 in
theorem lk_165 : (List.range 5).all (lkB 165) = true := by decide +kernel
set_option maxRecDepth 100000 in
theorem lk_166 : (List.range 16).all (lkB 166) = true := by decide +kernel
set_option maxRecDepth 100000 in
theorem lk_167 : (List.range 9).all (lkB 167) = true := by decide +kernel
set_option maxRecDepth 100000 in
theorem lk_168 : (List.range 15).all (lkB 168) = true := by decide +kernel
set_option maxRecDepth 100000 in
theorem lk_169 : (List.range 9).all (lkB 169) = true := by decide +kernel
set_option maxRecDepth 100000 in
theorem lk_170 : (List.range 13).all (lkB 170) = true := by decide +kernel
set_option maxRecDepth 100000 in
theorem lk_171 : (List.range 9).all (lkB 171) = true := by decide +kernel
set_option maxRecDepth 100000 in
theorem lk_172 : (List.range 6).all (lkB 172) = true := by decide +kernel
set_option maxRecDepth 100000 in
theorem lk_173 : (List.range 11).all (lkB 173) = true := by decide +kernel
set_option maxRecDepth 100000 in
theorem lk_174 : (List.range 6).all (lkB 174) = true := by decide +kernel
set_option maxRecDepth 100000 in
theorem lk_175 : (List.range 48).all (lkB 175) = true := by decide +kernel
set_option maxRecDepth 100000 in
theorem lk_176 : (List.range 11).all (lkB 176) = true := by decide +kernel
set_option maxRecDepth 100000 in
theorem lk_177 : (List.range 6).all (lkB 177) = true := by decide +kernel
set_option maxRecDepth 100000 in
theorem lk_178 : (List.range 22).all (lkB 178) = true := by decide +kernel
set_option maxRecDepth 100000 in
theorem lk_179 : (List.range 13).all (lkB 179) = true := by decide +kernel
set_option maxRecDepth 100000 in
theorem lk_180 : (List.range 11).all (lkB 180) = true := by decide +kernel
set_option maxRecDepth 100000 in
theorem lk_181 : (List.range 16).all (lkB 181) = true := by decide +kernel
set_option maxRecDepth 100000 in
theorem lk_182 : (List.range 3).all (lkB 182) = true := by decide +kernel
set_option maxRecDepth 100000 in
theorem lk_183 : (List.range 14).all (lkB 183) = true := by decide +kernel
set_option maxRecDepth 100000 in
theorem lk_184 : (List.range 3).all (lkB 184) = true := by decide +kernel
set_option maxRecDepth 100000 in
theorem lk_185 : (List.range 48).all (lkB 185) = true := by decide +kernel
set_option maxRecDepth 100000 in
theorem lk_186 : (List.range 17).all (lkB 186) = true := by decide +kernel
set_option maxRecDepth 100000 in
theorem lk_187 : (List.range 30).all (lkB 187) = true := by decide +kernel
set_option maxRecDepth 100000 in
theorem lk_188 : (List.range 17).all (lkB 188) = true := by decide +kernel
set_option maxRecDepth 100000 in
theorem lk_189 : (List.range 46).all (lkB 189) = true := by decide +kernel
set_option maxRecDepth 100000 in
theorem lk_190 : (List.range 37).all (lkB 190) = true := by decide +kernel
set_option maxRecDepth 100000 in
theorem lk_191 : (List.range 13).all (lkB 191) = true := by decide +kernel
set_option maxRecDepth 100000 in
theorem lk_192 : (List.range 33).all (lkB 192) = true := by decide +kernel
set_option maxRecDepth 100000 in
theorem lk_193 : (List.range 18).all (lkB 193) = true := by decide +kernel
set_option maxRecDepth 100000 in
theorem lk_194 : (List.range 52).all (lkB 194) = true := by decide +kernel
set_option maxRecDepth 100000 in
theorem lk_195 : (List.range 24).all (lkB 195) = true := by decide +kernel
set_option maxRecDepth 100000 in
theorem lk_196 : (List.range 29).all (lkB 196) = true := by decide +kernel
set_option maxRecDepth 100000 in
theorem lk_197 : (List.range 29).all (lkB 197) = true := by decide +kernel
set_option maxRecDepth 100000 in
theorem lk_198 : (List.range 27).all (lkB 198) = true := by decide +kernel
set_option maxRecDepth 100000 in
theorem lk_199 : (List.range 32).all (lkB 199) = true := by decide +kernel
set_option maxRecDepth 100000 in
theorem lk_200_0 : ((List.range 60).map (0 + ·)).all (lkB 200) = true := by decide +kernel
set_option maxRecDepth 100000 in
theorem lk_200_60 : ((List.range 53).map (60 + ·)).all (lkB 200) = true := by decide +kernel
set_option maxRecDepth 100000 in
theorem lk_201 : (List.range 41).all (lkB 201) = true := by decide +kernel
set_option maxRecDepth 100000 in
theorem lk_202 : (List.range 29).all (lkB 202) = true := by decide +kernel
set_option maxRecDepth 100000 in
theorem lk_203 : (List.range 18).all (lkB 203) = true := by decide +kernel
set_option maxRecDepth 100000 in
theorem lk_204 : (List.range 24).all (lkB 204) = true := by decide +kernel
set_option maxRecDepth 100000 in
theorem lk_205 : (List.range 7).all (lkB 205) = true := by decide +kernel
set_option maxRecDepth 100000 in
theorem lk_206_0 : ((List.range 60).map (0 + ·)).all (lkB 206) = true := by decide +kernel
set_option maxRecDepth 100000 in
theorem lk_206_60 : ((List.range 60).map (60 + ·)).all (lkB 206) = true := by decide +kernel
set_option maxRecDepth 100000 in
theorem lk_206_120 : ((List.range 60).map (120 + ·)).all (lkB 206) = true := by decide +kernel
set_option maxRecDepth 100000 in
theorem lk_206_180 : ((List.range 49).map (180 + ·)).all (lkB 206) = true := by decide +kernel
set_option maxRecDepth 100000 in
theorem lk_207 : (List.range 67).all (lkB 207) = true := by decide +kernel
set_option maxRecDepth 100000 in
theorem mcd_1 : lw_tbl[(yP 1).1]? = some (.code (yn 1) (yc 1) (yl 1) (yr 1)) := rfl
theorem mok_1 : mOK 1 = true := by decide +kernel
set_option maxRecDepth 100000 in
theorem mcd_2 : lw_tbl[(yP 2).1]? = some (.code (yn 2) (yc 2) (yl 2) (yr 2)) := rfl
theorem mok_2 : mOK 2 = true := by decide +kernel
set_option maxRecDepth 100000 in
theorem mcd_3 : lw_tbl[(yP 3).1]? = some (.code (yn 3) (yc 3) (yl 3) (yr 3)) := rfl
theorem mok_3 : mOK 3 = true := by decide +kernel
set_option maxRecDepth 100000 in
theorem mcd_4 : lw_tbl[(yP 4).1]? = some (.code (yn 4) (yc 4) (yl 4) (yr 4)) := rfl
theorem mok_4 : mOK 4 = true := by decide +kernel
set_option maxRecDepth 100000 in
theorem mcd_5 : lw_tbl[(yP 5).1]? = some (.code (yn 5) (yc 5) (yl 5) (yr 5)) := rfl
theorem mok_5 : mOK 5 = true := by decide +kernel
set_option maxRecDepth 100000 in
theorem mcd_6 : lw_tbl[(yP 6).1]? = some (.code (yn 6) (yc 6) (yl 6) (yr 6)) := rfl
theorem mok_6 : mOK 6 = true := by decide +kernel
set_option maxRecDepth 100000 in
theorem mcd_7 : lw_tbl[(yP 7).1]? = some (.code (yn 7) (yc 7) (yl 7) (yr 7)) := rfl
theorem mok_7 : mOK 7 = true := by decide +kernel
set_option maxRecDepth 100000 in
theorem mcd_8 : lw_tbl[(yP 8).1]? = some (.code (yn 8) (yc 8) (yl 8) (yr 8)) := rfl
theorem mok_8 : mOK 8 = true := by decide +kernel
set_option maxRecDepth 100000 in
theorem mcd_9 : lw_tbl[(yP 9).1]? = some (.code (yn 9) (yc 9) (yl 9) (yr 9)) := rfl
theorem mok_9 : mOK 9 = true := by decide +kernel
set_option maxRecDepth 100000 in
theorem mcd_10 : lw_tbl[(yP 10).1]? = some (.code (yn 10) (yc 10) (yl 10) (yr 10)) := rfl
theorem mok_10 : mOK 10 = true := by decide +kernel
set_option maxRecDepth 100000 in
theorem mcd_11 : lw_tbl[(yP 11).1]? = some (.code (yn 11) (yc 11) (yl 11) (yr 11)) := rfl
theorem mok_11 : mOK 11 = true := by decide +kernel
set_option maxRecDepth 100000 in
theorem mcd_12 : lw_tbl[(yP 12).1]? = some (.code (yn 12) (yc 12) (yl 12) (yr 12)) := rfl
theorem mok_12 : mOK 12 = true := by decide +kernel
set_option maxRecDepth 100000 in
theorem mcd_13 : lw_tbl[(yP 13).1]? = some (.code (yn 13) (yc 13) (yl 13) (yr 13)) := rfl
theorem mok_13 : mOK 13 = true := by decide +kernel
set_option maxRecDepth 100000 in
theorem mcd_14 : lw_tbl[(yP 14).1]? = some (.code (yn 14) (yc 14) (yl 14) (yr 14)) := rfl
theorem mok_14 : mOK 14 = true := by decide +kernel
set_option maxRecDepth 100000 in
theorem mcd_15 : lw_tbl[(yP 15).1]? = some (.code (yn 15) (yc 15) (yl 15) (yr 15)) := rfl
theorem mok_15 : mOK 15 = true := by decide +kernel
set_option maxRecDepth 100000 in
theorem mcd_16 : lw_tbl[(yP 16).1]? = some (.code (yn 16) (yc 16) (yl 16) (yr 16)) := rfl
theorem mok_16 : mOK 16 = true := by decide +kernel
set_option maxRecDepth 100000 in
theorem mcd_17 : lw_tbl[(yP 17).1]? = some (.code (yn 17) (yc 17) (yl 17) (yr 17)) := rfl
theorem mok_17 : mOK 17 = true := by decide +kernel
set_option maxRecDepth 100000 in
theorem mcd_18 : lw_tbl[(yP 18).1]? = some (.code (yn 18) (yc 18) (yl 18) (yr 18)) := rfl
theorem mok_18 : mOK 18 = true := by decide +kernel
set_option maxRecDepth 100000 in
theorem mcd_19 : lw_tbl[(yP 19).1]? = some (.code (yn 19) (yc 19) (yl 19) (yr 19)) := rfl
theorem mok_19 : mOK 19 = true := by decide +kernel
set_option maxRecDepth 100000 in
theorem mcd_20 : lw_tbl[(yP 20).1]? = some (.code (yn 20) (yc 20) (yl 20) (yr 20)) := rfl
theorem mok_20 : mOK 20 = true := by decide +kernel
set_option maxRecDepth 100000 in
theorem mcd_21 : lw_tbl[(yP 21).1]? = some (.code (yn 21) (yc 21) (yl 21) (yr 21)) := rfl
theorem mok_21 : mOK 21 = true := by decide +kernel
set_option maxRecDepth 100000 in
theorem mcd_22 : lw_tbl[(yP 22).1]? = some (.code (yn 22) (yc 22) (yl 22) (yr 22)) := rfl
theorem mok_22 : mOK 22 = true := by decide +kernel
set_option maxRecDepth 100000 in
theorem mcd_23 : lw_tbl[(yP 23).1]? = some (.code (yn 23) (yc 23) (yl 23) (yr 23)) := rfl
theorem mok_23 : mOK 23 = true := by decide +kernel
set_option maxRecDepth 100000 in
theorem mcd_24 : lw_tbl[(yP 24).1]? = some (.code (yn 24) (yc 24) (yl 24) (yr 24)) := rfl
theorem mok_24 : mOK 24 = true := by decide +kernel
set_option maxRecDepth 100000 in
theorem mcd_25 : lw_tbl[(yP 25).1]? = some (.code (yn 25) (yc 25) (yl 25) (yr 25)) := rfl
theorem mok_25 : mOK 25 = true := by decide +kernel
set_option maxRecDepth 100000 in
theorem mcd_27 : lw_tbl[(yP 27).1]? = some (.code (yn 27) (yc 27) (yl 27) (yr 27)) := rfl
theorem mok_27 : mOK 27 = true := by decide +kernel
set_option maxRecDepth 100000 in
theorem mcd_28 : lw_tbl[(yP 28).1]? = some (.code (yn 28) (yc 28) (yl 28) (yr 28)) := rfl
theorem mok_28 : mOK 28 = true := by decide +kernel
set_option maxRecDepth 100000 in
theorem mcd_29 : lw_tbl[(yP 29).1]? = some (.code (yn 29) (yc 29) (yl 29) (yr 29)) := rfl
theorem mok_29 : mOK 29 = true := by decide +kernel
set_option maxRecDepth 100000 in
theorem mcd_30 : lw_tbl[(yP 30).1]? = some (.code (yn 30) (yc 30) (yl 30) (yr 30)) := rfl
theorem mok_30 : mOK 30 = true := by decide +kernel
set_option maxRecDepth 100000 in
theorem mcd_31 : lw_tbl[(yP 31).1]? = some (.code (yn 31) (yc 31) (yl 31) (yr 31)) := rfl
theorem mok_31 : mOK 31 = true := by decide +kernel
set_option maxRecDepth 100000 in
theorem mcd_32 : lw_tbl[(yP 32).1]? = some (.code (yn 32) (yc 32) (yl 32) (yr 32)) := rfl
theorem mok_32 : mOK 32 = true := by decide +kernel
set_option maxRecDepth 100000 in
theorem mcd_33 : lw_tbl[(yP 33).1]? = some (.code (yn 33) (yc 33) (yl 33) (yr 33)) := rfl
theorem mok_33 : mOK 33 = true := by decide +kernel
set_option maxRecDepth 100000 in
theorem mcd_34 : lw_tbl[(yP 34).1]? = some (.code (yn 34) (yc 34) (yl 34) (yr 34)) := rfl
theorem mok_34 : mOK 34 = true := by decide +kernel
set_option maxRecDepth 100000 in
theorem mcd_35 : lw_tbl[(yP 35).1]? = some (.code (yn 35) (yc 35) (yl 35) (yr 35)) := rfl
theorem mok_35 : mOK 35 = true := by decide +kernel
set_option maxRecDepth 100000 in
theorem mcd_36 : lw_tbl[(yP 36).1]? = some (.code (yn 36) (yc 36) (yl 36) (yr 36)) := rfl
theorem mok_36 : mOK 36 = true := by decide +kernel
set_option maxRecDepth 100000 in
theorem mcd_37 : lw_tbl[(yP 37).1]? = some (.code (yn 37) (yc 37) (yl 37) (yr 37)) := rfl
theorem mok_37 : mOK 37 = true := by decide +kernel
set_option maxRecDepth 100000 in
theorem mcd_38 : lw_tbl[(yP 38).1]? = some (.code (yn 38) (yc 38) (yl 38) (yr 38)) := rfl
theorem mok_38 : mOK 38 = true := by decide +kernel
set_option maxRecDepth 100000 in
theorem mcd_39 : lw_tbl[(yP 39).1]? = some (.code (yn 39) (yc 39) (yl 39) (yr 39)) := rfl
theorem mok_39 : mOK 39 = true := by decide +kernel
set_option maxRecDepth 100000 in
theorem mcd_40 : lw_tbl[(yP 40).1]? = some (.code (yn 40) (yc 40) (yl 40) (yr 40)) := rfl
theorem mok_40 : mOK 40 = true := by decide +kernel
set_option maxRecDepth 100000 in
theorem mcd_41 : lw_tbl[(yP 41).1]? = some (.code (yn 41) (yc 41) (yl 41) (yr 41)) := rfl
theorem mok_41 : mOK 41 = true := by decide +kernel
set_option maxRecDepth 100000 in
theorem mcd_42 : lw_tbl[(yP 42).1]? = some (.code (yn 42) (yc 42) (yl 42) (yr 42)) := rfl
theorem mok_42 : mOK 42 = true := by decide +kernel
set_option maxRecDepth 100000 in
theorem mcd_43 : lw_tbl[(yP 43).1]? = some (.code (yn 43) (yc 43) (yl 43) (yr 43)) := rfl
theorem mok_43 : mOK 43 = true := by decide +kernel
set_option maxRecDepth 100000 in
theorem mcd_44 : lw_tbl[(yP 44).1]? = some (.code (yn 44) (yc 44) (yl 44) (yr 44)) := rfl
theorem mok_44 : mOK 44 = true := by decide +kernel
set_option maxRecDepth 100000 in
theorem mcd_45 : lw_tbl[(yP 45).1]? = some (.code (yn 45) (yc 45) (yl 45) (yr 45)) := rfl
theorem mok_45 : mOK 45 = true := by decide +kernel
set_option maxRecDepth 100000 in
theorem mcd_46 : lw_tbl[(yP 46).1]? = some (.code (yn 46) (yc 46) (yl 46) (yr 46)) := rfl
theorem mok_46 : mOK 46 = true := by decide +kernel
set_option maxRecDepth 100000 in
theorem mcd_47 : lw_tbl[(yP 47).1]? = some (.code (yn 47) (yc 47) (yl 47) (yr 47)) := rfl
theorem mok_47 : mOK 47 = true := by decide +kernel
set_option maxRecDepth 100000 in
theorem mcd_48 : lw_tbl[(yP 48).1]? = some (.code (yn 48) (yc 48) (yl 48) (yr 48)) := rfl
theorem mok_48 : mOK 48 = true := by decide +kernel
set_option maxRecDepth 100000 in
theorem mcd_49 : lw_tbl[(yP 49).1]? = some (.code (yn 49) (yc 49) (yl 49) (yr 49)) := rfl
theorem mok_49 : mOK 49 = true := by decide +kernel
set_option maxRecDepth 100000 in
theorem mcd_50 : lw_tbl[(yP 50).1]? = some (.code (yn 50) (yc 50) (yl 50) (yr 50)) := rfl
theorem mok_50 : mOK 50 = true := by decide +kernel
set_option maxRecDepth 100000 in
theorem mcd_51 : lw_tbl[(yP 51).1]? = some (.code (yn 51) (yc 51) (yl 51) (yr 51)) := rfl
theorem mok_51 : mOK 51 = true := by decide +kernel
set_option maxRecDepth 100000 in
theorem mcd_52 : lw_tbl[(yP 52).1]? = some (.code (yn 52) (yc 52) (yl 52) (yr 52)) := rfl
theorem mok_52 : mOK 52 = true := by decide +kernel
set_option maxRecDepth 100000 in
theorem mcd_53 : lw_tbl[(yP 53).1]? = some (.code (yn 53) (yc 53) (yl 53) (yr 53)) := rfl
theorem mok_53 : mOK 53 = true := by decide +kernel
set_option maxRecDepth 100000 in
theorem mcd_54 : lw_tbl[(yP 54).1]? = some (.code (yn 54) (yc 54) (yl 54) (yr 54)) := rfl
theorem mok_54 : mOK 54 = true := by decide +kernel
set_option maxRecDepth 100000 in
theorem mcd_55 : lw_tbl[(yP 55).1]? = some (.code (yn 55) (yc 55) (yl 55) (yr 55)) := rfl
theorem mok_55 : mOK 55 = true := by decide +kernel
set_option maxRecDepth 100000 in
theorem mcd_56 : lw_tbl[(yP 56).1]? = some (.code (yn 56) (yc 56) (yl 56) (yr 56)) := rfl
theorem mok_56 : mOK 56 = true := by decide +kernel
set_option maxRecDepth 100000 in
theorem mcd_57 : lw_tbl[(yP 57).1]? = some (.code (yn 57) (yc 57) (yl 57) (yr 57)) := rfl
theorem mok_57 : mOK 57 = true := by decide +kernel
set_option maxRecDepth 100000 in
theorem mcd_58 : lw_tbl[(yP 58).1]? = some (.code (yn 58) (yc 58) (yl 58) (yr 58)) := rfl
theorem mok_58 : mOK 58 = true := by decide +kernel
set_option maxRecDepth 100000 in
theorem mcd_59 : lw_tbl[(yP 59).1]? = some (.code (yn 59) (yc 59) (yl 59) (yr 59)) := rfl
theorem mok_59 : mOK 59 = true := by decide +kernel
set_option maxRecDepth 100000 in
theorem mcd_60 : lw_tbl[(yP 60).1]? = some (.code (yn 60) (yc 60) (yl 60) (yr 60)) := rfl
theorem mok_60 : mOK 60 = true := by decide +kernel
set_option maxRecDepth 100000 in
theorem mcd_61 : lw_tbl[(yP 61).1]? = some (.code (yn 61) (yc 61) (yl 61) (yr 61)) := rfl
theorem mok_61 : mOK 61 = true := by decide +kernel
set_option maxRecDepth 100000 in
theorem mcd_62 : lw_tbl[(yP 62).1]? = some (.code (yn 62) (yc 62) (yl 62) (yr 62)) := rfl
theorem mok_62 : mOK 62 = true := by decide +kernel
set_option maxRecDepth 100000 in
theorem mcd_63 : lw_tbl[(yP 63).1]? = some (.code (yn 63) (yc 63) (yl 63) (yr 63)) := rfl
theorem mok_63 : mOK 63 = true := by decide +kernel
set_option maxRecDepth 100000 in
theorem mcd_64 : lw_tbl[(yP 64).1]? = some (.code (yn 64) (yc 64) (yl 64) (yr 64)) := rfl
theorem mok_64 : mOK 64 = true := by decide +kernel
set_option maxRecDepth 100000 in
theorem mcd_65 : lw_tbl[(yP 65).1]? = some (.code (yn 65) (yc 65) (yl 65) (yr 65)) := rfl
theorem mok_65 : mOK 65 = true := by decide +kernel
set_option maxRecDepth 100000 in
theorem mcd_66 : lw_tbl[(yP 66).1]? = some (.code (yn 66) (yc 66) (yl 66) (yr 66)) := rfl
theorem mok_66 : mOK 66 = true := by decide +kernel
set_option maxRecDepth 100000 in
theorem mcd_67 : lw_tbl[(yP 67).1]? = some (.code (yn 67) (yc 67) (yl 67) (yr 67)) := rfl
theorem mok_67 : mOK 67 = true := by decide +kernel
set_option maxRecDepth 100000 in
theorem mcd_68 : lw_tbl[(yP 68).1]? = some (.code (yn 68) (yc 68) (yl 68) (yr 68)) := rfl
theorem mok_68 : mOK 68 = true := by decide +kernel
set_option maxRecDepth 100000 in
theorem mcd_69 : lw_tbl[(yP 69).1]? = some (.code (yn 69) (yc 69) (yl 69) (yr 69)) := rfl
theorem mok_69 : mOK 69 = true := by decide +kernel
set_option maxRecDepth 100000 in
theorem mcd_70 : lw_tbl[(yP 70).1]? = some (.code (yn 70) (yc 70) (yl 70) (yr 70)) := rfl
theorem mok_70 : mOK 70 = true := by decide +kernel
set_option maxRecDepth 100000 in
theorem mcd_71 : lw_tbl[(yP 71).1]? = some (.code (yn 71) (yc 71) (yl 71) (yr 71)) := rfl
theorem mok_71 : mOK 71 = true := by decide +kernel
set_option maxRecDepth 100000 in
theorem mcd_72 : lw_tbl[(yP 72).1]? = some (.code (yn 72) (yc 72) (yl 72) (yr 72)) := rfl
theorem mok_72 : mOK 72 = true := by decide +kernel
set_option maxRecDepth 100000 in
theorem mcd_73 : lw_tbl[(yP 73).1]? = some (.code (yn 73) (yc 73) (yl 73) (yr 73)) := rfl
theorem mok_73 : mOK 73 = true := by decide +kernel
set_option maxRecDepth 100000 in
theorem mcd_74 : lw_tbl[(yP 74).1]? = some (.code (yn 74) (yc 74) (yl 74) (yr 74)) := rfl
theorem mok_74 : mOK 74 = true := by decide +kernel
set_option maxRecDepth 100000 in
theorem mcd_75 : lw_tbl[(yP 75).1]? = some (.code (yn 75) (yc 75) (yl 75) (yr 75)) := rfl
theorem mok_75 : mOK 75 = true := by decide +kernel
set_option maxRecDepth 100000 in
theorem mcd_76 : lw_tbl[(yP 76).1]? = some (.code (yn 76) (yc 76) (yl 76) (yr 76)) := rfl
theorem mok_76 : mOK 76 = true := by decide +kernel
set_option maxRecDepth 100000 in
theorem mcd_77 : lw_tbl[(yP 77).1]? = some (.code (yn 77) (yc 77) (yl 77) (yr 77)) := rfl
theorem mok_77 : mOK 77 = true := by decide +kernel
set_option maxRecDepth 100000 in
theorem mcd_78 : lw_tbl[(yP 78).1]? = some (.code (yn 78) (yc 78) (yl 78) (yr 78)) := rfl
theorem mok_78 : mOK 78 = true := by decide +kernel
set_option maxRecDepth 100000 in
theorem mcd_79 : lw_tbl[(yP 79).1]? = some (.code (yn 79) (yc 79) (yl 79) (yr 79)) := rfl
theorem mok_79 : mOK 79 = true := by decide +kernel
set_option maxRecDepth 100000 in
theorem mcd_80 : lw_tbl[(yP 80).1]? = some (.code (yn 80) (yc 80) (yl 80) (yr 80)) := rfl
theorem mok_80 : mOK 80 = true := by decide +kernel
set_option maxRecDepth 100000 in
theorem mcd_81 : lw_tbl[(yP 81).1]? = some (.code (yn 81) (yc 81) (yl 81) (yr 81)) := rfl
theorem mok_81 : mOK 81 = true := by decide +kernel
set_option maxRecDepth 100000 in
theorem mcd_82 : lw_tbl[(yP 82).1]? = some (.code (yn 82) (yc 82) (yl 82) (yr 82)) := rfl
theorem mok_82 : mOK 82 = true := by decide +kernel
set_option maxRecDepth 100000 in
theorem mcd_83 : lw_tbl[(yP 83).1]? = some (.code (yn 83) (yc 83) (yl 83) (yr 83)) := rfl
theorem mok_83 : mOK 83 = true := by decide +kernel
set_option maxRecDepth 100000 in
theorem mcd_84 : lw_tbl[(yP 84).1]? = some (.code (yn 84) (yc 84) (yl 84) (yr 84)) := rfl
theorem mok_84 : mOK 84 = true := by decide +kernel
set_option maxRecDepth 100000 in
theorem mcd_85 : lw_tbl[(yP 85).1]? = some (.code (yn 85) (yc 85) (yl 85) (yr 85)) := rfl
theorem mok_85 : mOK 85 = true := by decide +kernel
set_option maxRecDepth 100000 in
theorem mcd_86 : lw_tbl[(yP 86).1]? = some (.code (yn 86) (yc 86) (yl 86) (yr 86)) := rfl
theorem mok_86 : mOK 86 = true := by decide +kernel
set_option maxRecDepth 100000 in
theorem mcd_87 : lw_tbl[(yP 87).1]? = some (.code (yn 87) (yc 87) (yl 87) (yr 87)) := rfl
theorem mok_87 : mOK 87 = true := by decide +kernel
set_option maxRecDepth 100000 in
theorem mcd_88 : lw_tbl[(yP 88).1]? = some (.code (yn 88) (yc 88) (yl 88) (yr 88)) := rfl
theorem mok_88 : mOK 88 = true := by decide +kernel
set_option maxRecDepth 100000 in
theorem mcd_89 : lw_tbl[(yP 89).1]? = some (.code (yn 89) (yc 89) (yl 89) (yr 89)) := rfl
theorem mok_89 : mOK 89 = true := by decide +kernel
set_option maxRecDepth 100000 in
theorem mcd_90 : lw_tbl[(yP 90).1]? = some (.code (yn 90) (yc 90) (yl 90) (yr 90)) := rfl
theorem mok_90 : mOK 90 = true := by decide +kernel
set_option maxRecDepth 100000 in
theorem mcd_91 : lw_tbl[(yP 91).1]? = some (.code (yn 91) (yc 91) (yl 91) (yr 91)) := rfl
theorem mok_91 : mOK 91 = true := by decide +kernel
set_option maxRecDepth 100000 in
theorem mcd_92 : lw_tbl[(yP 92).1]? = some (.code (yn 92) (yc 92) (yl 92) (yr 92)) := rfl
theorem mok_92 : mOK 92 = true := by decide +kernel
set_option maxRecDepth 100000 in
theorem mcd_93 : lw_tbl[(yP 93).1]? = some (.code (yn 93) (yc 93) (yl 93) (yr 93)) := rfl
theorem mok_93 : mOK 93 = true := by decide +kernel
set_option maxRecDepth 100000 in
theorem mcd_94 : lw_tbl[(yP 94).1]? = some (.code (yn 94) (yc 94) (yl 94) (yr 94)) := rfl
theorem mok_94 : mOK 94 = true := by decide +kernel
set_option maxRecDepth 100000 in
theorem mcd_95 : lw_tbl[(yP 95).1]? = some (.code (yn 95) (yc 95) (yl 95) (yr 95)) := rfl
theorem mok_95 : mOK 95 = true := by decide +kernel
set_option maxRecDepth 100000 in
theorem mcd_96 : lw_tbl[(yP 96).1]? = some (.code (yn 96) (yc 96) (yl 96) (yr 96)) := rfl
theorem mok_96 : mOK 96 = true := by decide +kernel
set_option maxRecDepth 100000 in
theorem mcd_97 : lw_tbl[(yP 97).1]? = some (.code (yn 97) (yc 97) (yl 97) (yr 97)) := rfl
theorem mok_97 : mOK 97 = true := by decide +kernel
set_option maxRecDepth 100000 in
theorem mcd_98 : lw_tbl[(yP 98).1]? = some (.code (yn 98) (yc 98) (yl 98) (yr 98)) := rfl
theorem mok_98 : mOK 98 = true := by decide +kernel
set_option maxRecDepth 100000 in
theorem mcd_99 : lw_tbl[(yP 99).1]? = some (.code (yn 99) (yc 99) (yl 99) (yr 99)) := rfl
theorem mok_99 : mOK 99 = true := by decide +kernel
set_option maxRecDepth 100000 in
theorem mcd_101 : lw_tbl[(yP 101).1]? = some (.code (yn 101) (yc 101) (yl 101) (yr 101)) := rfl
theorem mok_101 : mOK 101 = true := by decide +kernel
set_option maxRecDepth 100000 in
theorem mcd_102 : lw_tbl[(yP 102).1]? = some (.code (yn 102) (yc 102) (yl 102) (yr 102)) := rfl
theorem mok_102 : mOK 102 = true := by decide +kernel
set_option maxRecDepth 100000 in
theorem mcd_103 : lw_tbl[(yP 103).1]? = some (.code (yn 103) (yc 103) (yl 103) (yr 103)) := rfl
theorem mok_103 : mOK 103 = true := by decide +kernel
set_option maxRecDepth 100000 in
theorem mcd_104 : lw_tbl[(yP 104).1]? = some (.code (yn 104) (yc 104) (yl 104) (yr 104)) := rfl
theorem mok_104 : mOK 104 = true := by decide +kernel
set_option maxRecDepth 100000 in
theorem mcd_105 : lw_tbl[(yP 105).1]? = some (.code (yn 105) (yc 105) (yl 105) (yr 105)) := rfl
theorem mok_105 : mOK 105 = true := by decide +kernel
set_option maxRecDepth 100000 in
theorem mcd_106 : lw_tbl[(yP 106).1]? = some (.code (yn 106) (yc 106) (yl 106) (yr 106)) := rfl
theorem mok_106 : mOK 106 = true := by decide +kernel
set_option maxRecDepth 100000 in
theorem mcd_107 : lw_tbl[(yP 107).1]? = some (.code (yn 107) (yc 107) (yl 107) (yr 107)) := rfl
theorem mok_107 : mOK 107 = true := by decide +kernel
set_option maxRecDepth 100000 in
theorem mcd_108 : lw_tbl[(yP 108).1]? = some (.code (yn 108) (yc 108) (yl 108) (yr 108)) := rfl
theorem mok_108 : mOK 108 = true := by decide +kernel
set_option maxRecDepth 100000 in
theorem mcd_109 : lw_tbl[(yP 109).1]? = some (.code (yn 109) (yc 109) (yl 109) (yr 109)) := rfl
theorem mok_109 : mOK 109 = true := by decide +kernel
set_option maxRecDepth 100000 in
theorem mcd_110 : lw_tbl[(yP 110).1]? = some (.code (yn 110) (yc 110) (yl 110) (yr 110)) := rfl
theorem mok_110 : mOK 110 = true := by decide +kernel
set_option maxRecDepth 100000 in
theorem mcd_111 : lw_tbl[(yP 111).1]? = some (.code (yn 111) (yc 111) (yl 111) (yr 111)) := rfl
theorem mok_111 : mOK 111 = true := by decide +kernel
set_option maxRecDepth 100000 in
theorem mcd_112 : lw_tbl[(yP 112).1]? = some (.code (yn 112) (yc 112) (yl 112) (yr 112)) := rfl
theorem mok_112 : mOK 112 = true := by decide +kernel
set_option maxRecDepth 100000 in
theorem mcd_113 : lw_tbl[(yP 113).1]? = some (.code (yn 113) (yc 113) (yl 113) (yr 113)) := rfl
theorem mok_113 : mOK 113 = true := by decide +kernel
set_option maxRecDepth 100000 in
theorem mcd_114 : lw_tbl[(yP 114).1]? = some (.code (yn 114) (yc 114) (yl 114) (yr 114)) := rfl
theorem mok_114 : mOK 114 = true := by decide +kernel
set_option maxRecDepth 100000 in
theorem mcd_115 : lw_tbl[(yP 115).1]? = some (.code (yn 115) (yc 115) (yl 115) (yr 115)) := rfl
theorem mok_115 : mOK 115 = true := by decide +kernel
set_option maxRecDepth 100000 in
theorem mcd_116 : lw_tbl[(yP 116).1]? = some (.code (yn 116) (yc 116) (yl 116) (yr 116)) := rfl
theorem mok_116 : mOK 116 = true := by decide +kernel
set_option maxRecDepth 100000 in
theorem mcd_117 : lw_tbl[(yP 117).1]? = some (.code (yn 117) (yc 117) (yl 117) (yr 117)) := rfl
theorem mok_117 : mOK 117 = true := by decide +kernel
set_option maxRecDepth 100000 in
theorem mcd_118 : lw_tbl[(yP 118).1]? = some (.code (yn 118) (yc 118) (yl 118) (yr 118)) := rfl
theorem mok_118 : mOK 118 = true := by decide +kernel
set_option maxRecDepth 100000 in
theorem mcd_119 : lw_tbl[(yP 119).1]? = some (.code (yn 119) (yc 119) (yl 119) (yr 119)) := rfl
theorem mok_119 : mOK 119 = true := by decide +kernel
set_option maxRecDepth 100000 in
theorem mcd_120 : lw_tbl[(yP 120).1]? = some (.code (yn 120) (yc 120) (yl 120) (yr 120)) := rfl
theorem mok_120 : mOK 120 = true := by decide +kernel
set_option maxRecDepth 100000 in
theorem mcd_121 : lw_tbl[(yP 121).1]? = some (.code (yn 121) (yc 121) (yl 121) (yr 121)) := rfl
theorem mok_121 : mOK 121 = true := by decide +kernel
set_option maxRecDepth 100000 in
theorem mcd_122 : lw_tbl[(yP 122).1]? = some (.code (yn 122) (yc 122) (yl 122) (yr 122)) := rfl
theorem mok_122 : mOK 122 = true := by decide +kernel
set_option maxRecDepth 100000 in
theorem mcd_123 : lw_tbl[(yP 123).1]? = some (.code (yn 123) (yc 123) (yl 123) (yr 123)) := rfl
theorem mok_123 : mOK 123 = true := by decide +kernel
set_option maxRecDepth 100000 in
theorem mcd_124 : lw_tbl[(yP 124).1]? = some (.code (yn 124) (yc 124) (yl 124) (yr 124)) := rfl
theorem mok_124 : mOK 124 = true := by decide +kernel
set_option maxRecDepth 100000 in
theorem mcd_125 : lw_tbl[(yP 125).1]? = some (.code (yn 125) (yc 125) (yl 125) (yr 125)) := rfl
theorem mok_125 : mOK 125 = true := by decide +kernel
set_option maxRecDepth 100000 in
theorem mcd_126 : lw_tbl[(yP 126).1]? = some (.code (yn 126) (yc 126) (yl 126) (yr 126)) := rfl
theorem mok_126 : mOK 126 = true := by decide +kernel
set_option maxRecDepth 100000 in
theorem mcd_127 : lw_tbl[(yP 127).1]? = some (.code (yn 127) (yc 127) (yl 127) (yr 127)) := rfl
theorem mok_127 : mOK 127 = true := by decide +kernel
set_option maxRecDepth 100000 in
theorem mcd_128 : lw_tbl[(yP 128).1]? = some (.code (yn 128) (yc 128) (yl 128) (yr 128)) := rfl
theorem mok_128 : mOK 128 = true := by decide +kernel
set_option maxRecDepth 100000 in
theorem mcd_129 : lw_tbl[(yP 129).1]? = some (.code (yn 129) (yc 129) (yl 129) (yr 129)) := rfl
theorem mok_129 : mOK 129 = true := by decide +kernel
set_option maxRecDepth 100000 in
theorem mcd_130 : lw_tbl[(yP 130).1]? = some (.code (yn 130) (yc 130) (yl 130) (yr 130)) := rfl
theorem mok_130 : mOK 130 = true := by decide +kernel
set_option maxRecDepth 100000 in
theorem mcd_131 : lw_tbl[(yP 131).1]? = some (.code (yn 131) (yc 131) (yl 131) (yr 131)) := rfl
theorem mok_131 : mOK 131 = true := by decide +kernel
set_option maxRecDepth 100000 in
theorem mcd_132 : lw_tbl[(yP 132).1]? = some (.code (yn 132) (yc 132) (yl 132) (yr 132)) := rfl
theorem mok_132 : mOK 132 = true := by decide +kernel
set_option maxRecDepth 100000 in
theorem mcd_133 : lw_tbl[(yP 133).1]? = some (.code (yn 133) (yc 133) (yl 133) (yr 133)) := rfl
theorem mok_133 : mOK 133 = true := by decide +kernel
set_option maxRecDepth 100000 in
theorem mcd_134 : lw_tbl[(yP 134).1]? = some (.code (yn 134) (yc 134) (yl 134) (yr 134)) := rfl
theorem mok_134 : mOK 134 = true := by decide +kernel
set_option maxRecDepth 100000 in
theorem mcd_135 : lw_tbl[(yP 135).1]? = some (.code (yn 135) (yc 135) (yl 135) (yr 135)) := rfl
theorem mok_135 : mOK 135 = true := by decide +kernel
set_option maxRecDepth 100000 in
theorem mcd_136 : lw_tbl[(yP 136).1]? = some (.code (yn 136) (yc 136) (yl 136) (yr 136)) := rfl
theorem mok_136 : mOK 136 = true := by decide +kernel
set_option maxRecDepth 100000 in
theorem mcd_137 : lw_tbl[(yP 137).1]? = some (.code (yn 137) (yc 137) (yl 137) (yr 137)) := rfl
theorem mok_137 : mOK 137 = true := by decide +kernel
set_option maxRecDepth 100000 in
theorem mcd_138 : lw_tbl[(yP 138).1]? = some (.code (yn 138) (yc 138) (yl 138) (yr 138)) := rfl
theorem mok_138 : mOK 138 = true := by decide +kernel
set_option maxRecDepth 100000 in
theorem mcd_139 : lw_tbl[(yP 139).1]? = some (.code (yn 139) (yc 139) (yl 139) (yr 139)) := rfl
theorem mok_139 : mOK 139 = true := by decide +kernel
set_option maxRecDepth 100000 in
theorem mcd_140 : lw_tbl[(yP 140).1]? = some (.code (yn 140) (yc 140) (yl 140) (yr 140)) := rfl
theorem mok_140 : mOK 140 = true := by decide +kernel
set_option maxRecDepth 100000 in
theorem mcd_141 : lw_tbl[(yP 141).1]? = some (.code (yn 141) (yc 141) (yl 141) (yr 141)) := rfl
theorem mok_141 : mOK 141 = true := by decide +kernel
set_option maxRecDepth 100000 in
theorem mcd_142 : lw_tbl[(yP 142).1]? = some (.code (yn 142) (yc 142) (yl 142) (yr 142)) := rfl
theorem mok_142 : mOK 142 = true := by decide +kernel
set_option maxRecDepth 100000 in
theorem mcd_143 : lw_tbl[(yP 143).1]? = some (.code (yn 143) (yc 143) (yl 143) (yr 143)) := rfl
theorem mok_143 : mOK 143 = true := by decide +kernel
set_option maxRecDepth 100000 in
theorem mcd_144 : lw_tbl[(yP 144).1]? = some (.code (yn 144) (yc 144) (yl 144) (yr 144)) := rfl
theorem mok_144 : mOK 144 = true := by decide +kernel
set_option maxRecDepth 100000 in
theorem mcd_145 : lw_tbl[(yP 145).1]? = some (.code (yn 145) (yc 145) (yl 145) (yr 145)) := rfl
theorem mok_145 : mOK 145 = true := by decide +kernel
set_option maxRecDepth 100000 in
theorem mcd_146 : lw_tbl[(yP 146).1]? = some (.code (yn 146) (yc 146) (yl 146) (yr 146)) := rfl
theorem mok_146 : mOK 146 = true := by decide +kernel
set_option maxRecDepth 100000 in
theorem mcd_147 : lw_tbl[(yP 147).1]? = some (.code (yn 147) (yc 147) (yl 147) (yr 147)) := rfl
theorem mok_147 : mOK 147 = true := by decide +kernel
set_option maxRecDepth 100000 in
theorem mcd_148 : lw_tbl[(yP 148).1]? = some (.code (yn 148) (yc 148) (yl 148) (yr 148)) := rfl
theorem mok_148 : mOK 148 = true := by decide +kernel
set_option maxRecDepth 100000 in
theorem mcd_149 : lw_tbl[(yP 149).1]? = some (.code (yn 149) (yc 149) (yl 149) (yr 149)) := rfl
theorem mok_149 : mOK 149 = true := by decide +kernel
set_option maxRecDepth 100000 in
theorem mcd_150 : lw_tbl[(yP 150).1]? = some (.code (yn 150) (yc 150) (yl 150) (yr 150)) := rfl
theorem mok_150 : mOK 150 = true := by decide +kernel
set_option maxRecDepth 100000 in
theorem mcd_151 : lw_tbl[(yP 151).1]? = some (.code (yn 151) (yc 151) (yl 151) (yr 151)) := rfl
theorem mok_151 : mOK 151 = true := by decide +kernel
set_option maxRecDepth 100000 in
theorem mcd_152 : lw_tbl[(yP 152).1]? = some (.code (yn 152) (yc 152) (yl 152) (yr 152)) := rfl
theorem mok_152 : mOK 152 = true := by decide +kernel
set_option maxRecDepth 100000 in
theorem mcd_153 : lw_tbl[(yP 153).1]? = some (.code (yn 153) (yc 153) (yl 153) (yr 153)) := rfl
theorem mok_153 : mOK 153 = true := by decide +kernel
set_option maxRecDepth 100000 in
theorem mcd_154 : lw_tbl[(yP 154).1]? = some (.code (yn 154) (yc 154) (yl 154) (yr 154)) := rfl
theorem mok_154 : mOK 154 = true := by decide +kernel
set_option maxRecDepth 100000 in
theorem mcd_155 : lw_tbl[(yP 155).1]? = some (.code (yn 155) (yc 155) (yl 155) (yr 155)) := rfl
theorem mok_155 : mOK 155 = true := by decide +kernel
set_option maxRecDepth 100000 in
theorem mcd_156 : lw_tbl[(yP 156).1]? = some (.code (yn 156) (yc 156) (yl 156) (yr 156)) := rfl
theorem mok_156 : mOK 156 = true := by decide +kernel
set_option maxRecDepth 100000 in
theorem mcd_157 : lw_tbl[(yP 157).1]? = some (.code (yn 157) (yc 157) (yl 157) (yr 157)) := rfl
theorem mok_157 : mOK 157 = true := by decide +kernel
set_option maxRecDepth 100000 in
theorem mcd_158 : lw_tbl[(yP 158).1]? = some (.code (yn 158) (yc 158) (yl 158) (yr 158)) := rfl
theorem mok_158 : mOK 158 = true := by decide +kernel
set_option maxRecDepth 100000 in
theorem mcd_159 : lw_tbl[(yP 159).1]? = some (.code (yn 159) (yc 159) (yl 159) (yr 159)) := rfl
theorem mok_159 : mOK 159 = true := by decide +kernel
set_option maxRecDepth 100000 in
theorem mcd_160 : lw_tbl[(yP 160).1]? = some (.code (yn 160) (yc 160) (yl 160) (yr 160)) := rfl
theorem mok_160 : mOK 160 = true := by decide +kernel
set_option maxRecDepth 100000 in
theorem mcd_161 : lw_tbl[(yP 161).1]? = some (.code (yn 161) (yc 161) (yl 161) (yr 161)) := rfl
theorem mok_161 : mOK 161 = true := by decide +kernel
set_option maxRecDepth 100000 in
theorem mcd_162 : lw_tbl[(yP 162).1]? = some (.code (yn 162) (yc 162) (yl 162) (yr 162)) := rfl
theorem mok_162 : mOK 162 = true := by decide +kernel
set_option maxRecDepth 100000 in
theorem mcd_163 : lw_tbl[(yP 163).1]? = some (.code (yn 163) (yc 163) (yl 163) (yr 163)) := rfl
theorem mok_163 : mOK 163 = true := by decide +kernel
set_option maxRecDepth 100000 in
theorem mcd_164 : lw_tbl[(yP 164).1]? = some (.code (yn 164) (yc 164) (yl 164) (yr 164)) := rfl
theorem mok_164 : mOK 164 = true := by decide +kernel
set_option maxRecDepth 100000 in
theorem mcd_165 : lw_tbl[(yP 165).1]? = some (.code (yn 165) (yc 165) (yl 165) (yr 165)) := rfl
theorem mok_165 : mOK 165 = true := by decide +kernel
set_option maxRecDepth 100000 in
theorem mcd_166 : lw_tbl[(yP 166).1]? = some (.code (yn 166) (yc 166) (yl 166) (yr 166)) := rfl
theorem mok_166 : mOK 166 = true := by decide +kernel
set_option maxRecDepth 100000 in
theorem mcd_167 : lw_tbl[(yP 167).1]? = some (.code (yn 167) (yc 167) (yl 167) (yr 167)) := rfl
theorem mok_167 : mOK 167 = true := by decide +kernel
set_option maxRecDepth 100000 in
theorem mcd_168 : lw_tbl[(yP 168).1]? = some (.code (yn 168) (yc 168) (yl 168) (yr 168)) := rfl
theorem mok_168 : mOK 168 = true := by decide +kernel
set_option maxRecDepth 100000 in
theorem mcd_169 : lw_tbl[(yP 169).1]? = some (.code (yn 169) (yc 169) (yl 169) (yr 169)) := rfl
theorem mok_169 : mOK 169 = true := by decide +kernel
set_option maxRecDepth 100000 in
theorem mcd_170 : lw_tbl[(yP 170).1]? = some (.code (yn 170) (yc 170) (yl 170) (yr 170)) := rfl
theorem mok_170 : mOK 170 = true := by decide +kernel
set_option maxRecDepth 100000 in
theorem mcd_171 : lw_tbl[(yP 171).1]? = some (.code (yn 171) (yc 171) (yl 171) (yr 171)) := rfl
theorem mok_171 : mOK 171 = true := by decide +kernel
set_option maxRecDepth 100000 in
theorem mcd_172 : lw_tbl[(yP 172).1]? = some (.code (yn 172) (yc 172) (yl 172) (yr 172)) := rfl
theorem mok_172 : mOK 172 = true := by decide +kernel
set_option maxRecDepth 100000 in
theorem mcd_173 : lw_tbl[(yP 173).1]? = some (.code (yn 173) (yc 173) (yl 173) (yr 173)) := rfl
theorem mok_173 : mOK 173 = true := by decide +kernel
set_option maxRecDepth 100000 in
theorem mcd_174 : lw_tbl[(yP 174).1]? = some (.code (yn 174) (yc 174) (yl 174) (yr 174)) := rfl
theorem mok_174 : mOK 174 = true := by decide +kernel
set_option maxRecDepth 100000 in
theorem mcd_175 : lw_tbl[(yP 175).1]? = some (.code (yn 175) (yc 175) (yl 175) (yr 175)) := rfl
theorem mok_175 : mOK 175 = true := by decide +kernel
set_option maxRecDepth 100000 in
theorem mcd_176 : lw_tbl[(yP 176).1]? = some (.code (yn 176) (yc 176) (yl 176) (yr 176)) := rfl
theorem mok_176 : mOK 176 = true := by decide +kernel
set_option maxRecDepth 100000 in
theorem mcd_177 : lw_tbl[(yP 177).1]? = some (.code (yn 177) (yc 177) (yl 177) (yr 177)) := rfl
theorem mok_177 : mOK 177 = true := by decide +kernel
set_option maxRecDepth 100000 in
theorem mcd_178 : lw_tbl[(yP 178).1]? = some (.code (yn 178) (yc 178) (yl 178) (yr 178)) := rfl
theorem mok_178 : mOK 178 = true := by decide +kernel
set_option maxRecDepth 100000 in
theorem mcd_179 : lw_tbl[(yP 179).1]? = some (.code (yn 179) (yc 179) (yl 179) (yr 179)) := rfl
theorem mok_179 : mOK 179 = true := by decide +kernel
set_option maxRecDepth 100000 in
theorem mcd_180 : lw_tbl[(yP 180).1]? = some (.code (yn 180) (yc 180) (yl 180) (yr 180)) := rfl
theorem mok_180 : mOK 180 = true := by decide +kernel
set_option maxRecDepth 100000 in
theorem mcd_181 : lw_tbl[(yP 181).1]? = some (.code (yn 181) (yc 181) (yl 181) (yr 181)) := rfl
theorem mok_181 : mOK 181 = true := by decide +kernel
set_option maxRecDepth 100000 in
theorem mcd_182 : lw_tbl[(yP 182).1]? = some (.code (yn 182) (yc 182) (yl 182) (yr 182)) := rfl
theorem mok_182 : mOK 182 = true := by decide +kernel
set_option maxRecDepth 100000 in
theorem mcd_183 : lw_tbl[(yP 183).1]? = some (.code (yn 183) (yc 183) (yl 183) (yr 183)) := rfl
theorem mok_183 : mOK 183 = true := by decide +kernel
set_option maxRecDepth 100000 in
theorem mcd_184 : lw_tbl[(yP 184).1]? = some (.code (yn 184) (yc 184) (yl 184) (yr 184)) := rfl
theorem mok_184 : mOK 184 = true := by decide +kernel
set_option maxRecDepth 100000 in
theorem mcd_185 : lw_tbl[(yP 185).1]? = some (.code (yn 185) (yc 185) (yl 185) (yr 185)) := rfl
theorem mok_185 : mOK 185 = true := by decide +kernel
set_option maxRecDepth 100000 in
theorem mcd_186 : lw_tbl[(yP 186).1]? = some (.code (yn 186) (yc 186) (yl 186) (yr 186)) := rfl
theorem mok_186 : mOK 186 = true := by decide +kernel
set_option maxRecDepth 100000 in
theorem mcd_187 : lw_tbl[(yP 187).1]? = some (.code (yn 187) (yc 187) (yl 187) (yr 187)) := rfl
theorem mok_187 : mOK 187 = true := by decide +kernel
set_option maxRecDepth 100000 in
theorem mcd_188 : lw_tbl[(yP 188).1]? = some (.code (yn 188) (yc 188) (yl 188) (yr 188)) := rfl
theorem mok_188 : mOK 188 = true := by decide +kernel
set_option maxRecDepth 100000 in
theorem mcd_189 : lw_tbl[(yP 189).1]? = some (.code (yn 189) (yc 189) (yl 189) (yr 189)) := rfl
theorem mok_189 : mOK 189 = true := by decide +kernel
set_option maxRecDepth 100000 in
theorem mcd_190 : lw_tbl[(yP 190).1]? = some (.code (yn 190) (yc 190) (yl 190) (yr 190)) := rfl
theorem mok_190 : mOK 190 = true := by decide +kernel
set_option maxRecDepth 100000 in
theorem mcd_191 : lw_tbl[(yP 191).1]? = some (.code (yn 191) (yc 191) (yl 191) (yr 191)) := rfl
theorem mok_191 : mOK 191 = true := by decide +kernel
set_option maxRecDepth 100000 in
theorem mcd_192 : lw_tbl[(yP 192).1]? = some (.code (yn 192) (yc 192) (yl 192) (yr 192)) := rfl
theorem mok_192 : mOK 192 = true := by decide +kernel
set_option maxRecDepth 100000 in
theorem mcd_193 : lw_tbl[(yP 193).1]? = some (.code (yn 193) (yc 193) (yl 193) (yr 193)) := rfl
theorem mok_193 : mOK 193 = true := by decide +kernel
set_option maxRecDepth 100000 in
theorem mcd_194 : lw_tbl[(yP 194).1]? = some (.code (yn 194) (yc 194) (yl 194) (yr 194)) := rfl
theorem mok_194 : mOK 194 = true := by decide +kernel
set_option maxRecDepth 100000 in
theorem mcd_195 : lw_tbl[(yP 195).1]? = some (.code (yn 195) (yc 195) (yl 195) (yr 195)) := rfl
theorem mok_195 : mOK 195 = true := by decide +kernel
set_option maxRecDepth 100000 in
theorem mcd_196 : lw_tbl[(yP 196).1]? = some (.code (yn 196) (yc 196) (yl 196) (yr 196)) := rfl
theorem mok_196 : mOK 196 = true := by decide +kernel
set_option maxRecDepth 100000 in
theorem mcd_197 : lw_tbl[(yP 197).1]? = some (.code (yn 197) (yc 197) (yl 197) (yr 197)) := rfl
theorem mok_197 : mOK 197 = true := by decide +kernel
set_option maxRecDepth 100000 in
theorem mcd_198 : lw_tbl[(yP 198).1]? = some (.code (yn 198) (yc 198) (yl 198) (yr 198)) := rfl
theorem mok_198 : mOK 198 = true := by decide +kernel
set_option maxRecDepth 100000 in
theorem mcd_199 : lw_tbl[(yP 199).1]? = some (.code (yn 199) (yc 199) (yl 199) (yr 199)) := rfl
theorem mok_199 : mOK 199 = true := by decide +kernel
set_option maxRecDepth 100000 in
theorem mcd_200 : lw_tbl[(yP 200).1]? = some (.code (yn 200) (yc 200) (yl 200) (yr 200)) := rfl
theorem mok_200 : mOK 200 = true := by decide +kernel
set_option maxRecDepth 100000 in
theorem mcd_201 : lw_tbl[(yP 201).1]? = some (.code (yn 201) (yc 201) (yl 201) (yr 201)) := rfl
theorem mok_201 : mOK 201 = true := by decide +kernel
set_option maxRecDepth 100000 in
theorem mcd_202 : lw_tbl[(yP 202).1]? = some (.code (yn 202) (yc 202) (yl 202) (yr 202)) := rfl
theorem mok_202 : mOK 202 = true := by decide +kernel
set_option maxRecDepth 100000 in
theorem mcd_203 : lw_tbl[(yP 203).1]? = some (.code (yn 203) (yc 203) (yl 203) (yr 203)) := rfl
theorem mok_203 : mOK 203 = true := by decide +kernel
set_option maxRecDepth 100000 in
theorem mcd_204 : lw_tbl[(yP 204).1]? = some (.code (yn 204) (yc 204) (yl 204) (yr 204)) := rfl
theorem mok_204 : mOK 204 = true := by decide +kernel
set_option maxRecDepth 100000 in
theorem mcd_205 : lw_tbl[(yP 205).1]? = some (.code (yn 205) (yc 205) (yl 205) (yr 205)) := rfl
theorem mok_205 : mOK 205 = true := by decide +kernel
set_option maxRecDepth 100000 in
theorem mcd_206 : lw_tbl[(yP 206).1]? = some (.code (yn 206) (yc 206) (yl 206) (yr 206)) := rfl
theorem mok_206 : mOK 206 = true := by decide +kernel
set_option maxRecDepth 100000 in
theorem mcd_207 : lw_tbl[(yP 207).1]? = some (.code (yn 207) (yc 207) (yl 207) (yr 207)) := rfl
theorem mok_207 : mOK 207 = true := by decide +kernel
