/-! ===== the codes are the bytes ===== -/
theorem all_cut {α : Type} {p : α → Bool} (l : List α) (k : Nat) (h1 : (l.take k).all p = true) (h2 : (l.drop k).all p = true) : l.all p = true := by
  rw [← List.take_append_drop k l, List.all_append, h1, h2]
  rfl
def ckop (y : Nat) (e : Nat × Op) : Bool := decide (decode (mB y) e.1 = .ok (ins e.1 e.2)) && lkop y e.2
theorem ck_0 : (C_0).all (ckop 0) = true := by decide +kernel
theorem ck_1 : (C_1).all (ckop 1) = true := by decide +kernel
theorem ck_2 : (C_2).all (ckop 2) = true := by decide +kernel
theorem ck_3 : (C_3).all (ckop 3) = true := by decide +kernel
theorem ck_4 : (C_4).all (ckop 4) = true := by decide +kernel
theorem ck_5 : (C_5).all (ckop 5) = true := by decide +kernel
theorem ck_6 : (C_6).all (ckop 6) = true := by decide +kernel
theorem ck_7 : (C_7).all (ckop 7) = true := by decide +kernel
theorem ck_8 : (C_8).all (ckop 8) = true := by decide +kernel
theorem ck_9 : (C_9).all (ckop 9) = true := by decide +kernel
theorem ck_10 : (C_10).all (ckop 10) = true := by decide +kernel
theorem ck_11 : (C_11).all (ckop 11) = true := by decide +kernel
theorem ck_12 : (C_12).all (ckop 12) = true := by decide +kernel
theorem ck_13 : (C_13).all (ckop 13) = true := by decide +kernel
theorem ck_14 : (C_14).all (ckop 14) = true := by decide +kernel
theorem ck_15 : (C_15).all (ckop 15) = true := by decide +kernel
theorem ck_16 : (C_16).all (ckop 16) = true := by decide +kernel
theorem ck_17 : (C_17).all (ckop 17) = true := by decide +kernel
theorem ck_18 : (C_18).all (ckop 18) = true := by decide +kernel
theorem ck_19 : (C_19).all (ckop 19) = true := by decide +kernel
theorem ck_20 : (C_20).all (ckop 20) = true := by decide +kernel
theorem ck_21 : (C_21).all (ckop 21) = true := by decide +kernel
theorem ck_22 : (C_22).all (ckop 22) = true := by decide +kernel
theorem ck_23 : (C_23).all (ckop 23) = true := by decide +kernel
theorem ck_24 : (C_24).all (ckop 24) = true := by decide +kernel
theorem ck_25 : (C_25).all (ckop 25) = true := by decide +kernel
theorem ck_26 : (C_26).all (ckop 26) = true := by decide +kernel
theorem ck_27 : (C_27).all (ckop 27) = true := by decide +kernel
theorem ck_28 : (C_28).all (ckop 28) = true := by decide +kernel
theorem ck_29 : (C_29).all (ckop 29) = true := by decide +kernel
theorem ck_30 : (C_30).all (ckop 30) = true := by decide +kernel
theorem ck_31 : (C_31).all (ckop 31) = true := by decide +kernel
theorem ck_32 : (C_32).all (ckop 32) = true := by decide +kernel
theorem ck_33 : (C_33).all (ckop 33) = true := by decide +kernel
theorem ck_34 : (C_34).all (ckop 34) = true := by decide +kernel
theorem ck_35 : (C_35).all (ckop 35) = true := by decide +kernel
theorem ck_36 : (C_36).all (ckop 36) = true := by decide +kernel
theorem ck_37 : (C_37).all (ckop 37) = true := by decide +kernel
theorem ck_38 : (C_38).all (ckop 38) = true := by decide +kernel
theorem ck_39 : (C_39).all (ckop 39) = true := by decide +kernel
theorem ck_40 : (C_40).all (ckop 40) = true := by decide +kernel
theorem ck_41 : (C_41).all (ckop 41) = true := by decide +kernel
theorem ck_42 : (C_42).all (ckop 42) = true := by decide +kernel
theorem ck_43 : (C_43).all (ckop 43) = true := by decide +kernel
theorem ck_44 : (C_44).all (ckop 44) = true := by decide +kernel
theorem ck_45 : (C_45).all (ckop 45) = true := by decide +kernel
theorem ck_46 : (C_46).all (ckop 46) = true := by decide +kernel
theorem ck_47 : (C_47).all (ckop 47) = true := by decide +kernel
theorem ck_48 : (C_48).all (ckop 48) = true := by decide +kernel
theorem ck_49 : (C_49).all (ckop 49) = true := by decide +kernel
theorem ck_50 : (C_50).all (ckop 50) = true := by decide +kernel
theorem ck_51 : (C_51).all (ckop 51) = true := by decide +kernel
theorem ck_52 : (C_52).all (ckop 52) = true := by decide +kernel
theorem ck_53 : (C_53).all (ckop 53) = true := by decide +kernel
theorem ck_54 : (C_54).all (ckop 54) = true := by decide +kernel
theorem ck_55 : (C_55).all (ckop 55) = true := by decide +kernel
theorem ck_56 : (C_56).all (ckop 56) = true := by decide +kernel
theorem ck_57 : (C_57).all (ckop 57) = true := by decide +kernel
theorem ck_58 : (C_58).all (ckop 58) = true := by decide +kernel
theorem ck_59 : (C_59).all (ckop 59) = true := by decide +kernel
theorem ck_60 : (C_60).all (ckop 60) = true := by decide +kernel
theorem ck_61 : (C_61).all (ckop 61) = true := by decide +kernel
theorem ck_62 : (C_62).all (ckop 62) = true := by decide +kernel
theorem ck_63 : (C_63).all (ckop 63) = true := by decide +kernel
theorem ck_64 : (C_64).all (ckop 64) = true := by decide +kernel
theorem ck_65 : (C_65).all (ckop 65) = true := by decide +kernel
theorem ck_66 : (C_66).all (ckop 66) = true := by decide +kernel
theorem ck_67 : (C_67).all (ckop 67) = true := by decide +kernel
theorem ck_68 : (C_68).all (ckop 68) = true := by decide +kernel
theorem ck_69 : (C_69).all (ckop 69) = true := by decide +kernel
theorem ck_70 : (C_70).all (ckop 70) = true := by decide +kernel
theorem ck_71 : (C_71).all (ckop 71) = true := by decide +kernel
theorem ck_72 : (C_72).all (ckop 72) = true := by decide +kernel
theorem ck_73 : (C_73).all (ckop 73) = true := by decide +kernel
theorem ck_74 : (C_74).all (ckop 74) = true := by decide +kernel
theorem ck_75 : (C_75).all (ckop 75) = true := by decide +kernel
theorem ck_76 : (C_76).all (ckop 76) = true := by decide +kernel
theorem ck_77 : (C_77).all (ckop 77) = true := by decide +kernel
theorem ck_78 : (C_78).all (ckop 78) = true := by decide +kernel
theorem ck_79 : (C_79).all (ckop 79) = true := by decide +kernel
theorem ck_80 : (C_80).all (ckop 80) = true := by decide +kernel
theorem ck_81 : (C_81).all (ckop 81) = true := by decide +kernel
theorem ck_82 : (C_82).all (ckop 82) = true := by decide +kernel
theorem ck_83 : (C_83).all (ckop 83) = true := by decide +kernel
theorem ck_84 : (C_84).all (ckop 84) = true := by decide +kernel
theorem ck_85 : (C_85).all (ckop 85) = true := by decide +kernel
theorem ck_86 : (C_86).all (ckop 86) = true := by decide +kernel
theorem ck_87 : (C_87).all (ckop 87) = true := by decide +kernel
theorem ck_88 : (C_88).all (ckop 88) = true := by decide +kernel
theorem ck_89 : (C_89).all (ckop 89) = true := by decide +kernel
theorem ck_90 : (C_90).all (ckop 90) = true := by decide +kernel
theorem ck_91 : (C_91).all (ckop 91) = true := by decide +kernel
theorem ck_92 : (C_92).all (ckop 92) = true := by decide +kernel
theorem ck_93 : (C_93).all (ckop 93) = true := by decide +kernel
theorem ck_94 : (C_94).all (ckop 94) = true := by decide +kernel
theorem ck_95 : (C_95).all (ckop 95) = true := by decide +kernel
theorem ck_96 : (C_96).all (ckop 96) = true := by decide +kernel
theorem ck_97 : (C_97).all (ckop 97) = true := by decide +kernel
theorem ck_98 : (C_98).all (ckop 98) = true := by decide +kernel
theorem ck_99 : (C_99).all (ckop 99) = true := by decide +kernel
theorem ck_100 : (C_100).all (ckop 100) = true := by decide +kernel
theorem ck_101 : (C_101).all (ckop 101) = true := by decide +kernel
theorem ck_102 : (C_102).all (ckop 102) = true := by decide +kernel
theorem ck_103 : (C_103).all (ckop 103) = true := by decide +kernel
theorem ck_104 : (C_104).all (ckop 104) = true := by decide +kernel
theorem ck_105 : (C_105).all (ckop 105) = true := by decide +kernel
theorem ck_106 : (C_106).all (ckop 106) = true := by decide +kernel
theorem ck_107 : (C_107).all (ckop 107) = true := by decide +kernel
theorem ck_108 : (C_108).all (ckop 108) = true := by decide +kernel
theorem ck_109 : (C_109).all (ckop 109) = true := by decide +kernel
theorem ck_110 : (C_110).all (ckop 110) = true := by decide +kernel
theorem ck_111 : (C_111).all (ckop 111) = true := by decide +kernel
theorem ck_112 : (C_112).all (ckop 112) = true := by decide +kernel
theorem ck_113 : (C_113).all (ckop 113) = true := by decide +kernel
theorem ck_114_0 : ((C_114).take 100).all (ckop 114) = true := by decide +kernel
theorem ck_114_1 : ((C_114).drop 100).all (ckop 114) = true := by decide +kernel
theorem ck_114 : (C_114).all (ckop 114) = true := all_cut _ 100 ck_114_0 (ck_114_1)
theorem ck_115 : (C_115).all (ckop 115) = true := by decide +kernel
theorem ck_116 : (C_116).all (ckop 116) = true := by decide +kernel
theorem ck_117 : (C_117).all (ckop 117) = true := by decide +kernel
theorem ck_118 : (C_118).all (ckop 118) = true := by decide +kernel
theorem ck_119 : (C_119).all (ckop 119) = true := by decide +kernel
theorem ck_120 : (C_120).all (ckop 120) = true := by decide +kernel
theorem ck_121 : (C_121).all (ckop 121) = true := by decide +kernel
theorem ck_122 : (C_122).all (ckop 122) = true := by decide +kernel
theorem ck_123 : (C_123).all (ckop 123) = true := by decide +kernel
theorem ck_124 : (C_124).all (ckop 124) = true := by decide +kernel
theorem ck_125 : (C_125).all (ckop 125) = true := by decide +kernel
theorem ck_126 : (C_126).all (ckop 126) = true := by decide +kernel
theorem ck_127 : (C_127).all (ckop 127) = true := by decide +kernel
theorem ck_128 : (C_128).all (ckop 128) = true := by decide +kernel
theorem ck_129 : (C_129).all (ckop 129) = true := by decide +kernel
theorem ck_130 : (C_130).all (ckop 130) = true := by decide +kernel
theorem ck_131 : (C_131).all (ckop 131) = true := by decide +kernel
theorem ck_132 : (C_132).all (ckop 132) = true := by decide +kernel
theorem ck_133 : (C_133).all (ckop 133) = true := by decide +kernel
theorem ck_134 : (C_134).all (ckop 134) = true := by decide +kernel
theorem ck_135 : (C_135).all (ckop 135) = true := by decide +kernel
theorem ck_136 : (C_136).all (ckop 136) = true := by decide +kernel
theorem ck_137 : (C_137).all (ckop 137) = true := by decide +kernel
theorem ck_138 : (C_138).all (ckop 138) = true := by decide +kernel
theorem ck_139 : (C_139).all (ckop 139) = true := by decide +kernel
theorem ck_140 : (C_140).all (ckop 140) = true := by decide +kernel
theorem ck_141 : (C_141).all (ckop 141) = true := by decide +kernel
theorem ck_142 : (C_142).all (ckop 142) = true := by decide +kernel
theorem ck_143 : (C_143).all (ckop 143) = true := by decide +kernel
theorem ck_144 : (C_144).all (ckop 144) = true := by decide +kernel
theorem ck_145 : (C_145).all (ckop 145) = true := by decide +kernel
theorem ck_146 : (C_146).all (ckop 146) = true := by decide +kernel
theorem ck_147_0 : ((C_147).take 100).all (ckop 147) = true := by decide +kernel
theorem ck_147_1 : ((C_147).drop 100).all (ckop 147) = true := by decide +kernel
theorem ck_147 : (C_147).all (ckop 147) = true := all_cut _ 100 ck_147_0 (ck_147_1)
theorem ck_148 : (C_148).all (ckop 148) = true := by decide +kernel
theorem ck_149 : (C_149).all (ckop 149) = true := by decide +kernel
theorem ck_150 : (C_150).all (ckop 150) = true := by decide +kernel
theorem ck_151 : (C_151).all (ckop 151) = true := by decide +kernel
theorem ck_152 : (C_152).all (ckop 152) = true := by decide +kernel
theorem ck_153 : (C_153).all (ckop 153) = true := by decide +kernel
theorem ck_154_0 : ((C_154).take 100).all (ckop 154) = true := by decide +kernel
theorem ck_154_1 : ((C_154).drop 100).all (ckop 154) = true := by decide +kernel
theorem ck_154 : (C_154).all (ckop 154) = true := all_cut _ 100 ck_154_0 (ck_154_1)
theorem ck_155 : (C_155).all (ckop 155) = true := by decide +kernel
theorem ck_156 : (C_156).all (ckop 156) = true := by decide +kernel
theorem ck_157 : (C_157).all (ckop 157) = true := by decide +kernel
theorem ck_158 : (C_158).all (ckop 158) = true := by decide +kernel
theorem ck_159_0 : ((C_159).take 100).all (ckop 159) = true := by decide +kernel
theorem ck_159_1 : ((C_159).drop 100).all (ckop 159) = true := by decide +kernel
theorem ck_159 : (C_159).all (ckop 159) = true := all_cut _ 100 ck_159_0 (ck_159_1)
theorem ck_160 : (C_160).all (ckop 160) = true := by decide +kernel
theorem ck_161 : (C_161).all (ckop 161) = true := by decide +kernel
theorem ck_162 : (C_162).all (ckop 162) = true := by decide +kernel
theorem ck_163 : (C_163).all (ckop 163) = true := by decide +kernel
theorem ck_164 : (C_164).all (ckop 164) = true := by decide +kernel
theorem ck_165 : (C_165).all (ckop 165) = true := by decide +kernel
theorem ck_166 : (C_166).all (ckop 166) = true := by decide +kernel
theorem ck_167 : (C_167).all (ckop 167) = true := by decide +kernel
theorem ck_168 : (C_168).all (ckop 168) = true := by decide +kernel
theorem ck_169 : (C_169).all (ckop 169) = true := by decide +kernel
theorem ck_170 : (C_170).all (ckop 170) = true := by decide +kernel
theorem ck_171 : (C_171).all (ckop 171) = true := by decide +kernel
theorem ck_172 : (C_172).all (ckop 172) = true := by decide +kernel
theorem ck_173 : (C_173).all (ckop 173) = true := by decide +kernel
theorem ck_174 : (C_174).all (ckop 174) = true := by decide +kernel
theorem ck_175 : (C_175).all (ckop 175) = true := by decide +kernel
theorem ck_176 : (C_176).all (ckop 176) = true := by decide +kernel
theorem ck_177 : (C_177).all (ckop 177) = true := by decide +kernel
theorem ck_178 : (C_178).all (ckop 178) = true := by decide +kernel
theorem ck_179_0 : ((C_179).take 100).all (ckop 179) = true := by decide +kernel
theorem ck_179_1 : ((C_179).drop 100).all (ckop 179) = true := by decide +kernel
theorem ck_179 : (C_179).all (ckop 179) = true := all_cut _ 100 ck_179_0 (ck_179_1)
theorem ck_180 : (C_180).all (ckop 180) = true := by decide +kernel
theorem ck_181 : (C_181).all (ckop 181) = true := by decide +kernel
theorem ck_182 : (C_182).all (ckop 182) = true := by decide +kernel
theorem ck_183 : (C_183).all (ckop 183) = true := by decide +kernel
theorem ck_184 : (C_184).all (ckop 184) = true := by decide +kernel
theorem ck_185 : (C_185).all (ckop 185) = true := by decide +kernel
theorem ck_186_0 : ((C_186).take 100).all (ckop 186) = true := by decide +kernel
theorem ck_186_1 : ((C_186).drop 100).all (ckop 186) = true := by decide +kernel
theorem ck_186 : (C_186).all (ckop 186) = true := all_cut _ 100 ck_186_0 (ck_186_1)
theorem ck_187 : (C_187).all (ckop 187) = true := by decide +kernel
theorem ck_188_0 : ((C_188).take 100).all (ckop 188) = true := by decide +kernel
theorem ck_188_1 : (((C_188).drop 100).take 100).all (ckop 188) = true := by decide +kernel
theorem ck_188_2 : ((((C_188).drop 100).drop 100).take 100).all (ckop 188) = true := by decide +kernel
theorem ck_188_3 : (((((C_188).drop 100).drop 100).drop 100).take 100).all (ckop 188) = true := by decide +kernel
theorem ck_188_4 : ((((((C_188).drop 100).drop 100).drop 100).drop 100).take 100).all (ckop 188) = true := by decide +kernel
theorem ck_188_5 : (((((((C_188).drop 100).drop 100).drop 100).drop 100).drop 100).take 100).all (ckop 188) = true := by decide +kernel
theorem ck_188_6 : (((((((C_188).drop 100).drop 100).drop 100).drop 100).drop 100).drop 100).all (ckop 188) = true := by decide +kernel
theorem ck_188 : (C_188).all (ckop 188) = true := all_cut _ 100 ck_188_0 (all_cut _ 100 ck_188_1 (all_cut _ 100 ck_188_2 (all_cut _ 100 ck_188_3 (all_cut _ 100 ck_188_4 (all_cut _ 100 ck_188_5 (ck_188_6))))))
theorem ck_189 : (C_189).all (ckop 189) = true := by decide +kernel
theorem ck_r0 : ∀ y, 0 ≤ y → y < 16 → (mCs.getD y []).all (ckop y) = true := by
  intro y h1 h2
  have h4 : y = 0 ∨ y = 1 ∨ y = 2 ∨ y = 3 ∨ y = 4 ∨ y = 5 ∨ y = 6 ∨ y = 7 ∨ y = 8 ∨ y = 9 ∨ y = 10 ∨ y = 11 ∨ y = 12 ∨ y = 13 ∨ y = 14 ∨ y = 15 := by omega
  rcases h4 with rfl | rfl | rfl | rfl | rfl | rfl | rfl | rfl | rfl | rfl | rfl | rfl | rfl | rfl | rfl | rfl
  · exact ck_0
  · exact ck_1
  · exact ck_2
  · exact ck_3
  · exact ck_4
  · exact ck_5
  · exact ck_6
  · exact ck_7
  · exact ck_8
  · exact ck_9
  · exact ck_10
  · exact ck_11
  · exact ck_12
  · exact ck_13
  · exact ck_14
  · exact ck_15
theorem ck_r16 : ∀ y, 16 ≤ y → y < 32 → (mCs.getD y []).all (ckop y) = true := by
  intro y h1 h2
  have h4 : y = 16 ∨ y = 17 ∨ y = 18 ∨ y = 19 ∨ y = 20 ∨ y = 21 ∨ y = 22 ∨ y = 23 ∨ y = 24 ∨ y = 25 ∨ y = 26 ∨ y = 27 ∨ y = 28 ∨ y = 29 ∨ y = 30 ∨ y = 31 := by omega
  rcases h4 with rfl | rfl | rfl | rfl | rfl | rfl | rfl | rfl | rfl | rfl | rfl | rfl | rfl | rfl | rfl | rfl
  · exact ck_16
  · exact ck_17
  · exact ck_18
  · exact ck_19
  · exact ck_20
  · exact ck_21
  · exact ck_22
  · exact ck_23
  · exact ck_24
  · exact ck_25
  · exact ck_26
  · exact ck_27
  · exact ck_28
  · exact ck_29
  · exact ck_30
  · exact ck_31
theorem ck_r32 : ∀ y, 32 ≤ y → y < 48 → (mCs.getD y []).all (ckop y) = true := by
  intro y h1 h2
  have h4 : y = 32 ∨ y = 33 ∨ y = 34 ∨ y = 35 ∨ y = 36 ∨ y = 37 ∨ y = 38 ∨ y = 39 ∨ y = 40 ∨ y = 41 ∨ y = 42 ∨ y = 43 ∨ y = 44 ∨ y = 45 ∨ y = 46 ∨ y = 47 := by omega
  rcases h4 with rfl | rfl | rfl | rfl | rfl | rfl | rfl | rfl | rfl | rfl | rfl | rfl | rfl | rfl | rfl | rfl
  · exact ck_32
  · exact ck_33
  · exact ck_34
  · exact ck_35
  · exact ck_36
  · exact ck_37
  · exact ck_38
  · exact ck_39
  · exact ck_40
  · exact ck_41
  · exact ck_42
  · exact ck_43
  · exact ck_44
  · exact ck_45
  · exact ck_46
  · exact ck_47
theorem ck_r48 : ∀ y, 48 ≤ y → y < 64 → (mCs.getD y []).all (ckop y) = true := by
  intro y h1 h2
  have h4 : y = 48 ∨ y = 49 ∨ y = 50 ∨ y = 51 ∨ y = 52 ∨ y = 53 ∨ y = 54 ∨ y = 55 ∨ y = 56 ∨ y = 57 ∨ y = 58 ∨ y = 59 ∨ y = 60 ∨ y = 61 ∨ y = 62 ∨ y = 63 := by omega
  rcases h4 with rfl | rfl | rfl | rfl | rfl | rfl | rfl | rfl | rfl | rfl | rfl | rfl | rfl | rfl | rfl | rfl
  · exact ck_48
  · exact ck_49
  · exact ck_50
  · exact ck_51
  · exact ck_52
  · exact ck_53
  · exact ck_54
  · exact ck_55
  · exact ck_56
  · exact ck_57
  · exact ck_58
  · exact ck_59
  · exact ck_60
  · exact ck_61
  · exact ck_62
  · exact ck_63
theorem ck_r64 : ∀ y, 64 ≤ y → y < 80 → (mCs.getD y []).all (ckop y) = true := by
  intro y h1 h2
  have h4 : y = 64 ∨ y = 65 ∨ y = 66 ∨ y = 67 ∨ y = 68 ∨ y = 69 ∨ y = 70 ∨ y = 71 ∨ y = 72 ∨ y = 73 ∨ y = 74 ∨ y = 75 ∨ y = 76 ∨ y = 77 ∨ y = 78 ∨ y = 79 := by omega
  rcases h4 with rfl | rfl | rfl | rfl | rfl | rfl | rfl | rfl | rfl | rfl | rfl | rfl | rfl | rfl | rfl | rfl
  · exact ck_64
  · exact ck_65
  · exact ck_66
  · exact ck_67
  · exact ck_68
  · exact ck_69
  · exact ck_70
  · exact ck_71
  · exact ck_72
  · exact ck_73
  · exact ck_74
  · exact ck_75
  · exact ck_76
  · exact ck_77
  · exact ck_78
  · exact ck_79
theorem ck_r80 : ∀ y, 80 ≤ y → y < 96 → (mCs.getD y []).all (ckop y) = true := by
  intro y h1 h2
  have h4 : y = 80 ∨ y = 81 ∨ y = 82 ∨ y = 83 ∨ y = 84 ∨ y = 85 ∨ y = 86 ∨ y = 87 ∨ y = 88 ∨ y = 89 ∨ y = 90 ∨ y = 91 ∨ y = 92 ∨ y = 93 ∨ y = 94 ∨ y = 95 := by omega
  rcases h4 with rfl | rfl | rfl | rfl | rfl | rfl | rfl | rfl | rfl | rfl | rfl | rfl | rfl | rfl | rfl | rfl
  · exact ck_80
  · exact ck_81
  · exact ck_82
  · exact ck_83
  · exact ck_84
  · exact ck_85
  · exact ck_86
  · exact ck_87
  · exact ck_88
  · exact ck_89
  · exact ck_90
  · exact ck_91
  · exact ck_92
  · exact ck_93
  · exact ck_94
  · exact ck_95
theorem ck_r96 : ∀ y, 96 ≤ y → y < 112 → (mCs.getD y []).all (ckop y) = true := by
  intro y h1 h2
  have h4 : y = 96 ∨ y = 97 ∨ y = 98 ∨ y = 99 ∨ y = 100 ∨ y = 101 ∨ y = 102 ∨ y = 103 ∨ y = 104 ∨ y = 105 ∨ y = 106 ∨ y = 107 ∨ y = 108 ∨ y = 109 ∨ y = 110 ∨ y = 111 := by omega
  rcases h4 with rfl | rfl | rfl | rfl | rfl | rfl | rfl | rfl | rfl | rfl | rfl | rfl | rfl | rfl | rfl | rfl
  · exact ck_96
  · exact ck_97
  · exact ck_98
  · exact ck_99
  · exact ck_100
  · exact ck_101
  · exact ck_102
  · exact ck_103
  · exact ck_104
  · exact ck_105
  · exact ck_106
  · exact ck_107
  · exact ck_108
  · exact ck_109
  · exact ck_110
  · exact ck_111
theorem ck_r112 : ∀ y, 112 ≤ y → y < 128 → (mCs.getD y []).all (ckop y) = true := by
  intro y h1 h2
  have h4 : y = 112 ∨ y = 113 ∨ y = 114 ∨ y = 115 ∨ y = 116 ∨ y = 117 ∨ y = 118 ∨ y = 119 ∨ y = 120 ∨ y = 121 ∨ y = 122 ∨ y = 123 ∨ y = 124 ∨ y = 125 ∨ y = 126 ∨ y = 127 := by omega
  rcases h4 with rfl | rfl | rfl | rfl | rfl | rfl | rfl | rfl | rfl | rfl | rfl | rfl | rfl | rfl | rfl | rfl
  · exact ck_112
  · exact ck_113
  · exact ck_114
  · exact ck_115
  · exact ck_116
  · exact ck_117
  · exact ck_118
  · exact ck_119
  · exact ck_120
  · exact ck_121
  · exact ck_122
  · exact ck_123
  · exact ck_124
  · exact ck_125
  · exact ck_126
  · exact ck_127
theorem ck_r128 : ∀ y, 128 ≤ y → y < 144 → (mCs.getD y []).all (ckop y) = true := by
  intro y h1 h2
  have h4 : y = 128 ∨ y = 129 ∨ y = 130 ∨ y = 131 ∨ y = 132 ∨ y = 133 ∨ y = 134 ∨ y = 135 ∨ y = 136 ∨ y = 137 ∨ y = 138 ∨ y = 139 ∨ y = 140 ∨ y = 141 ∨ y = 142 ∨ y = 143 := by omega
  rcases h4 with rfl | rfl | rfl | rfl | rfl | rfl | rfl | rfl | rfl | rfl | rfl | rfl | rfl | rfl | rfl | rfl
  · exact ck_128
  · exact ck_129
  · exact ck_130
  · exact ck_131
  · exact ck_132
  · exact ck_133
  · exact ck_134
  · exact ck_135
  · exact ck_136
  · exact ck_137
  · exact ck_138
  · exact ck_139
  · exact ck_140
  · exact ck_141
  · exact ck_142
  · exact ck_143
theorem ck_r144 : ∀ y, 144 ≤ y → y < 160 → (mCs.getD y []).all (ckop y) = true := by
  intro y h1 h2
  have h4 : y = 144 ∨ y = 145 ∨ y = 146 ∨ y = 147 ∨ y = 148 ∨ y = 149 ∨ y = 150 ∨ y = 151 ∨ y = 152 ∨ y = 153 ∨ y = 154 ∨ y = 155 ∨ y = 156 ∨ y = 157 ∨ y = 158 ∨ y = 159 := by omega
  rcases h4 with rfl | rfl | rfl | rfl | rfl | rfl | rfl | rfl | rfl | rfl | rfl | rfl | rfl | rfl | rfl | rfl
  · exact ck_144
  · exact ck_145
  · exact ck_146
  · exact ck_147
  · exact ck_148
  · exact ck_149
  · exact ck_150
  · exact ck_151
  · exact ck_152
  · exact ck_153
  · exact ck_154
  · exact ck_155
  · exact ck_156
  · exact ck_157
  · exact ck_158
  · exact ck_159
theorem ck_r160 : ∀ y, 160 ≤ y → y < 176 → (mCs.getD y []).all (ckop y) = true := by
  intro y h1 h2
  have h4 : y = 160 ∨ y = 161 ∨ y = 162 ∨ y = 163 ∨ y = 164 ∨ y = 165 ∨ y = 166 ∨ y = 167 ∨ y = 168 ∨ y = 169 ∨ y = 170 ∨ y = 171 ∨ y = 172 ∨ y = 173 ∨ y = 174 ∨ y = 175 := by omega
  rcases h4 with rfl | rfl | rfl | rfl | rfl | rfl | rfl | rfl | rfl | rfl | rfl | rfl | rfl | rfl | rfl | rfl
  · exact ck_160
  · exact ck_161
  · exact ck_162
  · exact ck_163
  · exact ck_164
  · exact ck_165
  · exact ck_166
  · exact ck_167
  · exact ck_168
  · exact ck_169
  · exact ck_170
  · exact ck_171
  · exact ck_172
  · exact ck_173
  · exact ck_174
  · exact ck_175
theorem ck_r176 : ∀ y, 176 ≤ y → y < 190 → (mCs.getD y []).all (ckop y) = true := by
  intro y h1 h2
  have h4 : y = 176 ∨ y = 177 ∨ y = 178 ∨ y = 179 ∨ y = 180 ∨ y = 181 ∨ y = 182 ∨ y = 183 ∨ y = 184 ∨ y = 185 ∨ y = 186 ∨ y = 187 ∨ y = 188 ∨ y = 189 := by omega
  rcases h4 with rfl | rfl | rfl | rfl | rfl | rfl | rfl | rfl | rfl | rfl | rfl | rfl | rfl | rfl
  · exact ck_176
  · exact ck_177
  · exact ck_178
  · exact ck_179
  · exact ck_180
  · exact ck_181
  · exact ck_182
  · exact ck_183
  · exact ck_184
  · exact ck_185
  · exact ck_186
  · exact ck_187
  · exact ck_188
  · exact ck_189
theorem ck_all : ∀ y, y < 190 → (mCs.getD y []).all (ckop y) = true := by
  intro y hy
  by_cases h0 : y < 16
  · exact ck_r0 y (by omega) h0
  by_cases h16 : y < 32
  · exact ck_r16 y (by omega) h16
  by_cases h32 : y < 48
  · exact ck_r32 y (by omega) h32
  by_cases h48 : y < 64
  · exact ck_r48 y (by omega) h48
  by_cases h64 : y < 80
  · exact ck_r64 y (by omega) h64
  by_cases h80 : y < 96
  · exact ck_r80 y (by omega) h80
  by_cases h96 : y < 112
  · exact ck_r96 y (by omega) h96
  by_cases h112 : y < 128
  · exact ck_r112 y (by omega) h112
  by_cases h128 : y < 144
  · exact ck_r128 y (by omega) h128
  by_cases h144 : y < 160
  · exact ck_r144 y (by omega) h144
  by_cases h160 : y < 176
  · exact ck_r160 y (by omega) h160
  by_cases h176 : y < 190
  · exact ck_r176 y (by omega) h176
  omega
theorem cd_lt {y pc : Nat} {o : Op} (h : cd y pc = some o) : y < 190 := by
  rcases Nat.lt_or_ge y 190 with q | q
  · exact q
  · have e : mCs.getD y [] = [] := by
      rw [List.getD_eq_getElem?_getD, List.getElem?_eq_none (by show 190 ≤ y; exact q)]
      rfl
    rw [cd, e] at h
    cases h
theorem cd_mem : ∀ (l : List (Nat × Op)) {pc : Nat} {o : Op}, l.lookup pc = some o → (pc, o) ∈ l
  | [], _, _, h => by cases h
  | (k, v) :: l, pc, o, h => by
    rw [List.lookup_cons] at h
    by_cases e : pc = k
    · subst e
      simp at h
      subst h
      exact List.mem_cons_self
    · have e2 : (pc == k) = false := by simpa using e
      rw [e2] at h
      exact List.mem_cons_of_mem _ (cd_mem l h)
theorem cd_ok {y pc : Nat} {o : Op} (h : cd y pc = some o) : decode (mB y) pc = .ok (ins pc o) ∧ lkop y o = true := by
  have h1 := List.all_eq_true.mp (ck_all y (cd_lt h)) _ (cd_mem _ h)
  simp only [ckop, Bool.and_eq_true, decide_eq_true_eq] at h1
  exact h1
