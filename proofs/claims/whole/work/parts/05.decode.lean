set_option maxRecDepth 100000
/-! every instruction is what the bytes say -/
def mm_okD (m : Nat) (q : Nat × Instr × Nat × Int) : Bool := decide (decode (mm_b m) q.1 = .ok (q.2.1, q.2.2.1))
theorem okd_0 : (cd_0).all (mm_okD 0) = true := by decide +kernel
theorem okd_1 : (cd_1).all (mm_okD 1) = true := by decide +kernel
theorem okd_2 : (cd_2).all (mm_okD 2) = true := by decide +kernel
theorem okd_3 : (cd_3).all (mm_okD 3) = true := by decide +kernel
theorem okd_4 : (cd_4).all (mm_okD 4) = true := by decide +kernel
theorem okd_5 : (cd_5).all (mm_okD 5) = true := by decide +kernel
theorem okd_6 : (cd_6).all (mm_okD 6) = true := by decide +kernel
theorem okd_7 : (cd_7).all (mm_okD 7) = true := by decide +kernel
theorem okd_8 : (cd_8).all (mm_okD 8) = true := by decide +kernel
theorem okd_9 : (cd_9).all (mm_okD 9) = true := by decide +kernel
theorem okd_10 : (cd_10).all (mm_okD 10) = true := by decide +kernel
theorem okd_11 : (cd_11).all (mm_okD 11) = true := by decide +kernel
theorem okd_12 : (cd_12).all (mm_okD 12) = true := by decide +kernel
theorem okd_13 : (cd_13).all (mm_okD 13) = true := by decide +kernel
theorem okd_14 : (cd_14).all (mm_okD 14) = true := by decide +kernel
theorem okd_15 : (cd_15).all (mm_okD 15) = true := by decide +kernel
theorem okd_16 : (cd_16).all (mm_okD 16) = true := by decide +kernel
theorem okd_17_0 : (((cd_17).drop 0).take 60).all (mm_okD 17) = true := by decide +kernel
theorem okd_17_1 : (((cd_17).drop 60).take 60).all (mm_okD 17) = true := by decide +kernel
theorem okd_17 : (cd_17).all (mm_okD 17) = true := by
  have e : cd_17 = ((cd_17).drop 0).take 60 ++ ((cd_17).drop 60).take 60 := rfl
  rw [e]
  simp only [List.all_append, okd_17_0, okd_17_1, Bool.and_self]
theorem okd_18 : (cd_18).all (mm_okD 18) = true := by decide +kernel
theorem okd_19 : (cd_19).all (mm_okD 19) = true := by decide +kernel
theorem okd_20 : (cd_20).all (mm_okD 20) = true := by decide +kernel
theorem okd_21 : (cd_21).all (mm_okD 21) = true := by decide +kernel
theorem okd_22 : (cd_22).all (mm_okD 22) = true := by decide +kernel
theorem okd_23 : (cd_23).all (mm_okD 23) = true := by decide +kernel
theorem okd_24 : (cd_24).all (mm_okD 24) = true := by decide +kernel
theorem okd_25 : (cd_25).all (mm_okD 25) = true := by decide +kernel
theorem okd_26 : (cd_26).all (mm_okD 26) = true := by decide +kernel
theorem okd_27 : (cd_27).all (mm_okD 27) = true := by decide +kernel
theorem okd_28 : (cd_28).all (mm_okD 28) = true := by decide +kernel
theorem okd_29 : (cd_29).all (mm_okD 29) = true := by decide +kernel
theorem okd_30_0 : (((cd_30).drop 0).take 60).all (mm_okD 30) = true := by decide +kernel
theorem okd_30_1 : (((cd_30).drop 60).take 60).all (mm_okD 30) = true := by decide +kernel
theorem okd_30 : (cd_30).all (mm_okD 30) = true := by
  have e : cd_30 = ((cd_30).drop 0).take 60 ++ ((cd_30).drop 60).take 60 := rfl
  rw [e]
  simp only [List.all_append, okd_30_0, okd_30_1, Bool.and_self]
theorem okd_31 : (cd_31).all (mm_okD 31) = true := by decide +kernel
theorem okd_32 : (cd_32).all (mm_okD 32) = true := by decide +kernel
theorem okd_33_0 : (((cd_33).drop 0).take 60).all (mm_okD 33) = true := by decide +kernel
theorem okd_33_1 : (((cd_33).drop 60).take 60).all (mm_okD 33) = true := by decide +kernel
theorem okd_33 : (cd_33).all (mm_okD 33) = true := by
  have e : cd_33 = ((cd_33).drop 0).take 60 ++ ((cd_33).drop 60).take 60 := rfl
  rw [e]
  simp only [List.all_append, okd_33_0, okd_33_1, Bool.and_self]
theorem okd_34 : (cd_34).all (mm_okD 34) = true := by decide +kernel
theorem okd_35_0 : (((cd_35).drop 0).take 60).all (mm_okD 35) = true := by decide +kernel
theorem okd_35_1 : (((cd_35).drop 60).take 60).all (mm_okD 35) = true := by decide +kernel
theorem okd_35 : (cd_35).all (mm_okD 35) = true := by
  have e : cd_35 = ((cd_35).drop 0).take 60 ++ ((cd_35).drop 60).take 60 := rfl
  rw [e]
  simp only [List.all_append, okd_35_0, okd_35_1, Bool.and_self]
theorem okd_36_0 : (((cd_36).drop 0).take 60).all (mm_okD 36) = true := by decide +kernel
theorem okd_36_1 : (((cd_36).drop 60).take 60).all (mm_okD 36) = true := by decide +kernel
theorem okd_36 : (cd_36).all (mm_okD 36) = true := by
  have e : cd_36 = ((cd_36).drop 0).take 60 ++ ((cd_36).drop 60).take 60 := rfl
  rw [e]
  simp only [List.all_append, okd_36_0, okd_36_1, Bool.and_self]
theorem okd_37 : (cd_37).all (mm_okD 37) = true := by decide +kernel
theorem okd_38 : (cd_38).all (mm_okD 38) = true := by decide +kernel
theorem okd_39 : (cd_39).all (mm_okD 39) = true := by decide +kernel
theorem okd_40 : (cd_40).all (mm_okD 40) = true := by decide +kernel
theorem okd_41 : (cd_41).all (mm_okD 41) = true := by decide +kernel
theorem okd_42 : (cd_42).all (mm_okD 42) = true := by decide +kernel
theorem okd_43 : (cd_43).all (mm_okD 43) = true := by decide +kernel
theorem okd_44 : (cd_44).all (mm_okD 44) = true := by decide +kernel
theorem okd_45 : (cd_45).all (mm_okD 45) = true := by decide +kernel
theorem okd_46 : (cd_46).all (mm_okD 46) = true := by decide +kernel
theorem okd_47 : (cd_47).all (mm_okD 47) = true := by decide +kernel
theorem okd_48 : (cd_48).all (mm_okD 48) = true := by decide +kernel
theorem okd_49 : (cd_49).all (mm_okD 49) = true := by decide +kernel
theorem okd_50 : (cd_50).all (mm_okD 50) = true := by decide +kernel
theorem okd_51 : (cd_51).all (mm_okD 51) = true := by decide +kernel
theorem okd_52 : (cd_52).all (mm_okD 52) = true := by decide +kernel
theorem okd_53 : (cd_53).all (mm_okD 53) = true := by decide +kernel
theorem okd_54 : (cd_54).all (mm_okD 54) = true := by decide +kernel
theorem okd_55 : (cd_55).all (mm_okD 55) = true := by decide +kernel
theorem okd_56 : (cd_56).all (mm_okD 56) = true := by decide +kernel
theorem okd_57 : (cd_57).all (mm_okD 57) = true := by decide +kernel
theorem okd_58 : (cd_58).all (mm_okD 58) = true := by decide +kernel
theorem okd_59 : (cd_59).all (mm_okD 59) = true := by decide +kernel
theorem okd_60 : (cd_60).all (mm_okD 60) = true := by decide +kernel
theorem okd_61 : (cd_61).all (mm_okD 61) = true := by decide +kernel
theorem okd_62 : (cd_62).all (mm_okD 62) = true := by decide +kernel
theorem okd_63 : (cd_63).all (mm_okD 63) = true := by decide +kernel
theorem okd_64 : (cd_64).all (mm_okD 64) = true := by decide +kernel
theorem okd_65 : (cd_65).all (mm_okD 65) = true := by decide +kernel
theorem okd_66 : (cd_66).all (mm_okD 66) = true := by decide +kernel
theorem okd_67 : (cd_67).all (mm_okD 67) = true := by decide +kernel
theorem okd_68 : (cd_68).all (mm_okD 68) = true := by decide +kernel
theorem okd_69 : (cd_69).all (mm_okD 69) = true := by decide +kernel
theorem okd_70 : (cd_70).all (mm_okD 70) = true := by decide +kernel
theorem okd_71 : (cd_71).all (mm_okD 71) = true := by decide +kernel
theorem okd_72 : (cd_72).all (mm_okD 72) = true := by decide +kernel
theorem okd_73 : (cd_73).all (mm_okD 73) = true := by decide +kernel
theorem okd_74 : (cd_74).all (mm_okD 74) = true := by decide +kernel
theorem okd_75_0 : (((cd_75).drop 0).take 60).all (mm_okD 75) = true := by decide +kernel
theorem okd_75_1 : (((cd_75).drop 60).take 60).all (mm_okD 75) = true := by decide +kernel
theorem okd_75 : (cd_75).all (mm_okD 75) = true := by
  have e : cd_75 = ((cd_75).drop 0).take 60 ++ ((cd_75).drop 60).take 60 := rfl
  rw [e]
  simp only [List.all_append, okd_75_0, okd_75_1, Bool.and_self]
theorem okd_76 : (cd_76).all (mm_okD 76) = true := by decide +kernel
theorem okd_77_0 : (((cd_77).drop 0).take 60).all (mm_okD 77) = true := by decide +kernel
theorem okd_77_1 : (((cd_77).drop 60).take 60).all (mm_okD 77) = true := by decide +kernel
theorem okd_77 : (cd_77).all (mm_okD 77) = true := by
  have e : cd_77 = ((cd_77).drop 0).take 60 ++ ((cd_77).drop 60).take 60 := rfl
  rw [e]
  simp only [List.all_append, okd_77_0, okd_77_1, Bool.and_self]
theorem okd_78 : (cd_78).all (mm_okD 78) = true := by decide +kernel
theorem okd_79 : (cd_79).all (mm_okD 79) = true := by decide +kernel
theorem okd_80 : (cd_80).all (mm_okD 80) = true := by decide +kernel
theorem okd_81_0 : (((cd_81).drop 0).take 60).all (mm_okD 81) = true := by decide +kernel
theorem okd_81_1 : (((cd_81).drop 60).take 60).all (mm_okD 81) = true := by decide +kernel
theorem okd_81 : (cd_81).all (mm_okD 81) = true := by
  have e : cd_81 = ((cd_81).drop 0).take 60 ++ ((cd_81).drop 60).take 60 := rfl
  rw [e]
  simp only [List.all_append, okd_81_0, okd_81_1, Bool.and_self]
theorem okd_82 : (cd_82).all (mm_okD 82) = true := by decide +kernel
theorem okd_83 : (cd_83).all (mm_okD 83) = true := by decide +kernel
theorem okd_84 : (cd_84).all (mm_okD 84) = true := by decide +kernel
theorem okd_85 : (cd_85).all (mm_okD 85) = true := by decide +kernel
theorem okd_86 : (cd_86).all (mm_okD 86) = true := by decide +kernel
theorem okd_87 : (cd_87).all (mm_okD 87) = true := by decide +kernel
theorem okd_88 : (cd_88).all (mm_okD 88) = true := by decide +kernel
theorem okd_89 : (cd_89).all (mm_okD 89) = true := by decide +kernel
theorem okd_90 : (cd_90).all (mm_okD 90) = true := by decide +kernel
theorem okd_91 : (cd_91).all (mm_okD 91) = true := by decide +kernel
theorem okd_92 : (cd_92).all (mm_okD 92) = true := by decide +kernel
theorem okd_93 : (cd_93).all (mm_okD 93) = true := by decide +kernel
theorem okd_94 : (cd_94).all (mm_okD 94) = true := by decide +kernel
theorem okd_95 : (cd_95).all (mm_okD 95) = true := by decide +kernel
theorem okd_96 : (cd_96).all (mm_okD 96) = true := by decide +kernel
theorem okd_97_0 : (((cd_97).drop 0).take 60).all (mm_okD 97) = true := by decide +kernel
theorem okd_97_1 : (((cd_97).drop 60).take 60).all (mm_okD 97) = true := by decide +kernel
theorem okd_97 : (cd_97).all (mm_okD 97) = true := by
  have e : cd_97 = ((cd_97).drop 0).take 60 ++ ((cd_97).drop 60).take 60 := rfl
  rw [e]
  simp only [List.all_append, okd_97_0, okd_97_1, Bool.and_self]
theorem okd_98 : (cd_98).all (mm_okD 98) = true := by decide +kernel
theorem okd_99 : (cd_99).all (mm_okD 99) = true := by decide +kernel
theorem okd_100 : (cd_100).all (mm_okD 100) = true := by decide +kernel
theorem okd_101 : (cd_101).all (mm_okD 101) = true := by decide +kernel
theorem okd_102 : (cd_102).all (mm_okD 102) = true := by decide +kernel
theorem okd_103 : (cd_103).all (mm_okD 103) = true := by decide +kernel
theorem okd_104 : (cd_104).all (mm_okD 104) = true := by decide +kernel
theorem okd_105 : (cd_105).all (mm_okD 105) = true := by decide +kernel
theorem okd_106 : (cd_106).all (mm_okD 106) = true := by decide +kernel
theorem okd_107 : (cd_107).all (mm_okD 107) = true := by decide +kernel
theorem okd_108 : (cd_108).all (mm_okD 108) = true := by decide +kernel
theorem okd_109 : (cd_109).all (mm_okD 109) = true := by decide +kernel
theorem okd_110 : (cd_110).all (mm_okD 110) = true := by decide +kernel
theorem okd_111 : (cd_111).all (mm_okD 111) = true := by decide +kernel
theorem okd_112 : (cd_112).all (mm_okD 112) = true := by decide +kernel
theorem okd_113 : (cd_113).all (mm_okD 113) = true := by decide +kernel
theorem okd_114 : (cd_114).all (mm_okD 114) = true := by decide +kernel
theorem okd_115 : (cd_115).all (mm_okD 115) = true := by decide +kernel
theorem okd_116 : (cd_116).all (mm_okD 116) = true := by decide +kernel
theorem okd_117 : (cd_117).all (mm_okD 117) = true := by decide +kernel
theorem okd_118 : (cd_118).all (mm_okD 118) = true := by decide +kernel
theorem okd_119 : (cd_119).all (mm_okD 119) = true := by decide +kernel
theorem okd_120 : (cd_120).all (mm_okD 120) = true := by decide +kernel
theorem okd_121 : (cd_121).all (mm_okD 121) = true := by decide +kernel
theorem okd_122 : (cd_122).all (mm_okD 122) = true := by decide +kernel
theorem okd_123 : (cd_123).all (mm_okD 123) = true := by decide +kernel
theorem okd_124 : (cd_124).all (mm_okD 124) = true := by decide +kernel
theorem okd_125 : (cd_125).all (mm_okD 125) = true := by decide +kernel
theorem okd_126 : (cd_126).all (mm_okD 126) = true := by decide +kernel
theorem okd_127 : (cd_127).all (mm_okD 127) = true := by decide +kernel
theorem okd_128 : (cd_128).all (mm_okD 128) = true := by decide +kernel
theorem okd_129 : (cd_129).all (mm_okD 129) = true := by decide +kernel
theorem okd_130 : (cd_130).all (mm_okD 130) = true := by decide +kernel
theorem okd_131 : (cd_131).all (mm_okD 131) = true := by decide +kernel
theorem okd_132 : (cd_132).all (mm_okD 132) = true := by decide +kernel
theorem okd_133 : (cd_133).all (mm_okD 133) = true := by decide +kernel
theorem okd_134 : (cd_134).all (mm_okD 134) = true := by decide +kernel
theorem okd_135 : (cd_135).all (mm_okD 135) = true := by decide +kernel
theorem okd_136 : (cd_136).all (mm_okD 136) = true := by decide +kernel
theorem okd_137 : (cd_137).all (mm_okD 137) = true := by decide +kernel
theorem okd_138_0 : (((cd_138).drop 0).take 60).all (mm_okD 138) = true := by decide +kernel
theorem okd_138_1 : (((cd_138).drop 60).take 60).all (mm_okD 138) = true := by decide +kernel
theorem okd_138_2 : (((cd_138).drop 120).take 60).all (mm_okD 138) = true := by decide +kernel
theorem okd_138 : (cd_138).all (mm_okD 138) = true := by
  have e : cd_138 = ((cd_138).drop 0).take 60 ++ ((cd_138).drop 60).take 60 ++ ((cd_138).drop 120).take 60 := rfl
  rw [e]
  simp only [List.all_append, okd_138_0, okd_138_1, okd_138_2, Bool.and_self]
theorem okd_139 : (cd_139).all (mm_okD 139) = true := by decide +kernel
theorem okd_140 : (cd_140).all (mm_okD 140) = true := by decide +kernel
theorem okd_141_0 : (((cd_141).drop 0).take 60).all (mm_okD 141) = true := by decide +kernel
theorem okd_141_1 : (((cd_141).drop 60).take 60).all (mm_okD 141) = true := by decide +kernel
theorem okd_141_2 : (((cd_141).drop 120).take 60).all (mm_okD 141) = true := by decide +kernel
theorem okd_141 : (cd_141).all (mm_okD 141) = true := by
  have e : cd_141 = ((cd_141).drop 0).take 60 ++ ((cd_141).drop 60).take 60 ++ ((cd_141).drop 120).take 60 := rfl
  rw [e]
  simp only [List.all_append, okd_141_0, okd_141_1, okd_141_2, Bool.and_self]
theorem okd_142 : (cd_142).all (mm_okD 142) = true := by decide +kernel
theorem okd_143 : (cd_143).all (mm_okD 143) = true := by decide +kernel
theorem okd_144 : (cd_144).all (mm_okD 144) = true := by decide +kernel
theorem okd_145 : (cd_145).all (mm_okD 145) = true := by decide +kernel
theorem okd_146 : (cd_146).all (mm_okD 146) = true := by decide +kernel
theorem okd_147 : (cd_147).all (mm_okD 147) = true := by decide +kernel
theorem okd_148 : (cd_148).all (mm_okD 148) = true := by decide +kernel
theorem okd_149 : (cd_149).all (mm_okD 149) = true := by decide +kernel
theorem okd_150 : (cd_150).all (mm_okD 150) = true := by decide +kernel
theorem okd_151_0 : (((cd_151).drop 0).take 60).all (mm_okD 151) = true := by decide +kernel
theorem okd_151_1 : (((cd_151).drop 60).take 60).all (mm_okD 151) = true := by decide +kernel
theorem okd_151 : (cd_151).all (mm_okD 151) = true := by
  have e : cd_151 = ((cd_151).drop 0).take 60 ++ ((cd_151).drop 60).take 60 := rfl
  rw [e]
  simp only [List.all_append, okd_151_0, okd_151_1, Bool.and_self]
theorem okd_152 : (cd_152).all (mm_okD 152) = true := by decide +kernel
theorem okd_153 : (cd_153).all (mm_okD 153) = true := by decide +kernel
theorem okd_154 : (cd_154).all (mm_okD 154) = true := by decide +kernel
theorem okd_155 : (cd_155).all (mm_okD 155) = true := by decide +kernel
theorem okd_156 : (cd_156).all (mm_okD 156) = true := by decide +kernel
theorem okd_157 : (cd_157).all (mm_okD 157) = true := by decide +kernel
theorem okd_158_0 : (((cd_158).drop 0).take 60).all (mm_okD 158) = true := by decide +kernel
theorem okd_158_1 : (((cd_158).drop 60).take 60).all (mm_okD 158) = true := by decide +kernel
theorem okd_158_2 : (((cd_158).drop 120).take 60).all (mm_okD 158) = true := by decide +kernel
theorem okd_158_3 : (((cd_158).drop 180).take 60).all (mm_okD 158) = true := by decide +kernel
theorem okd_158 : (cd_158).all (mm_okD 158) = true := by
  have e : cd_158 = ((cd_158).drop 0).take 60 ++ ((cd_158).drop 60).take 60 ++ ((cd_158).drop 120).take 60 ++ ((cd_158).drop 180).take 60 := rfl
  rw [e]
  simp only [List.all_append, okd_158_0, okd_158_1, okd_158_2, okd_158_3, Bool.and_self]
theorem okd_159_0 : (((cd_159).drop 0).take 60).all (mm_okD 159) = true := by decide +kernel
theorem okd_159_1 : (((cd_159).drop 60).take 60).all (mm_okD 159) = true := by decide +kernel
theorem okd_159 : (cd_159).all (mm_okD 159) = true := by
  have e : cd_159 = ((cd_159).drop 0).take 60 ++ ((cd_159).drop 60).take 60 := rfl
  rw [e]
  simp only [List.all_append, okd_159_0, okd_159_1, Bool.and_self]
theorem okd_160 : (cd_160).all (mm_okD 160) = true := by decide +kernel
theorem okd_161 : (cd_161).all (mm_okD 161) = true := by decide +kernel
theorem okd_162_0 : (((cd_162).drop 0).take 60).all (mm_okD 162) = true := by decide +kernel
theorem okd_162_1 : (((cd_162).drop 60).take 60).all (mm_okD 162) = true := by decide +kernel
theorem okd_162 : (cd_162).all (mm_okD 162) = true := by
  have e : cd_162 = ((cd_162).drop 0).take 60 ++ ((cd_162).drop 60).take 60 := rfl
  rw [e]
  simp only [List.all_append, okd_162_0, okd_162_1, Bool.and_self]
theorem okd_163 : (cd_163).all (mm_okD 163) = true := by decide +kernel
theorem okd_164 : (cd_164).all (mm_okD 164) = true := by decide +kernel
theorem okd_165 : (cd_165).all (mm_okD 165) = true := by decide +kernel
theorem okd_166 : (cd_166).all (mm_okD 166) = true := by decide +kernel
theorem okd_167_0 : (((cd_167).drop 0).take 60).all (mm_okD 167) = true := by decide +kernel
theorem okd_167_1 : (((cd_167).drop 60).take 60).all (mm_okD 167) = true := by decide +kernel
theorem okd_167 : (cd_167).all (mm_okD 167) = true := by
  have e : cd_167 = ((cd_167).drop 0).take 60 ++ ((cd_167).drop 60).take 60 := rfl
  rw [e]
  simp only [List.all_append, okd_167_0, okd_167_1, Bool.and_self]
theorem okd_168_0 : (((cd_168).drop 0).take 60).all (mm_okD 168) = true := by decide +kernel
theorem okd_168_1 : (((cd_168).drop 60).take 60).all (mm_okD 168) = true := by decide +kernel
theorem okd_168 : (cd_168).all (mm_okD 168) = true := by
  have e : cd_168 = ((cd_168).drop 0).take 60 ++ ((cd_168).drop 60).take 60 := rfl
  rw [e]
  simp only [List.all_append, okd_168_0, okd_168_1, Bool.and_self]
theorem okd_169 : (cd_169).all (mm_okD 169) = true := by decide +kernel
theorem okd_170_0 : (((cd_170).drop 0).take 60).all (mm_okD 170) = true := by decide +kernel
theorem okd_170_1 : (((cd_170).drop 60).take 60).all (mm_okD 170) = true := by decide +kernel
theorem okd_170 : (cd_170).all (mm_okD 170) = true := by
  have e : cd_170 = ((cd_170).drop 0).take 60 ++ ((cd_170).drop 60).take 60 := rfl
  rw [e]
  simp only [List.all_append, okd_170_0, okd_170_1, Bool.and_self]
theorem okd_171_0 : (((cd_171).drop 0).take 60).all (mm_okD 171) = true := by decide +kernel
theorem okd_171_1 : (((cd_171).drop 60).take 60).all (mm_okD 171) = true := by decide +kernel
theorem okd_171 : (cd_171).all (mm_okD 171) = true := by
  have e : cd_171 = ((cd_171).drop 0).take 60 ++ ((cd_171).drop 60).take 60 := rfl
  rw [e]
  simp only [List.all_append, okd_171_0, okd_171_1, Bool.and_self]
theorem okd_172 : (cd_172).all (mm_okD 172) = true := by decide +kernel
theorem okd_173 : (cd_173).all (mm_okD 173) = true := by decide +kernel
theorem okd_174 : (cd_174).all (mm_okD 174) = true := by decide +kernel
theorem okd_175 : (cd_175).all (mm_okD 175) = true := by decide +kernel
theorem okd_176 : (cd_176).all (mm_okD 176) = true := by decide +kernel
theorem okd_177 : (cd_177).all (mm_okD 177) = true := by decide +kernel
theorem okd_178_0 : (((cd_178).drop 0).take 60).all (mm_okD 178) = true := by decide +kernel
theorem okd_178_1 : (((cd_178).drop 60).take 60).all (mm_okD 178) = true := by decide +kernel
theorem okd_178 : (cd_178).all (mm_okD 178) = true := by
  have e : cd_178 = ((cd_178).drop 0).take 60 ++ ((cd_178).drop 60).take 60 := rfl
  rw [e]
  simp only [List.all_append, okd_178_0, okd_178_1, Bool.and_self]
theorem okd_179 : (cd_179).all (mm_okD 179) = true := by decide +kernel
theorem okd_180 : (cd_180).all (mm_okD 180) = true := by decide +kernel
theorem okd_181 : (cd_181).all (mm_okD 181) = true := by decide +kernel
theorem okd_182 : (cd_182).all (mm_okD 182) = true := by decide +kernel
theorem okd_183 : (cd_183).all (mm_okD 183) = true := by decide +kernel
theorem okd_184_0 : (((cd_184).drop 0).take 60).all (mm_okD 184) = true := by decide +kernel
theorem okd_184_1 : (((cd_184).drop 60).take 60).all (mm_okD 184) = true := by decide +kernel
theorem okd_184 : (cd_184).all (mm_okD 184) = true := by
  have e : cd_184 = ((cd_184).drop 0).take 60 ++ ((cd_184).drop 60).take 60 := rfl
  rw [e]
  simp only [List.all_append, okd_184_0, okd_184_1, Bool.and_self]
theorem okd_185_0 : (((cd_185).drop 0).take 60).all (mm_okD 185) = true := by decide +kernel
theorem okd_185_1 : (((cd_185).drop 60).take 60).all (mm_okD 185) = true := by decide +kernel
theorem okd_185 : (cd_185).all (mm_okD 185) = true := by
  have e : cd_185 = ((cd_185).drop 0).take 60 ++ ((cd_185).drop 60).take 60 := rfl
  rw [e]
  simp only [List.all_append, okd_185_0, okd_185_1, Bool.and_self]
theorem okd_186 : (cd_186).all (mm_okD 186) = true := by decide +kernel
theorem okd_187 : (cd_187).all (mm_okD 187) = true := by decide +kernel
theorem okd_188 : (cd_188).all (mm_okD 188) = true := by decide +kernel
theorem okd_189 : (cd_189).all (mm_okD 189) = true := by decide +kernel
theorem okd_190 : (cd_190).all (mm_okD 190) = true := by decide +kernel
theorem okd_191 : (cd_191).all (mm_okD 191) = true := by decide +kernel
theorem okd_192 : (cd_192).all (mm_okD 192) = true := by decide +kernel
theorem okd_193 : (cd_193).all (mm_okD 193) = true := by decide +kernel
theorem okd_194 : (cd_194).all (mm_okD 194) = true := by decide +kernel
theorem okd_195 : (cd_195).all (mm_okD 195) = true := by decide +kernel
theorem okd_196 : (cd_196).all (mm_okD 196) = true := by decide +kernel
theorem okd_197 : (cd_197).all (mm_okD 197) = true := by decide +kernel
theorem okd_198 : (cd_198).all (mm_okD 198) = true := by decide +kernel
theorem okd_199 : (cd_199).all (mm_okD 199) = true := by decide +kernel
theorem okd_200 : (cd_200).all (mm_okD 200) = true := by decide +kernel
theorem okd_201 : (cd_201).all (mm_okD 201) = true := by decide +kernel
theorem okd_202 : (cd_202).all (mm_okD 202) = true := by decide +kernel
theorem okd_203 : (cd_203).all (mm_okD 203) = true := by decide +kernel
theorem okd_204 : (cd_204).all (mm_okD 204) = true := by decide +kernel
theorem okd_205 : (cd_205).all (mm_okD 205) = true := by decide +kernel
theorem okd_206 : (cd_206).all (mm_okD 206) = true := by decide +kernel
theorem okd_207 : (cd_207).all (mm_okD 207) = true := by decide +kernel
theorem okd_208 : (cd_208).all (mm_okD 208) = true := by decide +kernel
theorem okd_209_0 : (((cd_209).drop 0).take 60).all (mm_okD 209) = true := by decide +kernel
theorem okd_209_1 : (((cd_209).drop 60).take 60).all (mm_okD 209) = true := by decide +kernel
theorem okd_209 : (cd_209).all (mm_okD 209) = true := by
  have e : cd_209 = ((cd_209).drop 0).take 60 ++ ((cd_209).drop 60).take 60 := rfl
  rw [e]
  simp only [List.all_append, okd_209_0, okd_209_1, Bool.and_self]
theorem okd_210 : (cd_210).all (mm_okD 210) = true := by decide +kernel
theorem okd_211 : (cd_211).all (mm_okD 211) = true := by decide +kernel
theorem okd_212_0 : (((cd_212).drop 0).take 60).all (mm_okD 212) = true := by decide +kernel
theorem okd_212_1 : (((cd_212).drop 60).take 60).all (mm_okD 212) = true := by decide +kernel
theorem okd_212 : (cd_212).all (mm_okD 212) = true := by
  have e : cd_212 = ((cd_212).drop 0).take 60 ++ ((cd_212).drop 60).take 60 := rfl
  rw [e]
  simp only [List.all_append, okd_212_0, okd_212_1, Bool.and_self]
theorem okd_213 : (cd_213).all (mm_okD 213) = true := by decide +kernel
theorem okd_214 : (cd_214).all (mm_okD 214) = true := by decide +kernel
theorem okd_215 : (cd_215).all (mm_okD 215) = true := by decide +kernel
theorem okd_216 : (cd_216).all (mm_okD 216) = true := by decide +kernel
theorem okd_217 : (cd_217).all (mm_okD 217) = true := by decide +kernel
theorem okd_218 : (cd_218).all (mm_okD 218) = true := by decide +kernel
theorem okd_219 : (cd_219).all (mm_okD 219) = true := by decide +kernel
theorem okd_220 : (cd_220).all (mm_okD 220) = true := by decide +kernel
theorem okd_221 : (cd_221).all (mm_okD 221) = true := by decide +kernel
theorem okd_222_0 : (((cd_222).drop 0).take 60).all (mm_okD 222) = true := by decide +kernel
theorem okd_222_1 : (((cd_222).drop 60).take 60).all (mm_okD 222) = true := by decide +kernel
theorem okd_222 : (cd_222).all (mm_okD 222) = true := by
  have e : cd_222 = ((cd_222).drop 0).take 60 ++ ((cd_222).drop 60).take 60 := rfl
  rw [e]
  simp only [List.all_append, okd_222_0, okd_222_1, Bool.and_self]
theorem okd_223 : (cd_223).all (mm_okD 223) = true := by decide +kernel
theorem okd_224 : (cd_224).all (mm_okD 224) = true := by decide +kernel
theorem okd_225 : (cd_225).all (mm_okD 225) = true := by decide +kernel
theorem okd_226 : (cd_226).all (mm_okD 226) = true := by decide +kernel
theorem okd_227 : (cd_227).all (mm_okD 227) = true := by decide +kernel
theorem okd_228 : (cd_228).all (mm_okD 228) = true := by decide +kernel
theorem okd_229 : (cd_229).all (mm_okD 229) = true := by decide +kernel
theorem okd_230 : (cd_230).all (mm_okD 230) = true := by decide +kernel
theorem okd_231_0 : (((cd_231).drop 0).take 60).all (mm_okD 231) = true := by decide +kernel
theorem okd_231_1 : (((cd_231).drop 60).take 60).all (mm_okD 231) = true := by decide +kernel
theorem okd_231 : (cd_231).all (mm_okD 231) = true := by
  have e : cd_231 = ((cd_231).drop 0).take 60 ++ ((cd_231).drop 60).take 60 := rfl
  rw [e]
  simp only [List.all_append, okd_231_0, okd_231_1, Bool.and_self]
theorem okd_232 : (cd_232).all (mm_okD 232) = true := by decide +kernel
theorem okd_233 : (cd_233).all (mm_okD 233) = true := by decide +kernel
theorem okd_234 : (cd_234).all (mm_okD 234) = true := by decide +kernel
theorem okd_235_0 : (((cd_235).drop 0).take 60).all (mm_okD 235) = true := by decide +kernel
theorem okd_235_1 : (((cd_235).drop 60).take 60).all (mm_okD 235) = true := by decide +kernel
theorem okd_235 : (cd_235).all (mm_okD 235) = true := by
  have e : cd_235 = ((cd_235).drop 0).take 60 ++ ((cd_235).drop 60).take 60 := rfl
  rw [e]
  simp only [List.all_append, okd_235_0, okd_235_1, Bool.and_self]
theorem okd_236_0 : (((cd_236).drop 0).take 60).all (mm_okD 236) = true := by decide +kernel
theorem okd_236_1 : (((cd_236).drop 60).take 60).all (mm_okD 236) = true := by decide +kernel
theorem okd_236 : (cd_236).all (mm_okD 236) = true := by
  have e : cd_236 = ((cd_236).drop 0).take 60 ++ ((cd_236).drop 60).take 60 := rfl
  rw [e]
  simp only [List.all_append, okd_236_0, okd_236_1, Bool.and_self]
theorem okd_237_0 : (((cd_237).drop 0).take 60).all (mm_okD 237) = true := by decide +kernel
theorem okd_237_1 : (((cd_237).drop 60).take 60).all (mm_okD 237) = true := by decide +kernel
theorem okd_237_2 : (((cd_237).drop 120).take 60).all (mm_okD 237) = true := by decide +kernel
theorem okd_237_3 : (((cd_237).drop 180).take 60).all (mm_okD 237) = true := by decide +kernel
theorem okd_237_4 : (((cd_237).drop 240).take 60).all (mm_okD 237) = true := by decide +kernel
theorem okd_237_5 : (((cd_237).drop 300).take 60).all (mm_okD 237) = true := by decide +kernel
theorem okd_237_6 : (((cd_237).drop 360).take 60).all (mm_okD 237) = true := by decide +kernel
theorem okd_237_7 : (((cd_237).drop 420).take 60).all (mm_okD 237) = true := by decide +kernel
theorem okd_237_8 : (((cd_237).drop 480).take 60).all (mm_okD 237) = true := by decide +kernel
theorem okd_237_9 : (((cd_237).drop 540).take 60).all (mm_okD 237) = true := by decide +kernel
theorem okd_237_10 : (((cd_237).drop 600).take 60).all (mm_okD 237) = true := by decide +kernel
theorem okd_237_11 : (((cd_237).drop 660).take 60).all (mm_okD 237) = true := by decide +kernel
theorem okd_237_12 : (((cd_237).drop 720).take 60).all (mm_okD 237) = true := by decide +kernel
theorem okd_237 : (cd_237).all (mm_okD 237) = true := by
  have e : cd_237 = ((cd_237).drop 0).take 60 ++ ((cd_237).drop 60).take 60 ++ ((cd_237).drop 120).take 60 ++ ((cd_237).drop 180).take 60 ++ ((cd_237).drop 240).take 60 ++ ((cd_237).drop 300).take 60 ++ ((cd_237).drop 360).take 60 ++ ((cd_237).drop 420).take 60 ++ ((cd_237).drop 480).take 60 ++ ((cd_237).drop 540).take 60 ++ ((cd_237).drop 600).take 60 ++ ((cd_237).drop 660).take 60 ++ ((cd_237).drop 720).take 60 := rfl
  rw [e]
  simp only [List.all_append, okd_237_0, okd_237_1, okd_237_2, okd_237_3, okd_237_4, okd_237_5, okd_237_6, okd_237_7, okd_237_8, okd_237_9, okd_237_10, okd_237_11, okd_237_12, Bool.and_self]
theorem okd_238 : (cd_238).all (mm_okD 238) = true := by decide +kernel
