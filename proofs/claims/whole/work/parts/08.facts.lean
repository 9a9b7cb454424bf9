set_option maxRecDepth 100000
/-! THE SIMULATION: what the small machine does, the machine does. -/
def mm_ad (sz b t0 : Nat) : Nat → Nat
  | 0 => b
  | 1 => t0
  | k + 2 => sz + k
def mm_tr (sz b t0 : Nat) : Value → Value
  | .ref k => .ref (mm_ad sz b t0 k)
  | v => v
theorem mm_tr_cat (sz b t0 : Nat) (v : Value) : (mm_tr sz b t0 v).category = v.category := by cases v <;> rfl
theorem mm_tr_rf (sz b t0 : Nat) (r : Option Nat) : mm_tr sz b t0 (va_rf r) = va_rf (r.map (mm_ad sz b t0)) := by cases r <;> rfl
theorem mm_ad_made {sz b t0 a : Nat} (h : 2 ≤ a) : mm_ad sz b t0 a = sz + (a - 2) := by
  obtain ⟨k, rfl⟩ : ∃ k, a = k + 2 := ⟨a - 2, by omega⟩
  rfl
/-- the instruction's length -/
def mm_len (i : Instr) : Nat := match i with
  | .tableswitch _ _ _ _ | .lookupswitch _ _ => 0
  | .bipush _ | .iload _ | .istore _ | .lload _ | .lstore _ | .aload _ | .astore _ | .newarray _ => 2
  | .sipush _ | .ldc2_w _ | .ldc_w _ | .iinc _ _ | .goto _ | .ifCond _ _ | .if_icmp _ _ | .ifnull _ | .ifnonnull _ | .getfield _ | .putfield _ | .getstatic _ | .invokevirtual _ | .invokespecial _ | .invokestatic _ | .new _ | .anewarray _ => 3
  | _ => 1
/-- the length is the instruction's, and no jump goes below 0 -/
def mm_okL (q : Nat × Instr × Nat × Int) : Bool := (mm_len q.2.1 == 0 || mm_len q.2.1 == q.2.2.1) && (match q.2.1 with
  | .goto o | .ifCond _ o | .if_icmp _ o | .ifnull o | .ifnonnull o => decide (0 ≤ (q.1 : Int) + o)
  | _ => true)
def mm_ev {α : Type} (P : Nat → α → Prop) : Nat → List α → Prop
  | _, [] => True
  | n, a :: l => P n a ∧ mm_ev P (n + 1) l
theorem mm_ev_at {α : Type} {P : Nat → α → Prop} : ∀ {l : List α} {n i : Nat} {a : α}, mm_ev P n l → l[i]? = some a → P (n + i) a := by
  intro l
  induction l with
  | nil => intro n i a _ h; simp at h
  | cons x l ih =>
    intro n i a h hi
    cases i with
    | zero => simp at hi; subst hi; exact h.1
    | succ i =>
      have h2 := ih h.2 (by simpa using hi)
      rw [show n + (i + 1) = n + 1 + i by omega]
      exact h2
/-- what is known of a method's instructions -/
def mm_fact (m : Nat) (l : List (Nat × Instr × Nat × Int)) : Prop := (∀ q ∈ l.map (fun q => (q.2.1, q.2.2.2)), mm_lkI (mm_y m).cls q.1 q.2) ∧ l.all (mm_okD m) = true ∧ l.all mm_okL = true
theorem mm_lk_mem {α : Type} {l : List (Nat × α)} {n : Nat} {x : α} (h : mm_lk l n = some x) : (n, x) ∈ l := by
  induction l with
  | nil => simp [mm_lk] at h
  | cons q l ih =>
    rw [mm_lk] at h
    cases hb : Nat.beq q.1 n with
    | true =>
      rw [hb] at h
      simp at h
      have : q.1 = n := Nat.eq_of_beq_eq_true hb
      subst this; subst h
      exact List.mem_cons_self
    | false => rw [hb] at h; exact List.mem_cons_of_mem _ (ih h)
theorem mm_evc {α : Type} {P : Nat → α → Prop} {n : Nat} {a : α} {l : List α} (h : P n a) (k : mm_ev P (n + 1) l) : mm_ev P n (a :: l) := ⟨h, k⟩
theorem mm_ev0 {α : Type} {P : Nat → α → Prop} {n : Nat} : mm_ev P n [] := trivial
theorem mm_fact_mk {m : Nat} {l : List (Nat × Instr × Nat × Int)} (h1 : ∀ q ∈ l.map (fun q => (q.2.1, q.2.2.2)), mm_lkI (mm_y m).cls q.1 q.2) (h2 : l.all (mm_okD m) = true) (h3 : l.all mm_okL = true) : mm_fact m l := ⟨h1, h2, h3⟩
theorem okl_0 : (cd_0).all mm_okL = true := by decide +kernel
theorem okl_1 : (cd_1).all mm_okL = true := by decide +kernel
theorem okl_2 : (cd_2).all mm_okL = true := by decide +kernel
theorem okl_3 : (cd_3).all mm_okL = true := by decide +kernel
theorem okl_4 : (cd_4).all mm_okL = true := by decide +kernel
theorem okl_5 : (cd_5).all mm_okL = true := by decide +kernel
theorem okl_6 : (cd_6).all mm_okL = true := by decide +kernel
theorem okl_7 : (cd_7).all mm_okL = true := by decide +kernel
theorem okl_8 : (cd_8).all mm_okL = true := by decide +kernel
theorem okl_9 : (cd_9).all mm_okL = true := by decide +kernel
theorem okl_10 : (cd_10).all mm_okL = true := by decide +kernel
theorem okl_11 : (cd_11).all mm_okL = true := by decide +kernel
theorem okl_12 : (cd_12).all mm_okL = true := by decide +kernel
theorem okl_13 : (cd_13).all mm_okL = true := by decide +kernel
theorem okl_14 : (cd_14).all mm_okL = true := by decide +kernel
theorem okl_15 : (cd_15).all mm_okL = true := by decide +kernel
theorem okl_16 : (cd_16).all mm_okL = true := by decide +kernel
theorem okl_17 : (cd_17).all mm_okL = true := by decide +kernel
theorem okl_18 : (cd_18).all mm_okL = true := by decide +kernel
theorem okl_19 : (cd_19).all mm_okL = true := by decide +kernel
theorem okl_20 : (cd_20).all mm_okL = true := by decide +kernel
theorem okl_21 : (cd_21).all mm_okL = true := by decide +kernel
theorem okl_22 : (cd_22).all mm_okL = true := by decide +kernel
theorem okl_23 : (cd_23).all mm_okL = true := by decide +kernel
theorem okl_24 : (cd_24).all mm_okL = true := by decide +kernel
theorem okl_25 : (cd_25).all mm_okL = true := by decide +kernel
theorem okl_26 : (cd_26).all mm_okL = true := by decide +kernel
theorem okl_27 : (cd_27).all mm_okL = true := by decide +kernel
theorem okl_28 : (cd_28).all mm_okL = true := by decide +kernel
theorem okl_29 : (cd_29).all mm_okL = true := by decide +kernel
theorem okl_30 : (cd_30).all mm_okL = true := by decide +kernel
theorem okl_31 : (cd_31).all mm_okL = true := by decide +kernel
theorem okl_32 : (cd_32).all mm_okL = true := by decide +kernel
theorem okl_33 : (cd_33).all mm_okL = true := by decide +kernel
theorem okl_34 : (cd_34).all mm_okL = true := by decide +kernel
theorem okl_35 : (cd_35).all mm_okL = true := by decide +kernel
theorem okl_36 : (cd_36).all mm_okL = true := by decide +kernel
theorem okl_37 : (cd_37).all mm_okL = true := by decide +kernel
theorem okl_38 : (cd_38).all mm_okL = true := by decide +kernel
theorem okl_39 : (cd_39).all mm_okL = true := by decide +kernel
theorem okl_40 : (cd_40).all mm_okL = true := by decide +kernel
theorem okl_41 : (cd_41).all mm_okL = true := by decide +kernel
theorem okl_42 : (cd_42).all mm_okL = true := by decide +kernel
theorem okl_43 : (cd_43).all mm_okL = true := by decide +kernel
theorem okl_44 : (cd_44).all mm_okL = true := by decide +kernel
theorem okl_45 : (cd_45).all mm_okL = true := by decide +kernel
theorem okl_46 : (cd_46).all mm_okL = true := by decide +kernel
theorem okl_47 : (cd_47).all mm_okL = true := by decide +kernel
theorem okl_48 : (cd_48).all mm_okL = true := by decide +kernel
theorem okl_49 : (cd_49).all mm_okL = true := by decide +kernel
theorem okl_50 : (cd_50).all mm_okL = true := by decide +kernel
theorem okl_51 : (cd_51).all mm_okL = true := by decide +kernel
theorem okl_52 : (cd_52).all mm_okL = true := by decide +kernel
theorem okl_53 : (cd_53).all mm_okL = true := by decide +kernel
theorem okl_54 : (cd_54).all mm_okL = true := by decide +kernel
theorem okl_55 : (cd_55).all mm_okL = true := by decide +kernel
theorem okl_56 : (cd_56).all mm_okL = true := by decide +kernel
theorem okl_57 : (cd_57).all mm_okL = true := by decide +kernel
theorem okl_58 : (cd_58).all mm_okL = true := by decide +kernel
theorem okl_59 : (cd_59).all mm_okL = true := by decide +kernel
theorem okl_60 : (cd_60).all mm_okL = true := by decide +kernel
theorem okl_61 : (cd_61).all mm_okL = true := by decide +kernel
theorem okl_62 : (cd_62).all mm_okL = true := by decide +kernel
theorem okl_63 : (cd_63).all mm_okL = true := by decide +kernel
theorem okl_64 : (cd_64).all mm_okL = true := by decide +kernel
theorem okl_65 : (cd_65).all mm_okL = true := by decide +kernel
theorem okl_66 : (cd_66).all mm_okL = true := by decide +kernel
theorem okl_67 : (cd_67).all mm_okL = true := by decide +kernel
theorem okl_68 : (cd_68).all mm_okL = true := by decide +kernel
theorem okl_69 : (cd_69).all mm_okL = true := by decide +kernel
theorem okl_70 : (cd_70).all mm_okL = true := by decide +kernel
theorem okl_71 : (cd_71).all mm_okL = true := by decide +kernel
theorem okl_72 : (cd_72).all mm_okL = true := by decide +kernel
theorem okl_73 : (cd_73).all mm_okL = true := by decide +kernel
theorem okl_74 : (cd_74).all mm_okL = true := by decide +kernel
theorem okl_75 : (cd_75).all mm_okL = true := by decide +kernel
theorem okl_76 : (cd_76).all mm_okL = true := by decide +kernel
theorem okl_77 : (cd_77).all mm_okL = true := by decide +kernel
theorem okl_78 : (cd_78).all mm_okL = true := by decide +kernel
theorem okl_79 : (cd_79).all mm_okL = true := by decide +kernel
theorem okl_80 : (cd_80).all mm_okL = true := by decide +kernel
theorem okl_81 : (cd_81).all mm_okL = true := by decide +kernel
theorem okl_82 : (cd_82).all mm_okL = true := by decide +kernel
theorem okl_83 : (cd_83).all mm_okL = true := by decide +kernel
theorem okl_84 : (cd_84).all mm_okL = true := by decide +kernel
theorem okl_85 : (cd_85).all mm_okL = true := by decide +kernel
theorem okl_86 : (cd_86).all mm_okL = true := by decide +kernel
theorem okl_87 : (cd_87).all mm_okL = true := by decide +kernel
theorem okl_88 : (cd_88).all mm_okL = true := by decide +kernel
theorem okl_89 : (cd_89).all mm_okL = true := by decide +kernel
theorem okl_90 : (cd_90).all mm_okL = true := by decide +kernel
theorem okl_91 : (cd_91).all mm_okL = true := by decide +kernel
theorem okl_92 : (cd_92).all mm_okL = true := by decide +kernel
theorem okl_93 : (cd_93).all mm_okL = true := by decide +kernel
theorem okl_94 : (cd_94).all mm_okL = true := by decide +kernel
theorem okl_95 : (cd_95).all mm_okL = true := by decide +kernel
theorem okl_96 : (cd_96).all mm_okL = true := by decide +kernel
theorem okl_97 : (cd_97).all mm_okL = true := by decide +kernel
theorem okl_98 : (cd_98).all mm_okL = true := by decide +kernel
theorem okl_99 : (cd_99).all mm_okL = true := by decide +kernel
theorem okl_100 : (cd_100).all mm_okL = true := by decide +kernel
theorem okl_101 : (cd_101).all mm_okL = true := by decide +kernel
theorem okl_102 : (cd_102).all mm_okL = true := by decide +kernel
theorem okl_103 : (cd_103).all mm_okL = true := by decide +kernel
theorem okl_104 : (cd_104).all mm_okL = true := by decide +kernel
theorem okl_105 : (cd_105).all mm_okL = true := by decide +kernel
theorem okl_106 : (cd_106).all mm_okL = true := by decide +kernel
theorem okl_107 : (cd_107).all mm_okL = true := by decide +kernel
theorem okl_108 : (cd_108).all mm_okL = true := by decide +kernel
theorem okl_109 : (cd_109).all mm_okL = true := by decide +kernel
theorem okl_110 : (cd_110).all mm_okL = true := by decide +kernel
theorem okl_111 : (cd_111).all mm_okL = true := by decide +kernel
theorem okl_112 : (cd_112).all mm_okL = true := by decide +kernel
theorem okl_113 : (cd_113).all mm_okL = true := by decide +kernel
theorem okl_114 : (cd_114).all mm_okL = true := by decide +kernel
theorem okl_115 : (cd_115).all mm_okL = true := by decide +kernel
theorem okl_116 : (cd_116).all mm_okL = true := by decide +kernel
theorem okl_117 : (cd_117).all mm_okL = true := by decide +kernel
theorem okl_118 : (cd_118).all mm_okL = true := by decide +kernel
theorem okl_119 : (cd_119).all mm_okL = true := by decide +kernel
theorem okl_120 : (cd_120).all mm_okL = true := by decide +kernel
theorem okl_121 : (cd_121).all mm_okL = true := by decide +kernel
theorem okl_122 : (cd_122).all mm_okL = true := by decide +kernel
theorem okl_123 : (cd_123).all mm_okL = true := by decide +kernel
theorem okl_124 : (cd_124).all mm_okL = true := by decide +kernel
theorem okl_125 : (cd_125).all mm_okL = true := by decide +kernel
theorem okl_126 : (cd_126).all mm_okL = true := by decide +kernel
theorem okl_127 : (cd_127).all mm_okL = true := by decide +kernel
theorem okl_128 : (cd_128).all mm_okL = true := by decide +kernel
theorem okl_129 : (cd_129).all mm_okL = true := by decide +kernel
theorem okl_130 : (cd_130).all mm_okL = true := by decide +kernel
theorem okl_131 : (cd_131).all mm_okL = true := by decide +kernel
theorem okl_132 : (cd_132).all mm_okL = true := by decide +kernel
theorem okl_133 : (cd_133).all mm_okL = true := by decide +kernel
theorem okl_134 : (cd_134).all mm_okL = true := by decide +kernel
theorem okl_135 : (cd_135).all mm_okL = true := by decide +kernel
theorem okl_136 : (cd_136).all mm_okL = true := by decide +kernel
theorem okl_137 : (cd_137).all mm_okL = true := by decide +kernel
theorem okl_138 : (cd_138).all mm_okL = true := by decide +kernel
theorem okl_139 : (cd_139).all mm_okL = true := by decide +kernel
theorem okl_140 : (cd_140).all mm_okL = true := by decide +kernel
theorem okl_141 : (cd_141).all mm_okL = true := by decide +kernel
theorem okl_142 : (cd_142).all mm_okL = true := by decide +kernel
theorem okl_143 : (cd_143).all mm_okL = true := by decide +kernel
theorem okl_144 : (cd_144).all mm_okL = true := by decide +kernel
theorem okl_145 : (cd_145).all mm_okL = true := by decide +kernel
theorem okl_146 : (cd_146).all mm_okL = true := by decide +kernel
theorem okl_147 : (cd_147).all mm_okL = true := by decide +kernel
theorem okl_148 : (cd_148).all mm_okL = true := by decide +kernel
theorem okl_149 : (cd_149).all mm_okL = true := by decide +kernel
theorem okl_150 : (cd_150).all mm_okL = true := by decide +kernel
theorem okl_151 : (cd_151).all mm_okL = true := by decide +kernel
theorem okl_152 : (cd_152).all mm_okL = true := by decide +kernel
theorem okl_153 : (cd_153).all mm_okL = true := by decide +kernel
theorem okl_154 : (cd_154).all mm_okL = true := by decide +kernel
theorem okl_155 : (cd_155).all mm_okL = true := by decide +kernel
theorem okl_156 : (cd_156).all mm_okL = true := by decide +kernel
theorem okl_157 : (cd_157).all mm_okL = true := by decide +kernel
theorem okl_158 : (cd_158).all mm_okL = true := by decide +kernel
theorem okl_159 : (cd_159).all mm_okL = true := by decide +kernel
theorem okl_160 : (cd_160).all mm_okL = true := by decide +kernel
theorem okl_161 : (cd_161).all mm_okL = true := by decide +kernel
theorem okl_162 : (cd_162).all mm_okL = true := by decide +kernel
theorem okl_163 : (cd_163).all mm_okL = true := by decide +kernel
theorem okl_164 : (cd_164).all mm_okL = true := by decide +kernel
theorem okl_165 : (cd_165).all mm_okL = true := by decide +kernel
theorem okl_166 : (cd_166).all mm_okL = true := by decide +kernel
theorem okl_167 : (cd_167).all mm_okL = true := by decide +kernel
theorem okl_168 : (cd_168).all mm_okL = true := by decide +kernel
theorem okl_169 : (cd_169).all mm_okL = true := by decide +kernel
theorem okl_170 : (cd_170).all mm_okL = true := by decide +kernel
theorem okl_171 : (cd_171).all mm_okL = true := by decide +kernel
theorem okl_172 : (cd_172).all mm_okL = true := by decide +kernel
theorem okl_173 : (cd_173).all mm_okL = true := by decide +kernel
theorem okl_174 : (cd_174).all mm_okL = true := by decide +kernel
theorem okl_175 : (cd_175).all mm_okL = true := by decide +kernel
theorem okl_176 : (cd_176).all mm_okL = true := by decide +kernel
theorem okl_177 : (cd_177).all mm_okL = true := by decide +kernel
theorem okl_178 : (cd_178).all mm_okL = true := by decide +kernel
theorem okl_179 : (cd_179).all mm_okL = true := by decide +kernel
theorem okl_180 : (cd_180).all mm_okL = true := by decide +kernel
theorem okl_181 : (cd_181).all mm_okL = true := by decide +kernel
theorem okl_182 : (cd_182).all mm_okL = true := by decide +kernel
theorem okl_183 : (cd_183).all mm_okL = true := by decide +kernel
theorem okl_184 : (cd_184).all mm_okL = true := by decide +kernel
theorem okl_185 : (cd_185).all mm_okL = true := by decide +kernel
theorem okl_186 : (cd_186).all mm_okL = true := by decide +kernel
theorem okl_187 : (cd_187).all mm_okL = true := by decide +kernel
theorem okl_188 : (cd_188).all mm_okL = true := by decide +kernel
theorem okl_189 : (cd_189).all mm_okL = true := by decide +kernel
theorem okl_190 : (cd_190).all mm_okL = true := by decide +kernel
theorem okl_191 : (cd_191).all mm_okL = true := by decide +kernel
theorem okl_192 : (cd_192).all mm_okL = true := by decide +kernel
theorem okl_193 : (cd_193).all mm_okL = true := by decide +kernel
theorem okl_194 : (cd_194).all mm_okL = true := by decide +kernel
theorem okl_195 : (cd_195).all mm_okL = true := by decide +kernel
theorem okl_196 : (cd_196).all mm_okL = true := by decide +kernel
theorem okl_197 : (cd_197).all mm_okL = true := by decide +kernel
theorem okl_198 : (cd_198).all mm_okL = true := by decide +kernel
theorem okl_199 : (cd_199).all mm_okL = true := by decide +kernel
theorem okl_200 : (cd_200).all mm_okL = true := by decide +kernel
theorem okl_201 : (cd_201).all mm_okL = true := by decide +kernel
theorem okl_202 : (cd_202).all mm_okL = true := by decide +kernel
theorem okl_203 : (cd_203).all mm_okL = true := by decide +kernel
theorem okl_204 : (cd_204).all mm_okL = true := by decide +kernel
theorem okl_205 : (cd_205).all mm_okL = true := by decide +kernel
theorem okl_206 : (cd_206).all mm_okL = true := by decide +kernel
theorem okl_207 : (cd_207).all mm_okL = true := by decide +kernel
theorem okl_208 : (cd_208).all mm_okL = true := by decide +kernel
theorem okl_209 : (cd_209).all mm_okL = true := by decide +kernel
theorem okl_210 : (cd_210).all mm_okL = true := by decide +kernel
theorem okl_211 : (cd_211).all mm_okL = true := by decide +kernel
theorem okl_212 : (cd_212).all mm_okL = true := by decide +kernel
theorem okl_213 : (cd_213).all mm_okL = true := by decide +kernel
theorem okl_214 : (cd_214).all mm_okL = true := by decide +kernel
theorem okl_215 : (cd_215).all mm_okL = true := by decide +kernel
theorem okl_216 : (cd_216).all mm_okL = true := by decide +kernel
theorem okl_217 : (cd_217).all mm_okL = true := by decide +kernel
theorem okl_218 : (cd_218).all mm_okL = true := by decide +kernel
theorem okl_219 : (cd_219).all mm_okL = true := by decide +kernel
theorem okl_220 : (cd_220).all mm_okL = true := by decide +kernel
theorem okl_221 : (cd_221).all mm_okL = true := by decide +kernel
theorem okl_222 : (cd_222).all mm_okL = true := by decide +kernel
theorem okl_223 : (cd_223).all mm_okL = true := by decide +kernel
theorem okl_224 : (cd_224).all mm_okL = true := by decide +kernel
theorem okl_225 : (cd_225).all mm_okL = true := by decide +kernel
theorem okl_226 : (cd_226).all mm_okL = true := by decide +kernel
theorem okl_227 : (cd_227).all mm_okL = true := by decide +kernel
theorem okl_228 : (cd_228).all mm_okL = true := by decide +kernel
theorem okl_229 : (cd_229).all mm_okL = true := by decide +kernel
theorem okl_230 : (cd_230).all mm_okL = true := by decide +kernel
theorem okl_231 : (cd_231).all mm_okL = true := by decide +kernel
theorem okl_232 : (cd_232).all mm_okL = true := by decide +kernel
theorem okl_233 : (cd_233).all mm_okL = true := by decide +kernel
theorem okl_234 : (cd_234).all mm_okL = true := by decide +kernel
theorem okl_235 : (cd_235).all mm_okL = true := by decide +kernel
theorem okl_236 : (cd_236).all mm_okL = true := by decide +kernel
theorem okl_237 : (cd_237).all mm_okL = true := by decide +kernel
theorem okl_238 : (cd_238).all mm_okL = true := by decide +kernel
theorem okf_0 : mm_fact 0 cd_0 := mm_fact_mk lki_0 okd_0 okl_0
theorem okf_1 : mm_fact 1 cd_1 := mm_fact_mk lki_1 okd_1 okl_1
theorem okf_2 : mm_fact 2 cd_2 := mm_fact_mk lki_2 okd_2 okl_2
theorem okf_3 : mm_fact 3 cd_3 := mm_fact_mk lki_3 okd_3 okl_3
theorem okf_4 : mm_fact 4 cd_4 := mm_fact_mk lki_4 okd_4 okl_4
theorem okf_5 : mm_fact 5 cd_5 := mm_fact_mk lki_5 okd_5 okl_5
theorem okf_6 : mm_fact 6 cd_6 := mm_fact_mk lki_6 okd_6 okl_6
theorem okf_7 : mm_fact 7 cd_7 := mm_fact_mk lki_7 okd_7 okl_7
theorem okf_8 : mm_fact 8 cd_8 := mm_fact_mk lki_8 okd_8 okl_8
theorem okf_9 : mm_fact 9 cd_9 := mm_fact_mk lki_9 okd_9 okl_9
theorem okf_10 : mm_fact 10 cd_10 := mm_fact_mk lki_10 okd_10 okl_10
theorem okf_11 : mm_fact 11 cd_11 := mm_fact_mk lki_11 okd_11 okl_11
theorem okf_12 : mm_fact 12 cd_12 := mm_fact_mk lki_12 okd_12 okl_12
theorem okf_13 : mm_fact 13 cd_13 := mm_fact_mk lki_13 okd_13 okl_13
theorem okf_14 : mm_fact 14 cd_14 := mm_fact_mk lki_14 okd_14 okl_14
theorem okf_15 : mm_fact 15 cd_15 := mm_fact_mk lki_15 okd_15 okl_15
theorem okf_16 : mm_fact 16 cd_16 := mm_fact_mk lki_16 okd_16 okl_16
theorem okf_17 : mm_fact 17 cd_17 := mm_fact_mk lki_17 okd_17 okl_17
theorem okf_18 : mm_fact 18 cd_18 := mm_fact_mk lki_18 okd_18 okl_18
theorem okf_19 : mm_fact 19 cd_19 := mm_fact_mk lki_19 okd_19 okl_19
theorem okf_20 : mm_fact 20 cd_20 := mm_fact_mk lki_20 okd_20 okl_20
theorem okf_21 : mm_fact 21 cd_21 := mm_fact_mk lki_21 okd_21 okl_21
theorem okf_22 : mm_fact 22 cd_22 := mm_fact_mk lki_22 okd_22 okl_22
theorem okf_23 : mm_fact 23 cd_23 := mm_fact_mk lki_23 okd_23 okl_23
theorem okf_24 : mm_fact 24 cd_24 := mm_fact_mk lki_24 okd_24 okl_24
theorem okf_25 : mm_fact 25 cd_25 := mm_fact_mk lki_25 okd_25 okl_25
theorem okf_26 : mm_fact 26 cd_26 := mm_fact_mk lki_26 okd_26 okl_26
theorem okf_27 : mm_fact 27 cd_27 := mm_fact_mk lki_27 okd_27 okl_27
theorem okf_28 : mm_fact 28 cd_28 := mm_fact_mk lki_28 okd_28 okl_28
theorem okf_29 : mm_fact 29 cd_29 := mm_fact_mk lki_29 okd_29 okl_29
theorem okf_30 : mm_fact 30 cd_30 := mm_fact_mk lki_30 okd_30 okl_30
theorem okf_31 : mm_fact 31 cd_31 := mm_fact_mk lki_31 okd_31 okl_31
theorem okf_32 : mm_fact 32 cd_32 := mm_fact_mk lki_32 okd_32 okl_32
theorem okf_33 : mm_fact 33 cd_33 := mm_fact_mk lki_33 okd_33 okl_33
theorem okf_34 : mm_fact 34 cd_34 := mm_fact_mk lki_34 okd_34 okl_34
theorem okf_35 : mm_fact 35 cd_35 := mm_fact_mk lki_35 okd_35 okl_35
theorem okf_36 : mm_fact 36 cd_36 := mm_fact_mk lki_36 okd_36 okl_36
theorem okf_37 : mm_fact 37 cd_37 := mm_fact_mk lki_37 okd_37 okl_37
theorem okf_38 : mm_fact 38 cd_38 := mm_fact_mk lki_38 okd_38 okl_38
theorem okf_39 : mm_fact 39 cd_39 := mm_fact_mk lki_39 okd_39 okl_39
theorem okf_40 : mm_fact 40 cd_40 := mm_fact_mk lki_40 okd_40 okl_40
theorem okf_41 : mm_fact 41 cd_41 := mm_fact_mk lki_41 okd_41 okl_41
theorem okf_42 : mm_fact 42 cd_42 := mm_fact_mk lki_42 okd_42 okl_42
theorem okf_43 : mm_fact 43 cd_43 := mm_fact_mk lki_43 okd_43 okl_43
theorem okf_44 : mm_fact 44 cd_44 := mm_fact_mk lki_44 okd_44 okl_44
theorem okf_45 : mm_fact 45 cd_45 := mm_fact_mk lki_45 okd_45 okl_45
theorem okf_46 : mm_fact 46 cd_46 := mm_fact_mk lki_46 okd_46 okl_46
theorem okf_47 : mm_fact 47 cd_47 := mm_fact_mk lki_47 okd_47 okl_47
theorem okf_48 : mm_fact 48 cd_48 := mm_fact_mk lki_48 okd_48 okl_48
theorem okf_49 : mm_fact 49 cd_49 := mm_fact_mk lki_49 okd_49 okl_49
theorem okf_50 : mm_fact 50 cd_50 := mm_fact_mk lki_50 okd_50 okl_50
theorem okf_51 : mm_fact 51 cd_51 := mm_fact_mk lki_51 okd_51 okl_51
theorem okf_52 : mm_fact 52 cd_52 := mm_fact_mk lki_52 okd_52 okl_52
theorem okf_53 : mm_fact 53 cd_53 := mm_fact_mk lki_53 okd_53 okl_53
theorem okf_54 : mm_fact 54 cd_54 := mm_fact_mk lki_54 okd_54 okl_54
theorem okf_55 : mm_fact 55 cd_55 := mm_fact_mk lki_55 okd_55 okl_55
theorem okf_56 : mm_fact 56 cd_56 := mm_fact_mk lki_56 okd_56 okl_56
theorem okf_57 : mm_fact 57 cd_57 := mm_fact_mk lki_57 okd_57 okl_57
theorem okf_58 : mm_fact 58 cd_58 := mm_fact_mk lki_58 okd_58 okl_58
theorem okf_59 : mm_fact 59 cd_59 := mm_fact_mk lki_59 okd_59 okl_59
theorem okf_60 : mm_fact 60 cd_60 := mm_fact_mk lki_60 okd_60 okl_60
theorem okf_61 : mm_fact 61 cd_61 := mm_fact_mk lki_61 okd_61 okl_61
theorem okf_62 : mm_fact 62 cd_62 := mm_fact_mk lki_62 okd_62 okl_62
theorem okf_63 : mm_fact 63 cd_63 := mm_fact_mk lki_63 okd_63 okl_63
theorem okf_64 : mm_fact 64 cd_64 := mm_fact_mk lki_64 okd_64 okl_64
theorem okf_65 : mm_fact 65 cd_65 := mm_fact_mk lki_65 okd_65 okl_65
theorem okf_66 : mm_fact 66 cd_66 := mm_fact_mk lki_66 okd_66 okl_66
theorem okf_67 : mm_fact 67 cd_67 := mm_fact_mk lki_67 okd_67 okl_67
theorem okf_68 : mm_fact 68 cd_68 := mm_fact_mk lki_68 okd_68 okl_68
theorem okf_69 : mm_fact 69 cd_69 := mm_fact_mk lki_69 okd_69 okl_69
theorem okf_70 : mm_fact 70 cd_70 := mm_fact_mk lki_70 okd_70 okl_70
theorem okf_71 : mm_fact 71 cd_71 := mm_fact_mk lki_71 okd_71 okl_71
theorem okf_72 : mm_fact 72 cd_72 := mm_fact_mk lki_72 okd_72 okl_72
theorem okf_73 : mm_fact 73 cd_73 := mm_fact_mk lki_73 okd_73 okl_73
theorem okf_74 : mm_fact 74 cd_74 := mm_fact_mk lki_74 okd_74 okl_74
theorem okf_75 : mm_fact 75 cd_75 := mm_fact_mk lki_75 okd_75 okl_75
theorem okf_76 : mm_fact 76 cd_76 := mm_fact_mk lki_76 okd_76 okl_76
theorem okf_77 : mm_fact 77 cd_77 := mm_fact_mk lki_77 okd_77 okl_77
theorem okf_78 : mm_fact 78 cd_78 := mm_fact_mk lki_78 okd_78 okl_78
theorem okf_79 : mm_fact 79 cd_79 := mm_fact_mk lki_79 okd_79 okl_79
theorem okf_80 : mm_fact 80 cd_80 := mm_fact_mk lki_80 okd_80 okl_80
theorem okf_81 : mm_fact 81 cd_81 := mm_fact_mk lki_81 okd_81 okl_81
theorem okf_82 : mm_fact 82 cd_82 := mm_fact_mk lki_82 okd_82 okl_82
theorem okf_83 : mm_fact 83 cd_83 := mm_fact_mk lki_83 okd_83 okl_83
theorem okf_84 : mm_fact 84 cd_84 := mm_fact_mk lki_84 okd_84 okl_84
theorem okf_85 : mm_fact 85 cd_85 := mm_fact_mk lki_85 okd_85 okl_85
theorem okf_86 : mm_fact 86 cd_86 := mm_fact_mk lki_86 okd_86 okl_86
theorem okf_87 : mm_fact 87 cd_87 := mm_fact_mk lki_87 okd_87 okl_87
theorem okf_88 : mm_fact 88 cd_88 := mm_fact_mk lki_88 okd_88 okl_88
theorem okf_89 : mm_fact 89 cd_89 := mm_fact_mk lki_89 okd_89 okl_89
theorem okf_90 : mm_fact 90 cd_90 := mm_fact_mk lki_90 okd_90 okl_90
theorem okf_91 : mm_fact 91 cd_91 := mm_fact_mk lki_91 okd_91 okl_91
theorem okf_92 : mm_fact 92 cd_92 := mm_fact_mk lki_92 okd_92 okl_92
theorem okf_93 : mm_fact 93 cd_93 := mm_fact_mk lki_93 okd_93 okl_93
theorem okf_94 : mm_fact 94 cd_94 := mm_fact_mk lki_94 okd_94 okl_94
theorem okf_95 : mm_fact 95 cd_95 := mm_fact_mk lki_95 okd_95 okl_95
theorem okf_96 : mm_fact 96 cd_96 := mm_fact_mk lki_96 okd_96 okl_96
theorem okf_97 : mm_fact 97 cd_97 := mm_fact_mk lki_97 okd_97 okl_97
theorem okf_98 : mm_fact 98 cd_98 := mm_fact_mk lki_98 okd_98 okl_98
theorem okf_99 : mm_fact 99 cd_99 := mm_fact_mk lki_99 okd_99 okl_99
theorem okf_100 : mm_fact 100 cd_100 := mm_fact_mk lki_100 okd_100 okl_100
theorem okf_101 : mm_fact 101 cd_101 := mm_fact_mk lki_101 okd_101 okl_101
theorem okf_102 : mm_fact 102 cd_102 := mm_fact_mk lki_102 okd_102 okl_102
theorem okf_103 : mm_fact 103 cd_103 := mm_fact_mk lki_103 okd_103 okl_103
theorem okf_104 : mm_fact 104 cd_104 := mm_fact_mk lki_104 okd_104 okl_104
theorem okf_105 : mm_fact 105 cd_105 := mm_fact_mk lki_105 okd_105 okl_105
theorem okf_106 : mm_fact 106 cd_106 := mm_fact_mk lki_106 okd_106 okl_106
theorem okf_107 : mm_fact 107 cd_107 := mm_fact_mk lki_107 okd_107 okl_107
theorem okf_108 : mm_fact 108 cd_108 := mm_fact_mk lki_108 okd_108 okl_108
theorem okf_109 : mm_fact 109 cd_109 := mm_fact_mk lki_109 okd_109 okl_109
theorem okf_110 : mm_fact 110 cd_110 := mm_fact_mk lki_110 okd_110 okl_110
theorem okf_111 : mm_fact 111 cd_111 := mm_fact_mk lki_111 okd_111 okl_111
theorem okf_112 : mm_fact 112 cd_112 := mm_fact_mk lki_112 okd_112 okl_112
theorem okf_113 : mm_fact 113 cd_113 := mm_fact_mk lki_113 okd_113 okl_113
theorem okf_114 : mm_fact 114 cd_114 := mm_fact_mk lki_114 okd_114 okl_114
theorem okf_115 : mm_fact 115 cd_115 := mm_fact_mk lki_115 okd_115 okl_115
theorem okf_116 : mm_fact 116 cd_116 := mm_fact_mk lki_116 okd_116 okl_116
theorem okf_117 : mm_fact 117 cd_117 := mm_fact_mk lki_117 okd_117 okl_117
theorem okf_118 : mm_fact 118 cd_118 := mm_fact_mk lki_118 okd_118 okl_118
theorem okf_119 : mm_fact 119 cd_119 := mm_fact_mk lki_119 okd_119 okl_119
theorem okf_120 : mm_fact 120 cd_120 := mm_fact_mk lki_120 okd_120 okl_120
theorem okf_121 : mm_fact 121 cd_121 := mm_fact_mk lki_121 okd_121 okl_121
theorem okf_122 : mm_fact 122 cd_122 := mm_fact_mk lki_122 okd_122 okl_122
theorem okf_123 : mm_fact 123 cd_123 := mm_fact_mk lki_123 okd_123 okl_123
theorem okf_124 : mm_fact 124 cd_124 := mm_fact_mk lki_124 okd_124 okl_124
theorem okf_125 : mm_fact 125 cd_125 := mm_fact_mk lki_125 okd_125 okl_125
theorem okf_126 : mm_fact 126 cd_126 := mm_fact_mk lki_126 okd_126 okl_126
theorem okf_127 : mm_fact 127 cd_127 := mm_fact_mk lki_127 okd_127 okl_127
theorem okf_128 : mm_fact 128 cd_128 := mm_fact_mk lki_128 okd_128 okl_128
theorem okf_129 : mm_fact 129 cd_129 := mm_fact_mk lki_129 okd_129 okl_129
theorem okf_130 : mm_fact 130 cd_130 := mm_fact_mk lki_130 okd_130 okl_130
theorem okf_131 : mm_fact 131 cd_131 := mm_fact_mk lki_131 okd_131 okl_131
theorem okf_132 : mm_fact 132 cd_132 := mm_fact_mk lki_132 okd_132 okl_132
theorem okf_133 : mm_fact 133 cd_133 := mm_fact_mk lki_133 okd_133 okl_133
theorem okf_134 : mm_fact 134 cd_134 := mm_fact_mk lki_134 okd_134 okl_134
theorem okf_135 : mm_fact 135 cd_135 := mm_fact_mk lki_135 okd_135 okl_135
theorem okf_136 : mm_fact 136 cd_136 := mm_fact_mk lki_136 okd_136 okl_136
theorem okf_137 : mm_fact 137 cd_137 := mm_fact_mk lki_137 okd_137 okl_137
theorem okf_138 : mm_fact 138 cd_138 := mm_fact_mk lki_138 okd_138 okl_138
theorem okf_139 : mm_fact 139 cd_139 := mm_fact_mk lki_139 okd_139 okl_139
theorem okf_140 : mm_fact 140 cd_140 := mm_fact_mk lki_140 okd_140 okl_140
theorem okf_141 : mm_fact 141 cd_141 := mm_fact_mk lki_141 okd_141 okl_141
theorem okf_142 : mm_fact 142 cd_142 := mm_fact_mk lki_142 okd_142 okl_142
theorem okf_143 : mm_fact 143 cd_143 := mm_fact_mk lki_143 okd_143 okl_143
theorem okf_144 : mm_fact 144 cd_144 := mm_fact_mk lki_144 okd_144 okl_144
theorem okf_145 : mm_fact 145 cd_145 := mm_fact_mk lki_145 okd_145 okl_145
theorem okf_146 : mm_fact 146 cd_146 := mm_fact_mk lki_146 okd_146 okl_146
theorem okf_147 : mm_fact 147 cd_147 := mm_fact_mk lki_147 okd_147 okl_147
theorem okf_148 : mm_fact 148 cd_148 := mm_fact_mk lki_148 okd_148 okl_148
theorem okf_149 : mm_fact 149 cd_149 := mm_fact_mk lki_149 okd_149 okl_149
theorem okf_150 : mm_fact 150 cd_150 := mm_fact_mk lki_150 okd_150 okl_150
theorem okf_151 : mm_fact 151 cd_151 := mm_fact_mk lki_151 okd_151 okl_151
theorem okf_152 : mm_fact 152 cd_152 := mm_fact_mk lki_152 okd_152 okl_152
theorem okf_153 : mm_fact 153 cd_153 := mm_fact_mk lki_153 okd_153 okl_153
theorem okf_154 : mm_fact 154 cd_154 := mm_fact_mk lki_154 okd_154 okl_154
theorem okf_155 : mm_fact 155 cd_155 := mm_fact_mk lki_155 okd_155 okl_155
theorem okf_156 : mm_fact 156 cd_156 := mm_fact_mk lki_156 okd_156 okl_156
theorem okf_157 : mm_fact 157 cd_157 := mm_fact_mk lki_157 okd_157 okl_157
theorem okf_158 : mm_fact 158 cd_158 := mm_fact_mk lki_158 okd_158 okl_158
theorem okf_159 : mm_fact 159 cd_159 := mm_fact_mk lki_159 okd_159 okl_159
theorem okf_160 : mm_fact 160 cd_160 := mm_fact_mk lki_160 okd_160 okl_160
theorem okf_161 : mm_fact 161 cd_161 := mm_fact_mk lki_161 okd_161 okl_161
theorem okf_162 : mm_fact 162 cd_162 := mm_fact_mk lki_162 okd_162 okl_162
theorem okf_163 : mm_fact 163 cd_163 := mm_fact_mk lki_163 okd_163 okl_163
theorem okf_164 : mm_fact 164 cd_164 := mm_fact_mk lki_164 okd_164 okl_164
theorem okf_165 : mm_fact 165 cd_165 := mm_fact_mk lki_165 okd_165 okl_165
theorem okf_166 : mm_fact 166 cd_166 := mm_fact_mk lki_166 okd_166 okl_166
theorem okf_167 : mm_fact 167 cd_167 := mm_fact_mk lki_167 okd_167 okl_167
theorem okf_168 : mm_fact 168 cd_168 := mm_fact_mk lki_168 okd_168 okl_168
theorem okf_169 : mm_fact 169 cd_169 := mm_fact_mk lki_169 okd_169 okl_169
theorem okf_170 : mm_fact 170 cd_170 := mm_fact_mk lki_170 okd_170 okl_170
theorem okf_171 : mm_fact 171 cd_171 := mm_fact_mk lki_171 okd_171 okl_171
theorem okf_172 : mm_fact 172 cd_172 := mm_fact_mk lki_172 okd_172 okl_172
theorem okf_173 : mm_fact 173 cd_173 := mm_fact_mk lki_173 okd_173 okl_173
theorem okf_174 : mm_fact 174 cd_174 := mm_fact_mk lki_174 okd_174 okl_174
theorem okf_175 : mm_fact 175 cd_175 := mm_fact_mk lki_175 okd_175 okl_175
theorem okf_176 : mm_fact 176 cd_176 := mm_fact_mk lki_176 okd_176 okl_176
theorem okf_177 : mm_fact 177 cd_177 := mm_fact_mk lki_177 okd_177 okl_177
theorem okf_178 : mm_fact 178 cd_178 := mm_fact_mk lki_178 okd_178 okl_178
theorem okf_179 : mm_fact 179 cd_179 := mm_fact_mk lki_179 okd_179 okl_179
theorem okf_180 : mm_fact 180 cd_180 := mm_fact_mk lki_180 okd_180 okl_180
theorem okf_181 : mm_fact 181 cd_181 := mm_fact_mk lki_181 okd_181 okl_181
theorem okf_182 : mm_fact 182 cd_182 := mm_fact_mk lki_182 okd_182 okl_182
theorem okf_183 : mm_fact 183 cd_183 := mm_fact_mk lki_183 okd_183 okl_183
theorem okf_184 : mm_fact 184 cd_184 := mm_fact_mk lki_184 okd_184 okl_184
theorem okf_185 : mm_fact 185 cd_185 := mm_fact_mk lki_185 okd_185 okl_185
theorem okf_186 : mm_fact 186 cd_186 := mm_fact_mk lki_186 okd_186 okl_186
theorem okf_187 : mm_fact 187 cd_187 := mm_fact_mk lki_187 okd_187 okl_187
theorem okf_188 : mm_fact 188 cd_188 := mm_fact_mk lki_188 okd_188 okl_188
theorem okf_189 : mm_fact 189 cd_189 := mm_fact_mk lki_189 okd_189 okl_189
theorem okf_190 : mm_fact 190 cd_190 := mm_fact_mk lki_190 okd_190 okl_190
theorem okf_191 : mm_fact 191 cd_191 := mm_fact_mk lki_191 okd_191 okl_191
theorem okf_192 : mm_fact 192 cd_192 := mm_fact_mk lki_192 okd_192 okl_192
theorem okf_193 : mm_fact 193 cd_193 := mm_fact_mk lki_193 okd_193 okl_193
theorem okf_194 : mm_fact 194 cd_194 := mm_fact_mk lki_194 okd_194 okl_194
theorem okf_195 : mm_fact 195 cd_195 := mm_fact_mk lki_195 okd_195 okl_195
theorem okf_196 : mm_fact 196 cd_196 := mm_fact_mk lki_196 okd_196 okl_196
theorem okf_197 : mm_fact 197 cd_197 := mm_fact_mk lki_197 okd_197 okl_197
theorem okf_198 : mm_fact 198 cd_198 := mm_fact_mk lki_198 okd_198 okl_198
theorem okf_199 : mm_fact 199 cd_199 := mm_fact_mk lki_199 okd_199 okl_199
theorem okf_200 : mm_fact 200 cd_200 := mm_fact_mk lki_200 okd_200 okl_200
theorem okf_201 : mm_fact 201 cd_201 := mm_fact_mk lki_201 okd_201 okl_201
theorem okf_202 : mm_fact 202 cd_202 := mm_fact_mk lki_202 okd_202 okl_202
theorem okf_203 : mm_fact 203 cd_203 := mm_fact_mk lki_203 okd_203 okl_203
theorem okf_204 : mm_fact 204 cd_204 := mm_fact_mk lki_204 okd_204 okl_204
theorem okf_205 : mm_fact 205 cd_205 := mm_fact_mk lki_205 okd_205 okl_205
theorem okf_206 : mm_fact 206 cd_206 := mm_fact_mk lki_206 okd_206 okl_206
theorem okf_207 : mm_fact 207 cd_207 := mm_fact_mk lki_207 okd_207 okl_207
theorem okf_208 : mm_fact 208 cd_208 := mm_fact_mk lki_208 okd_208 okl_208
theorem okf_209 : mm_fact 209 cd_209 := mm_fact_mk lki_209 okd_209 okl_209
theorem okf_210 : mm_fact 210 cd_210 := mm_fact_mk lki_210 okd_210 okl_210
theorem okf_211 : mm_fact 211 cd_211 := mm_fact_mk lki_211 okd_211 okl_211
theorem okf_212 : mm_fact 212 cd_212 := mm_fact_mk lki_212 okd_212 okl_212
theorem okf_213 : mm_fact 213 cd_213 := mm_fact_mk lki_213 okd_213 okl_213
theorem okf_214 : mm_fact 214 cd_214 := mm_fact_mk lki_214 okd_214 okl_214
theorem okf_215 : mm_fact 215 cd_215 := mm_fact_mk lki_215 okd_215 okl_215
theorem okf_216 : mm_fact 216 cd_216 := mm_fact_mk lki_216 okd_216 okl_216
theorem okf_217 : mm_fact 217 cd_217 := mm_fact_mk lki_217 okd_217 okl_217
theorem okf_218 : mm_fact 218 cd_218 := mm_fact_mk lki_218 okd_218 okl_218
theorem okf_219 : mm_fact 219 cd_219 := mm_fact_mk lki_219 okd_219 okl_219
theorem okf_220 : mm_fact 220 cd_220 := mm_fact_mk lki_220 okd_220 okl_220
theorem okf_221 : mm_fact 221 cd_221 := mm_fact_mk lki_221 okd_221 okl_221
theorem okf_222 : mm_fact 222 cd_222 := mm_fact_mk lki_222 okd_222 okl_222
theorem okf_223 : mm_fact 223 cd_223 := mm_fact_mk lki_223 okd_223 okl_223
theorem okf_224 : mm_fact 224 cd_224 := mm_fact_mk lki_224 okd_224 okl_224
theorem okf_225 : mm_fact 225 cd_225 := mm_fact_mk lki_225 okd_225 okl_225
theorem okf_226 : mm_fact 226 cd_226 := mm_fact_mk lki_226 okd_226 okl_226
theorem okf_227 : mm_fact 227 cd_227 := mm_fact_mk lki_227 okd_227 okl_227
theorem okf_228 : mm_fact 228 cd_228 := mm_fact_mk lki_228 okd_228 okl_228
theorem okf_229 : mm_fact 229 cd_229 := mm_fact_mk lki_229 okd_229 okl_229
theorem okf_230 : mm_fact 230 cd_230 := mm_fact_mk lki_230 okd_230 okl_230
theorem okf_231 : mm_fact 231 cd_231 := mm_fact_mk lki_231 okd_231 okl_231
theorem okf_232 : mm_fact 232 cd_232 := mm_fact_mk lki_232 okd_232 okl_232
theorem okf_233 : mm_fact 233 cd_233 := mm_fact_mk lki_233 okd_233 okl_233
theorem okf_234 : mm_fact 234 cd_234 := mm_fact_mk lki_234 okd_234 okl_234
theorem okf_235 : mm_fact 235 cd_235 := mm_fact_mk lki_235 okd_235 okl_235
theorem okf_236 : mm_fact 236 cd_236 := mm_fact_mk lki_236 okd_236 okl_236
theorem okf_237 : mm_fact 237 cd_237 := mm_fact_mk lki_237 okd_237 okl_237
theorem okf_238 : mm_fact 238 cd_238 := mm_fact_mk lki_238 okd_238 okl_238
theorem mm_facts : mm_ev mm_fact 0 mm_cds := mm_evc okf_0 (mm_evc okf_1 (mm_evc okf_2 (mm_evc okf_3 (mm_evc okf_4 (mm_evc okf_5 (mm_evc okf_6 (mm_evc okf_7 (mm_evc okf_8 (mm_evc okf_9 (mm_evc okf_10 (mm_evc okf_11 (mm_evc okf_12 (mm_evc okf_13 (mm_evc okf_14 (mm_evc okf_15 (mm_evc okf_16 (mm_evc okf_17 (mm_evc okf_18 (mm_evc okf_19 (mm_evc okf_20 (mm_evc okf_21 (mm_evc okf_22 (mm_evc okf_23 (mm_evc okf_24 (mm_evc okf_25 (mm_evc okf_26 (mm_evc okf_27 (mm_evc okf_28 (mm_evc okf_29 (mm_evc okf_30 (mm_evc okf_31 (mm_evc okf_32 (mm_evc okf_33 (mm_evc okf_34 (mm_evc okf_35 (mm_evc okf_36 (mm_evc okf_37 (mm_evc okf_38 (mm_evc okf_39 (mm_evc okf_40 (mm_evc okf_41 (mm_evc okf_42 (mm_evc okf_43 (mm_evc okf_44 (mm_evc okf_45 (mm_evc okf_46 (mm_evc okf_47 (mm_evc okf_48 (mm_evc okf_49 (mm_evc okf_50 (mm_evc okf_51 (mm_evc okf_52 (mm_evc okf_53 (mm_evc okf_54 (mm_evc okf_55 (mm_evc okf_56 (mm_evc okf_57 (mm_evc okf_58 (mm_evc okf_59 (mm_evc okf_60 (mm_evc okf_61 (mm_evc okf_62 (mm_evc okf_63 (mm_evc okf_64 (mm_evc okf_65 (mm_evc okf_66 (mm_evc okf_67 (mm_evc okf_68 (mm_evc okf_69 (mm_evc okf_70 (mm_evc okf_71 (mm_evc okf_72 (mm_evc okf_73 (mm_evc okf_74 (mm_evc okf_75 (mm_evc okf_76 (mm_evc okf_77 (mm_evc okf_78 (mm_evc okf_79 (mm_evc okf_80 (mm_evc okf_81 (mm_evc okf_82 (mm_evc okf_83 (mm_evc okf_84 (mm_evc okf_85 (mm_evc okf_86 (mm_evc okf_87 (mm_evc okf_88 (mm_evc okf_89 (mm_evc okf_90 (mm_evc okf_91 (mm_evc okf_92 (mm_evc okf_93 (mm_evc okf_94 (mm_evc okf_95 (mm_evc okf_96 (mm_evc okf_97 (mm_evc okf_98 (mm_evc okf_99 (mm_evc okf_100 (mm_evc okf_101 (mm_evc okf_102 (mm_evc okf_103 (mm_evc okf_104 (mm_evc okf_105 (mm_evc okf_106 (mm_evc okf_107 (mm_evc okf_108 (mm_evc okf_109 (mm_evc okf_110 (mm_evc okf_111 (mm_evc okf_112 (mm_evc okf_113 (mm_evc okf_114 (mm_evc okf_115 (mm_evc okf_116 (mm_evc okf_117 (mm_evc okf_118 (mm_evc okf_119 (mm_evc okf_120 (mm_evc okf_121 (mm_evc okf_122 (mm_evc okf_123 (mm_evc okf_124 (mm_evc okf_125 (mm_evc okf_126 (mm_evc okf_127 (mm_evc okf_128 (mm_evc okf_129 (mm_evc okf_130 (mm_evc okf_131 (mm_evc okf_132 (mm_evc okf_133 (mm_evc okf_134 (mm_evc okf_135 (mm_evc okf_136 (mm_evc okf_137 (mm_evc okf_138 (mm_evc okf_139 (mm_evc okf_140 (mm_evc okf_141 (mm_evc okf_142 (mm_evc okf_143 (mm_evc okf_144 (mm_evc okf_145 (mm_evc okf_146 (mm_evc okf_147 (mm_evc okf_148 (mm_evc okf_149 (mm_evc okf_150 (mm_evc okf_151 (mm_evc okf_152 (mm_evc okf_153 (mm_evc okf_154 (mm_evc okf_155 (mm_evc okf_156 (mm_evc okf_157 (mm_evc okf_158 (mm_evc okf_159 (mm_evc okf_160 (mm_evc okf_161 (mm_evc okf_162 (mm_evc okf_163 (mm_evc okf_164 (mm_evc okf_165 (mm_evc okf_166 (mm_evc okf_167 (mm_evc okf_168 (mm_evc okf_169 (mm_evc okf_170 (mm_evc okf_171 (mm_evc okf_172 (mm_evc okf_173 (mm_evc okf_174 (mm_evc okf_175 (mm_evc okf_176 (mm_evc okf_177 (mm_evc okf_178 (mm_evc okf_179 (mm_evc okf_180 (mm_evc okf_181 (mm_evc okf_182 (mm_evc okf_183 (mm_evc okf_184 (mm_evc okf_185 (mm_evc okf_186 (mm_evc okf_187 (mm_evc okf_188 (mm_evc okf_189 (mm_evc okf_190 (mm_evc okf_191 (mm_evc okf_192 (mm_evc okf_193 (mm_evc okf_194 (mm_evc okf_195 (mm_evc okf_196 (mm_evc okf_197 (mm_evc okf_198 (mm_evc okf_199 (mm_evc okf_200 (mm_evc okf_201 (mm_evc okf_202 (mm_evc okf_203 (mm_evc okf_204 (mm_evc okf_205 (mm_evc okf_206 (mm_evc okf_207 (mm_evc okf_208 (mm_evc okf_209 (mm_evc okf_210 (mm_evc okf_211 (mm_evc okf_212 (mm_evc okf_213 (mm_evc okf_214 (mm_evc okf_215 (mm_evc okf_216 (mm_evc okf_217 (mm_evc okf_218 (mm_evc okf_219 (mm_evc okf_220 (mm_evc okf_221 (mm_evc okf_222 (mm_evc okf_223 (mm_evc okf_224 (mm_evc okf_225 (mm_evc okf_226 (mm_evc okf_227 (mm_evc okf_228 (mm_evc okf_229 (mm_evc okf_230 (mm_evc okf_231 (mm_evc okf_232 (mm_evc okf_233 (mm_evc okf_234 (mm_evc okf_235 (mm_evc okf_236 (mm_evc okf_237 (mm_evc okf_238 (mm_ev0)))))))))))))))))))))))))))))))))))))))))))))))))))))))))))))))))))))))))))))))))))))))))))))))))))))))))))))))))))))))))))))))))))))))))))))))))))))))))))))))))))))))))))))))))))))))))))))))))))))))))))))))))))))))))))))))))))))))))))))))
theorem mm_meths : mm_ev (fun k _ => k = mm_law ∨ mm_lkM k) 0 mm_cds := mm_evc (Or.inr lkm_0) (mm_evc (Or.inr lkm_1) (mm_evc (Or.inr lkm_2) (mm_evc (Or.inr lkm_3) (mm_evc (Or.inr lkm_4) (mm_evc (Or.inr lkm_5) (mm_evc (Or.inr lkm_6) (mm_evc (Or.inr lkm_7) (mm_evc (Or.inr lkm_8) (mm_evc (Or.inr lkm_9) (mm_evc (Or.inr lkm_10) (mm_evc (Or.inr lkm_11) (mm_evc (Or.inr lkm_12) (mm_evc (Or.inr lkm_13) (mm_evc (Or.inr lkm_14) (mm_evc (Or.inr lkm_15) (mm_evc (Or.inr lkm_16) (mm_evc (Or.inr lkm_17) (mm_evc (Or.inr lkm_18) (mm_evc (Or.inr lkm_19) (mm_evc (Or.inr lkm_20) (mm_evc (Or.inr lkm_21) (mm_evc (Or.inr lkm_22) (mm_evc (Or.inr lkm_23) (mm_evc (Or.inr lkm_24) (mm_evc (Or.inr lkm_25) (mm_evc (Or.inr lkm_26) (mm_evc (Or.inr lkm_27) (mm_evc (Or.inr lkm_28) (mm_evc (Or.inr lkm_29) (mm_evc (Or.inr lkm_30) (mm_evc (Or.inr lkm_31) (mm_evc (Or.inr lkm_32) (mm_evc (Or.inr lkm_33) (mm_evc (Or.inr lkm_34) (mm_evc (Or.inr lkm_35) (mm_evc (Or.inr lkm_36) (mm_evc (Or.inr lkm_37) (mm_evc (Or.inr lkm_38) (mm_evc (Or.inr lkm_39) (mm_evc (Or.inr lkm_40) (mm_evc (Or.inr lkm_41) (mm_evc (Or.inr lkm_42) (mm_evc (Or.inr lkm_43) (mm_evc (Or.inr lkm_44) (mm_evc (Or.inr lkm_45) (mm_evc (Or.inr lkm_46) (mm_evc (Or.inr lkm_47) (mm_evc (Or.inr lkm_48) (mm_evc (Or.inr lkm_49) (mm_evc (Or.inr lkm_50) (mm_evc (Or.inr lkm_51) (mm_evc (Or.inr lkm_52) (mm_evc (Or.inr lkm_53) (mm_evc (Or.inr lkm_54) (mm_evc (Or.inr lkm_55) (mm_evc (Or.inr lkm_56) (mm_evc (Or.inr lkm_57) (mm_evc (Or.inr lkm_58) (mm_evc (Or.inr lkm_59) (mm_evc (Or.inr lkm_60) (mm_evc (Or.inr lkm_61) (mm_evc (Or.inr lkm_62) (mm_evc (Or.inr lkm_63) (mm_evc (Or.inr lkm_64) (mm_evc (Or.inr lkm_65) (mm_evc (Or.inr lkm_66) (mm_evc (Or.inr lkm_67) (mm_evc (Or.inr lkm_68) (mm_evc (Or.inr lkm_69) (mm_evc (Or.inr lkm_70) (mm_evc (Or.inr lkm_71) (mm_evc (Or.inr lkm_72) (mm_evc (Or.inr lkm_73) (mm_evc (Or.inr lkm_74) (mm_evc (Or.inr lkm_75) (mm_evc (Or.inr lkm_76) (mm_evc (Or.inr lkm_77) (mm_evc (Or.inr lkm_78) (mm_evc (Or.inr lkm_79) (mm_evc (Or.inr lkm_80) (mm_evc (Or.inr lkm_81) (mm_evc (Or.inr lkm_82) (mm_evc (Or.inr lkm_83) (mm_evc (Or.inr lkm_84) (mm_evc (Or.inr lkm_85) (mm_evc (Or.inr lkm_86) (mm_evc (Or.inr lkm_87) (mm_evc (Or.inr lkm_88) (mm_evc (Or.inr lkm_89) (mm_evc (Or.inr lkm_90) (mm_evc (Or.inr lkm_91) (mm_evc (Or.inr lkm_92) (mm_evc (Or.inr lkm_93) (mm_evc (Or.inr lkm_94) (mm_evc (Or.inr lkm_95) (mm_evc (Or.inr lkm_96) (mm_evc (Or.inr lkm_97) (mm_evc (Or.inr lkm_98) (mm_evc (Or.inr lkm_99) (mm_evc (Or.inr lkm_100) (mm_evc (Or.inr lkm_101) (mm_evc (Or.inr lkm_102) (mm_evc (Or.inr lkm_103) (mm_evc (Or.inr lkm_104) (mm_evc (Or.inr lkm_105) (mm_evc (Or.inr lkm_106) (mm_evc (Or.inr lkm_107) (mm_evc (Or.inr lkm_108) (mm_evc (Or.inr lkm_109) (mm_evc (Or.inr lkm_110) (mm_evc (Or.inr lkm_111) (mm_evc (Or.inr lkm_112) (mm_evc (Or.inr lkm_113) (mm_evc (Or.inr lkm_114) (mm_evc (Or.inr lkm_115) (mm_evc (Or.inr lkm_116) (mm_evc (Or.inr lkm_117) (mm_evc (Or.inr lkm_118) (mm_evc (Or.inr lkm_119) (mm_evc (Or.inr lkm_120) (mm_evc (Or.inr lkm_121) (mm_evc (Or.inr lkm_122) (mm_evc (Or.inr lkm_123) (mm_evc (Or.inr lkm_124) (mm_evc (Or.inr lkm_125) (mm_evc (Or.inr lkm_126) (mm_evc (Or.inr lkm_127) (mm_evc (Or.inr lkm_128) (mm_evc (Or.inr lkm_129) (mm_evc (Or.inr lkm_130) (mm_evc (Or.inr lkm_131) (mm_evc (Or.inr lkm_132) (mm_evc (Or.inr lkm_133) (mm_evc (Or.inr lkm_134) (mm_evc (Or.inr lkm_135) (mm_evc (Or.inr lkm_136) (mm_evc (Or.inr lkm_137) (mm_evc (Or.inr lkm_138) (mm_evc (Or.inr lkm_139) (mm_evc (Or.inr lkm_140) (mm_evc (Or.inr lkm_141) (mm_evc (Or.inr lkm_142) (mm_evc (Or.inr lkm_143) (mm_evc (Or.inr lkm_144) (mm_evc (Or.inr lkm_145) (mm_evc (Or.inr lkm_146) (mm_evc (Or.inr lkm_147) (mm_evc (Or.inr lkm_148) (mm_evc (Or.inr lkm_149) (mm_evc (Or.inr lkm_150) (mm_evc (Or.inr lkm_151) (mm_evc (Or.inr lkm_152) (mm_evc (Or.inr lkm_153) (mm_evc (Or.inr lkm_154) (mm_evc (Or.inr lkm_155) (mm_evc (Or.inr lkm_156) (mm_evc (Or.inr lkm_157) (mm_evc (Or.inr lkm_158) (mm_evc (Or.inr lkm_159) (mm_evc (Or.inr lkm_160) (mm_evc (Or.inr lkm_161) (mm_evc (Or.inr lkm_162) (mm_evc (Or.inr lkm_163) (mm_evc (Or.inr lkm_164) (mm_evc (Or.inr lkm_165) (mm_evc (Or.inr lkm_166) (mm_evc (Or.inr lkm_167) (mm_evc (Or.inr lkm_168) (mm_evc (Or.inr lkm_169) (mm_evc (Or.inr lkm_170) (mm_evc (Or.inr lkm_171) (mm_evc (Or.inr lkm_172) (mm_evc (Or.inr lkm_173) (mm_evc (Or.inr lkm_174) (mm_evc (Or.inr lkm_175) (mm_evc (Or.inr lkm_176) (mm_evc (Or.inr lkm_177) (mm_evc (Or.inr lkm_178) (mm_evc (Or.inr lkm_179) (mm_evc (Or.inr lkm_180) (mm_evc (Or.inr lkm_181) (mm_evc (Or.inr lkm_182) (mm_evc (Or.inr lkm_183) (mm_evc (Or.inr lkm_184) (mm_evc (Or.inr lkm_185) (mm_evc (Or.inr lkm_186) (mm_evc (Or.inr lkm_187) (mm_evc (Or.inr lkm_188) (mm_evc (Or.inr lkm_189) (mm_evc (Or.inr lkm_190) (mm_evc (Or.inr lkm_191) (mm_evc (Or.inr lkm_192) (mm_evc (Or.inr lkm_193) (mm_evc (Or.inr lkm_194) (mm_evc (Or.inr lkm_195) (mm_evc (Or.inr lkm_196) (mm_evc (Or.inr lkm_197) (mm_evc (Or.inr lkm_198) (mm_evc (Or.inr lkm_199) (mm_evc (Or.inr lkm_200) (mm_evc (Or.inr lkm_201) (mm_evc (Or.inr lkm_202) (mm_evc (Or.inr lkm_203) (mm_evc (Or.inr lkm_204) (mm_evc (Or.inr lkm_205) (mm_evc (Or.inr lkm_206) (mm_evc (Or.inr lkm_207) (mm_evc (Or.inr lkm_208) (mm_evc (Or.inr lkm_209) (mm_evc (Or.inr lkm_210) (mm_evc (Or.inr lkm_211) (mm_evc (Or.inr lkm_212) (mm_evc (Or.inr lkm_213) (mm_evc (Or.inr lkm_214) (mm_evc (Or.inr lkm_215) (mm_evc (Or.inr lkm_216) (mm_evc (Or.inr lkm_217) (mm_evc (Or.inr lkm_218) (mm_evc (Or.inr lkm_219) (mm_evc (Or.inr lkm_220) (mm_evc (Or.inr lkm_221) (mm_evc (Or.inr lkm_222) (mm_evc (Or.inr lkm_223) (mm_evc (Or.inr lkm_224) (mm_evc (Or.inr lkm_225) (mm_evc (Or.inr lkm_226) (mm_evc (Or.inr lkm_227) (mm_evc (Or.inr lkm_228) (mm_evc (Or.inr lkm_229) (mm_evc (Or.inr lkm_230) (mm_evc (Or.inr lkm_231) (mm_evc (Or.inr lkm_232) (mm_evc (Or.inr lkm_233) (mm_evc (Or.inr lkm_234) (mm_evc (Or.inr lkm_235) (mm_evc (Or.inr lkm_236) (mm_evc (Or.inl rfl) (mm_evc (Or.inr lkm_238) (mm_ev0)))))))))))))))))))))))))))))))))))))))))))))))))))))))))))))))))))))))))))))))))))))))))))))))))))))))))))))))))))))))))))))))))))))))))))))))))))))))))))))))))))))))))))))))))))))))))))))))))))))))))))))))))))))))))))))))))))))))))))))))
theorem mm_fetch_fact {m pc : Nat} {i : Instr} {len : Nat} {res : Int} (h : mm_fetch m pc = some (i, len, res)) :
    decode (mm_b m) pc = .ok (i, len) ∧ mm_lkI (mm_y m).cls i res ∧ (mm_len i = 0 ∨ mm_len i = len) ∧
    (∀ o, (i = .goto o ∨ (∃ c, i = .ifCond c o) ∨ (∃ c, i = .if_icmp c o) ∨ i = .ifnull o ∨ i = .ifnonnull o) → 0 ≤ (pc : Int) + o) := by
  unfold mm_fetch mm_cd at h
  have hm := mm_lk_mem h
  cases hl : mm_cds[m]? with
  | none => rw [hl] at hm; simp at hm
  | some l =>
    rw [hl] at hm
    have hf : mm_fact (0 + m) l := mm_ev_at mm_facts hl
    rw [Nat.zero_add] at hf
    obtain ⟨h1, h2, h3⟩ := hf
    have hm' : (pc, i, len, res) ∈ l := by simpa using hm
    have e2 := List.all_eq_true.mp h2 _ hm'
    have e3 := List.all_eq_true.mp h3 _ hm'
    simp only [mm_okD, decide_eq_true_eq] at e2
    simp only [mm_okL, Bool.and_eq_true, Bool.or_eq_true, beq_iff_eq] at e3
    refine ⟨e2, h1 (i, res) (List.mem_map.mpr ⟨_, hm', rfl⟩), e3.1, ?_⟩
    rintro o (rfl | ⟨c, rfl⟩ | ⟨c, rfl⟩ | rfl | rfl) <;> simpa using e3.2
theorem mm_meth_fact {k : Nat} (h : k < mm_cds.length) (hk : k ≠ mm_law) : mm_lkM k := by
  have e : mm_cds[k]? = some mm_cds[k] := List.getElem?_eq_getElem h
  have := mm_ev_at mm_meths e
  rw [Nat.zero_add] at this
  exact this.resolve_left hk
section
variable (sz b t0 : Nat) (cI cJ cZ cT : ClassId)
def mm_ent (I : mm_I) (L : mm_L) (R : mm_R) (k : Nat) (q : Nat × Nat) : va_E :=
  if q.1 = 20 then .inl (cI, q.2, .inl (I k))
  else if q.1 = 21 then .inl (cJ, q.2, .inr (.inl (L k)))
  else if q.1 = 22 then .inl (cZ, q.2, .inl (I k))
  else if q.1 = 23 then .inl (cT, q.2, .inr (.inr (.inr (.inr (fun j => (R k j).map (mm_ad sz b t0))))))
  else .inr (q.1, (List.range q.2).map (fun j => if mm_ft q.1 j = 1 then va_rf ((R k j).map (mm_ad sz b t0)) else .int (I k j)))
def mm_ws (S : mm_S) (I : mm_I) (L : mm_L) (R : mm_R) : va_W := (S.drop 2).mapIdx (fun i q => (sz + i, mm_ent sz b t0 cI cJ cZ cT I L R (i + 2) q))
def mm_al (ls : mm_ls) : List (Nat × Value) := (List.range ls.length).filterMap (fun k => (mm_ld ls k).map (fun v => (k, mm_tr sz b t0 v)))
def mm_lh (lsA : Array Slot) (n : Nat) (ls : mm_ls) : Prop := ls.length = n ∧ lv_has lsA n (mm_al sz b t0 ls)
end
section
variable {sz b t0 : Nat} {cI cJ cZ cT : ClassId} {S : mm_S} {I I' : mm_I} {L L' : mm_L} {R R' : mm_R}
theorem mm_up_ne {α : Type} {f : Nat → Nat → α} {a j k : Nat} {v : α} (h : k ≠ a) : mm_up f a j v k = f k := by
  funext q; simp [mm_up, h]
theorem mm_rw_ne {α : Type} {f : Nat → Nat → α} {a k : Nat} {g : Nat → α} (h : k ≠ a) : mm_rw f a g k = f k := by
  funext q; simp [mm_rw, h]
theorem mm_rw_eq {α : Type} {f : Nat → Nat → α} {a : Nat} {g : Nat → α} : mm_rw f a g a = g := by
  funext q; simp [mm_rw]
theorem mm_up_eq {α : Type} {f : Nat → Nat → α} {a j : Nat} {v : α} : mm_up f a j v a = fun q => if q = j then v else f a q := by
  funext q; simp [mm_up]
theorem mm_ent_ne {k a : Nat} {q : Nat × Nat} (h : k ≠ a) (hI : I' k = I k) (hL : L' k = L k) (hR : R' k = R k) : mm_ent sz b t0 cI cJ cZ cT I' L' R' k q = mm_ent sz b t0 cI cJ cZ cT I L R k q := by
  simp only [mm_ent, hI, hL, hR]
theorem mm_ws_get {a : Nat} {q : Nat × Nat} (h : S[a]? = some q) (h2 : 2 ≤ a) : (mm_ws sz b t0 cI cJ cZ cT S I L R)[a - 2]? = some (mm_ad sz b t0 a, mm_ent sz b t0 cI cJ cZ cT I L R a q) := by
  obtain ⟨k, rfl⟩ : ∃ k, a = k + 2 := ⟨a - 2, by omega⟩
  rw [show k + 2 - 2 = k from rfl, mm_ws, List.getElem?_mapIdx, List.getElem?_drop, Nat.add_comm 2 k, h]
  rfl
theorem mm_ws_inv {k : Nat} {x : Nat × va_E} (h : (mm_ws sz b t0 cI cJ cZ cT S I L R)[k]? = some x) : ∃ q, S[k + 2]? = some q ∧ x = (sz + k, mm_ent sz b t0 cI cJ cZ cT I L R (k + 2) q) := by
  rw [mm_ws, List.getElem?_mapIdx, List.getElem?_drop, Nat.add_comm 2 k] at h
  cases hq : S[k + 2]? with
  | none => rw [hq] at h; cases h
  | some q => rw [hq] at h; exact ⟨q, rfl, (Option.some.inj h).symm⟩
theorem mm_ws_D : va_D (fun q => sz ≤ q) (mm_ws sz b t0 cI cJ cZ cT S I L R) := by
  refine ⟨fun i j x y hx hy hxy => ?_, fun k x hx => ?_⟩
  · obtain ⟨_, -, rfl⟩ := mm_ws_inv hx
    obtain ⟨_, -, rfl⟩ := mm_ws_inv hy
    have : sz + i = sz + j := hxy
    omega
  · obtain ⟨_, -, rfl⟩ := mm_ws_inv hx
    exact Nat.le_add_right _ _
theorem mm_ws_set {a : Nat} {q : Nat × Nat} (h : S[a]? = some q) (h2 : 2 ≤ a) (ho : ∀ k q, k ≠ a → mm_ent sz b t0 cI cJ cZ cT I' L' R' k q = mm_ent sz b t0 cI cJ cZ cT I L R k q) :
    (mm_ws sz b t0 cI cJ cZ cT S I L R).set (a - 2) (mm_ad sz b t0 a, mm_ent sz b t0 cI cJ cZ cT I' L' R' a q) = mm_ws sz b t0 cI cJ cZ cT S I' L' R' := by
  apply List.ext_getElem?
  intro k
  have hlen : a - 2 < (mm_ws sz b t0 cI cJ cZ cT S I L R).length := (List.getElem?_eq_some_iff.mp (mm_ws_get (I := I) (L := L) (R := R) h h2)).1
  by_cases hk : k = a - 2
  · subst hk
    rw [List.getElem?_set_self hlen]
    exact (mm_ws_get h h2).symm
  · rw [List.getElem?_set_ne (fun e => hk e.symm)]
    simp only [mm_ws, List.getElem?_mapIdx, List.getElem?_drop]
    cases hq : S[2 + k]? with
    | none => rfl
    | some q' =>
      simp only [Option.map_some]
      rw [ho (k + 2) q' (by omega)]
theorem mm_ws_push {q : Nat × Nat} (h2 : 2 ≤ S.length) (ho : ∀ k q, k ≠ S.length → mm_ent sz b t0 cI cJ cZ cT I' L' R' k q = mm_ent sz b t0 cI cJ cZ cT I L R k q) :
    mm_ws sz b t0 cI cJ cZ cT S I L R ++ [(sz + (S.length - 2), mm_ent sz b t0 cI cJ cZ cT I' L' R' S.length q)] = mm_ws sz b t0 cI cJ cZ cT (S ++ [q]) I' L' R' := by
  have hw : (mm_ws sz b t0 cI cJ cZ cT S I L R).length = S.length - 2 := by simp [mm_ws]
  apply List.ext_getElem?
  intro k
  by_cases hk : k < S.length - 2
  · rw [List.getElem?_append_left (by rw [hw]; exact hk)]
    simp only [mm_ws, List.getElem?_mapIdx, List.getElem?_drop]
    rw [List.getElem?_append_left (by omega)]
    cases hq : S[2 + k]? with
    | none => rfl
    | some q' =>
      simp only [Option.map_some]
      rw [ho (k + 2) q' (by omega)]
  · rw [List.getElem?_append_right (by rw [hw]; omega), hw]
    by_cases hk2 : k = S.length - 2
    · subst hk2
      rw [Nat.sub_self]
      simp only [mm_ws, List.getElem?_mapIdx, List.getElem?_drop]
      rw [List.getElem?_append_right (by omega), show 2 + (S.length - 2) - S.length = 0 by omega, show S.length - 2 + 2 = S.length by omega]
      rfl
    · rw [List.getElem?_eq_none (by simp; omega), List.getElem?_eq_none (by simp [mm_ws]; omega)]
/-! locals -/
theorem mm_al_mem {ls : mm_ls} {k : Nat} {w : Value} : (k, w) ∈ mm_al sz b t0 ls ↔ ∃ v, mm_ld ls k = some v ∧ w = mm_tr sz b t0 v := by
  unfold mm_al
  rw [List.mem_filterMap]
  constructor
  · rintro ⟨j, -, hj⟩
    cases hv : mm_ld ls j with
    | none => rw [hv] at hj; cases hj
    | some v =>
      rw [hv] at hj
      have := Option.some.inj hj
      have e1 := congrArg Prod.fst this
      have e2 := congrArg Prod.snd this
      simp only at e1 e2
      subst e1
      exact ⟨v, hv, e2.symm⟩
  · rintro ⟨v, hv, rfl⟩
    refine ⟨k, ?_, by rw [hv]; rfl⟩
    rw [List.mem_range]
    unfold mm_ld at hv
    cases hl : ls[k]? with
    | none => rw [hl] at hv; cases hv
    | some x => exact (List.getElem?_eq_some_iff.mp hl).1
theorem mm_lh_get {lsA : Array Slot} {n : Nat} {ls : mm_ls} {k : Nat} {v : Value} (h : mm_lh sz b t0 lsA n ls) (hv : mm_ld ls k = some v) : lsA[k]? = some (.val (mm_tr sz b t0 v)) := h.2.2.2 _ (mm_al_mem.mpr ⟨v, hv, rfl⟩)
theorem mm_ld_cons0 {l : Option Value} {r : mm_ls} : mm_ld (l :: r) 0 = l := by
  unfold mm_ld; cases l <;> rfl
theorem mm_ld_cons {l : Option Value} {r : mm_ls} {k : Nat} : mm_ld (l :: r) (k + 1) = mm_ld r k := by
  unfold mm_ld; rw [List.getElem?_cons_succ]
theorem mm_clr_some {l : Option Value} {w : Value} (h : mm_clr l = some w) : l = some w ∧ w.category ≠ 2 := by
  cases l with
  | none => cases h
  | some v => cases v <;> first | (cases h; done) | (simp [mm_clr] at h; subst h; exact ⟨rfl, by simp [Value.category]⟩)
theorem mm_st1_spec {v : Value} : ∀ {ls ls' : mm_ls} {i : Nat}, mm_st1 ls i v = some ls' → i < ls.length ∧ ls'.length = ls.length ∧ ∀ k w, mm_ld ls' k = some w → (k = i ∧ w = v) ∨ (k ≠ i ∧ mm_ld ls k = some w ∧ (k + 1 = i → w.category ≠ 2)) := by
  intro ls
  induction ls with
  | nil => intro ls' i h; cases i with
    | zero => cases h
    | succ i => cases i <;> cases h
  | cons l r ih =>
    intro ls' i h
    match i, h with
    | 0, h =>
      obtain rfl := Option.some.inj h
      refine ⟨Nat.zero_lt_succ _, rfl, fun k w hk => ?_⟩
      cases k with
      | zero => rw [mm_ld_cons0] at hk; exact Or.inl ⟨rfl, (Option.some.inj hk).symm⟩
      | succ k => rw [mm_ld_cons] at hk; exact Or.inr ⟨by omega, by rw [mm_ld_cons]; exact hk, fun e => by omega⟩
    | 1, h =>
      cases r with
      | nil => cases h
      | cons l2 r =>
        obtain rfl := Option.some.inj h
        refine ⟨by simp, rfl, fun k w hk => ?_⟩
        match k, hk with
        | 0, hk => rw [mm_ld_cons0] at hk; obtain ⟨e1, e2⟩ := mm_clr_some hk; exact Or.inr ⟨by omega, by rw [mm_ld_cons0]; exact e1, fun _ => e2⟩
        | 1, hk => rw [mm_ld_cons, mm_ld_cons0] at hk; exact Or.inl ⟨rfl, (Option.some.inj hk).symm⟩
        | k + 2, hk => rw [mm_ld_cons, mm_ld_cons] at hk; exact Or.inr ⟨by omega, by rw [mm_ld_cons, mm_ld_cons]; exact hk, fun e => by omega⟩
    | i + 2, h =>
      rw [mm_st1] at h
      cases h1 : mm_st1 r (i + 1) v with
      | none => rw [h1] at h; cases h
      | some r' =>
        rw [h1] at h
        obtain rfl := Option.some.inj h
        obtain ⟨a1, a2, a3⟩ := ih h1
        refine ⟨by simp; omega, by simp [a2], fun k w hk => ?_⟩
        cases k with
        | zero => rw [mm_ld_cons0] at hk; exact Or.inr ⟨by omega, by rw [mm_ld_cons0]; exact hk, fun e => by omega⟩
        | succ k =>
          rw [mm_ld_cons] at hk
          rcases a3 k w hk with ⟨e1, e2⟩ | ⟨e1, e2, e3⟩
          · exact Or.inl ⟨by omega, e2⟩
          · exact Or.inr ⟨by omega, by rw [mm_ld_cons]; exact e2, fun e => e3 (by omega)⟩
theorem mm_st2_spec {v : Value} : ∀ {ls ls' : mm_ls} {i : Nat}, mm_st2 ls i v = some ls' → i + 1 < ls.length ∧ ls'.length = ls.length ∧ ∀ k w, mm_ld ls' k = some w → (k = i ∧ w = v) ∨ (k ≠ i ∧ k ≠ i + 1 ∧ mm_ld ls k = some w ∧ (k + 1 = i → w.category ≠ 2)) := by
  intro ls
  induction ls with
  | nil => intro ls' i h; cases i with
    | zero => cases h
    | succ i => cases i <;> cases h
  | cons l r ih =>
    intro ls' i h
    match i, h with
    | 0, h =>
      cases r with
      | nil => cases h
      | cons l2 r =>
        obtain rfl := Option.some.inj h
        refine ⟨by simp, rfl, fun k w hk => ?_⟩
        match k, hk with
        | 0, hk => rw [mm_ld_cons0] at hk; exact Or.inl ⟨rfl, (Option.some.inj hk).symm⟩
        | 1, hk => rw [mm_ld_cons, mm_ld_cons0] at hk; cases hk
        | k + 2, hk => rw [mm_ld_cons, mm_ld_cons] at hk; exact Or.inr ⟨by omega, by omega, by rw [mm_ld_cons, mm_ld_cons]; exact hk, fun e => by omega⟩
    | 1, h =>
      match r, h with
      | [], h => cases h
      | [_], h => cases h
      | l2 :: l3 :: r, h =>
        obtain rfl := Option.some.inj h
        refine ⟨by simp, rfl, fun k w hk => ?_⟩
        match k, hk with
        | 0, hk => rw [mm_ld_cons0] at hk; obtain ⟨e1, e2⟩ := mm_clr_some hk; exact Or.inr ⟨by omega, by omega, by rw [mm_ld_cons0]; exact e1, fun _ => e2⟩
        | 1, hk => rw [mm_ld_cons, mm_ld_cons0] at hk; exact Or.inl ⟨rfl, (Option.some.inj hk).symm⟩
        | 2, hk => rw [mm_ld_cons, mm_ld_cons, mm_ld_cons0] at hk; cases hk
        | k + 3, hk => rw [mm_ld_cons, mm_ld_cons, mm_ld_cons] at hk; exact Or.inr ⟨by omega, by omega, by rw [mm_ld_cons, mm_ld_cons, mm_ld_cons]; exact hk, fun e => by omega⟩
    | i + 2, h =>
      rw [mm_st2] at h
      cases h1 : mm_st2 r (i + 1) v with
      | none => rw [h1] at h; cases h
      | some r' =>
        rw [h1] at h
        obtain rfl := Option.some.inj h
        obtain ⟨a1, a2, a3⟩ := ih h1
        refine ⟨by simp; omega, by simp [a2], fun k w hk => ?_⟩
        cases k with
        | zero => rw [mm_ld_cons0] at hk; exact Or.inr ⟨by omega, by omega, by rw [mm_ld_cons0]; exact hk, fun e => by omega⟩
        | succ k =>
          rw [mm_ld_cons] at hk
          rcases a3 k w hk with ⟨e1, e2⟩ | ⟨e1, e1', e2, e3⟩
          · exact Or.inl ⟨by omega, e2⟩
          · exact Or.inr ⟨by omega, by omega, by rw [mm_ld_cons]; exact e2, fun e => e3 (by omega)⟩
theorem mm_lh_st1 {lsA' : Array Slot} {n i : Nat} {ls ls' : mm_ls} {v : Value} (hn : ls.length = n) (h : mm_st1 ls i v = some ls')
    (h' : lv_has lsA' n ((i, mm_tr sz b t0 v) :: (mm_al sz b t0 ls).filter (fun q => !(q.1 == i) && !(q.1 + 1 == i && q.2.category == 2)))) : mm_lh sz b t0 lsA' n ls' := by
  obtain ⟨a1, a2, a3⟩ := mm_st1_spec h
  refine ⟨a2.trans hn, h'.1, h'.2.1, fun q hq => h'.2.2 q ?_⟩
  obtain ⟨k, w⟩ := q
  obtain ⟨u, hu, rfl⟩ := mm_al_mem.mp hq
  rcases a3 k u hu with ⟨rfl, rfl⟩ | ⟨e1, e2, e3⟩
  · exact List.mem_cons_self
  · refine List.mem_cons_of_mem _ (List.mem_filter.mpr ⟨mm_al_mem.mpr ⟨u, e2, rfl⟩, ?_⟩)
    simp only [mm_tr_cat, Bool.and_eq_true, Bool.not_eq_true', beq_eq_false_iff_ne, ne_eq, Bool.and_eq_false_iff]
    refine ⟨e1, ?_⟩
    by_cases h1 : k + 1 = i
    · exact Or.inr (e3 h1)
    · exact Or.inl h1
theorem mm_lh_st2 {lsA' : Array Slot} {n i : Nat} {ls ls' : mm_ls} {v : Value} (hn : ls.length = n) (h : mm_st2 ls i v = some ls')
    (h' : lv_has lsA' n ((i, mm_tr sz b t0 v) :: (mm_al sz b t0 ls).filter (fun q => !(q.1 == i) && (!(q.1 == i + 1) && !(q.1 + 1 == i && q.2.category == 2))))) : mm_lh sz b t0 lsA' n ls' := by
  obtain ⟨a1, a2, a3⟩ := mm_st2_spec h
  refine ⟨a2.trans hn, h'.1, h'.2.1, fun q hq => h'.2.2 q ?_⟩
  obtain ⟨k, w⟩ := q
  obtain ⟨u, hu, rfl⟩ := mm_al_mem.mp hq
  rcases a3 k u hu with ⟨rfl, rfl⟩ | ⟨e1, e1', e2, e3⟩
  · exact List.mem_cons_self
  · refine List.mem_cons_of_mem _ (List.mem_filter.mpr ⟨mm_al_mem.mpr ⟨u, e2, rfl⟩, ?_⟩)
    simp only [mm_tr_cat, Bool.and_eq_true, Bool.not_eq_true', beq_eq_false_iff_ne, ne_eq, Bool.and_eq_false_iff]
    refine ⟨e1, e1', ?_⟩
    by_cases h1 : k + 1 = i
    · exact Or.inr (e3 h1)
    · exact Or.inl h1
end
